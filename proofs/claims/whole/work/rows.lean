section
-- ===== PART A: goes FIRST, ahead of the names: the tables' words, and 'selects' of the private methods out of them =====
/-- a private method of a class that the tables say can be made, by its rows of tables_1 -/
def lw_okq (q : MethodName × Nat) : Prop := (q.1.cls ≠ "java/lang/invoke/MethodHandle" ∧ q.1.cls ≠ "java/lang/invoke/VarHandle") ∧ Cond.instantiable q.1.cls q.2 ∈ tables_1 ∧ Cond.privateMethod q.1 ∈ tables_1 ∧ Cond.instanceMethod q.1 ∈ tables_1
theorem lw_p0 : lw_okq (⟨"SpanStamps$Forecast", "countChanges", "([I)I"⟩, 6) := ⟨⟨by decide +kernel, by decide +kernel⟩, List.mem_of_getElem? (i := 66) (by decide +kernel), List.mem_of_getElem? (i := 219) (by decide +kernel), List.mem_of_getElem? (i := 220) (by decide +kernel)⟩
theorem lw_p1 : lw_okq (⟨"SpanStamps$Forecast", "choosePiece", "(J)V"⟩, 6) := ⟨⟨by decide +kernel, by decide +kernel⟩, List.mem_of_getElem? (i := 66) (by decide +kernel), List.mem_of_getElem? (i := 223) (by decide +kernel), List.mem_of_getElem? (i := 224) (by decide +kernel)⟩
theorem lw_p2 : lw_okq (⟨"SpanStamps$Forecast", "raisePiece", "()V"⟩, 6) := ⟨⟨by decide +kernel, by decide +kernel⟩, List.mem_of_getElem? (i := 66) (by decide +kernel), List.mem_of_getElem? (i := 235) (by decide +kernel), List.mem_of_getElem? (i := 236) (by decide +kernel)⟩
theorem lw_p3 : lw_okq (⟨"SpanStamps$Circle", "isEvenWithEarlier", "(I)Z"⟩, 2) := ⟨⟨by decide +kernel, by decide +kernel⟩, List.mem_of_getElem? (i := 21) (by decide +kernel), List.mem_of_getElem? (i := 342) (by decide +kernel), List.mem_of_getElem? (i := 343) (by decide +kernel)⟩
theorem lw_p4 : lw_okq (⟨"SpanStamps$Circle", "isNamedAsEarlier", "(I)Z"⟩, 2) := ⟨⟨by decide +kernel, by decide +kernel⟩, List.mem_of_getElem? (i := 21) (by decide +kernel), List.mem_of_getElem? (i := 351) (by decide +kernel), List.mem_of_getElem? (i := 352) (by decide +kernel)⟩
theorem lw_p5 : lw_okq (⟨"SpanStamps$Circle", "isBeforeAny", "(I)Z"⟩, 2) := ⟨⟨by decide +kernel, by decide +kernel⟩, List.mem_of_getElem? (i := 21) (by decide +kernel), List.mem_of_getElem? (i := 359) (by decide +kernel), List.mem_of_getElem? (i := 360) (by decide +kernel)⟩
theorem lw_p6 : lw_okq (⟨"SpanStampsModel", "isStamp", "(I)Z"⟩, 18) := ⟨⟨by decide +kernel, by decide +kernel⟩, List.mem_of_getElem? (i := 380) (by decide +kernel), List.mem_of_getElem? (i := 448) (by decide +kernel), List.mem_of_getElem? (i := 449) (by decide +kernel)⟩
theorem lw_p7 : lw_okq (⟨"SpanStampsModel", "add", "(I)I"⟩, 18) := ⟨⟨by decide +kernel, by decide +kernel⟩, List.mem_of_getElem? (i := 380) (by decide +kernel), List.mem_of_getElem? (i := 461) (by decide +kernel), List.mem_of_getElem? (i := 462) (by decide +kernel)⟩
theorem lw_p8 : lw_okq (⟨"SpanStampsModel", "free", "()I"⟩, 18) := ⟨⟨by decide +kernel, by decide +kernel⟩, List.mem_of_getElem? (i := 380) (by decide +kernel), List.mem_of_getElem? (i := 465) (by decide +kernel), List.mem_of_getElem? (i := 466) (by decide +kernel)⟩
theorem lw_p9 : lw_okq (⟨"SpanStampsModel", "copyHeights", "(II)V"⟩, 18) := ⟨⟨by decide +kernel, by decide +kernel⟩, List.mem_of_getElem? (i := 380) (by decide +kernel), List.mem_of_getElem? (i := 469) (by decide +kernel), List.mem_of_getElem? (i := 470) (by decide +kernel)⟩
theorem lw_p10 : lw_okq (⟨"SpanStampsModel", "part", "(JII)V"⟩, 18) := ⟨⟨by decide +kernel, by decide +kernel⟩, List.mem_of_getElem? (i := 380) (by decide +kernel), List.mem_of_getElem? (i := 473) (by decide +kernel), List.mem_of_getElem? (i := 474) (by decide +kernel)⟩
theorem lw_p11 : lw_okq (⟨"SpanStampsModel", "look", "(I)V"⟩, 18) := ⟨⟨by decide +kernel, by decide +kernel⟩, List.mem_of_getElem? (i := 380) (by decide +kernel), List.mem_of_getElem? (i := 500) (by decide +kernel), List.mem_of_getElem? (i := 501) (by decide +kernel)⟩
theorem lw_p12 : lw_okq (⟨"SpanStampsModel", "fill", "(J)V"⟩, 18) := ⟨⟨by decide +kernel, by decide +kernel⟩, List.mem_of_getElem? (i := 380) (by decide +kernel), List.mem_of_getElem? (i := 504) (by decide +kernel), List.mem_of_getElem? (i := 505) (by decide +kernel)⟩
theorem lw_p13 : lw_okq (⟨"SpanStampsModel", "wayOf", "(IJ)I"⟩, 18) := ⟨⟨by decide +kernel, by decide +kernel⟩, List.mem_of_getElem? (i := 380) (by decide +kernel), List.mem_of_getElem? (i := 508) (by decide +kernel), List.mem_of_getElem? (i := 509) (by decide +kernel)⟩
theorem lw_p14 : lw_okq (⟨"SpanStampsModel", "areAlike", "(I)Z"⟩, 18) := ⟨⟨by decide +kernel, by decide +kernel⟩, List.mem_of_getElem? (i := 380) (by decide +kernel), List.mem_of_getElem? (i := 512) (by decide +kernel), List.mem_of_getElem? (i := 513) (by decide +kernel)⟩
theorem lw_p15 : lw_okq (⟨"SpanStampsModel", "leastIn", "(I)I"⟩, 18) := ⟨⟨by decide +kernel, by decide +kernel⟩, List.mem_of_getElem? (i := 380) (by decide +kernel), List.mem_of_getElem? (i := 516) (by decide +kernel), List.mem_of_getElem? (i := 517) (by decide +kernel)⟩
def lw_privs_1 : List (MethodName × Nat) := [(⟨"SpanStamps$Forecast", "countChanges", "([I)I"⟩, 6), (⟨"SpanStamps$Forecast", "choosePiece", "(J)V"⟩, 6), (⟨"SpanStamps$Forecast", "raisePiece", "()V"⟩, 6), (⟨"SpanStamps$Circle", "isEvenWithEarlier", "(I)Z"⟩, 2), (⟨"SpanStamps$Circle", "isNamedAsEarlier", "(I)Z"⟩, 2), (⟨"SpanStamps$Circle", "isBeforeAny", "(I)Z"⟩, 2), (⟨"SpanStampsModel", "isStamp", "(I)Z"⟩, 18), (⟨"SpanStampsModel", "add", "(I)I"⟩, 18), (⟨"SpanStampsModel", "free", "()I"⟩, 18), (⟨"SpanStampsModel", "copyHeights", "(II)V"⟩, 18), (⟨"SpanStampsModel", "part", "(JII)V"⟩, 18), (⟨"SpanStampsModel", "look", "(I)V"⟩, 18), (⟨"SpanStampsModel", "fill", "(J)V"⟩, 18), (⟨"SpanStampsModel", "wayOf", "(IJ)I"⟩, 18), (⟨"SpanStampsModel", "areAlike", "(I)Z"⟩, 18), (⟨"SpanStampsModel", "leastIn", "(I)I"⟩, 18)]
theorem lw_r1 : ∀ q ∈ lw_privs_1, lw_okq q := List.forall_mem_cons.mpr ⟨lw_p0, List.forall_mem_cons.mpr ⟨lw_p1, List.forall_mem_cons.mpr ⟨lw_p2, List.forall_mem_cons.mpr ⟨lw_p3, List.forall_mem_cons.mpr ⟨lw_p4, List.forall_mem_cons.mpr ⟨lw_p5, List.forall_mem_cons.mpr ⟨lw_p6, List.forall_mem_cons.mpr ⟨lw_p7, List.forall_mem_cons.mpr ⟨lw_p8, List.forall_mem_cons.mpr ⟨lw_p9, List.forall_mem_cons.mpr ⟨lw_p10, List.forall_mem_cons.mpr ⟨lw_p11, List.forall_mem_cons.mpr ⟨lw_p12, List.forall_mem_cons.mpr ⟨lw_p13, List.forall_mem_cons.mpr ⟨lw_p14, List.forall_mem_cons.mpr ⟨lw_p15, fun _ h => absurd h List.not_mem_nil⟩⟩⟩⟩⟩⟩⟩⟩⟩⟩⟩⟩⟩⟩⟩⟩
theorem lw_p16 : lw_okq (⟨"SpanStampsModel", "greatestIn", "(I)I"⟩, 18) := ⟨⟨by decide +kernel, by decide +kernel⟩, List.mem_of_getElem? (i := 380) (by decide +kernel), List.mem_of_getElem? (i := 520) (by decide +kernel), List.mem_of_getElem? (i := 521) (by decide +kernel)⟩
theorem lw_p17 : lw_okq (⟨"SpanStampsModel", "level", "(II)V"⟩, 18) := ⟨⟨by decide +kernel, by decide +kernel⟩, List.mem_of_getElem? (i := 380) (by decide +kernel), List.mem_of_getElem? (i := 527) (by decide +kernel), List.mem_of_getElem? (i := 528) (by decide +kernel)⟩
theorem lw_p18 : lw_okq (⟨"SpanStampsModel", "changed", "(I)I"⟩, 18) := ⟨⟨by decide +kernel, by decide +kernel⟩, List.mem_of_getElem? (i := 380) (by decide +kernel), List.mem_of_getElem? (i := 534) (by decide +kernel), List.mem_of_getElem? (i := 535) (by decide +kernel)⟩
theorem lw_p19 : lw_okq (⟨"SpanStampsModel", "piece", "(J)I"⟩, 18) := ⟨⟨by decide +kernel, by decide +kernel⟩, List.mem_of_getElem? (i := 380) (by decide +kernel), List.mem_of_getElem? (i := 538) (by decide +kernel), List.mem_of_getElem? (i := 539) (by decide +kernel)⟩
theorem lw_p20 : lw_okq (⟨"SpanStampsModel", "costOf", "(I)I"⟩, 18) := ⟨⟨by decide +kernel, by decide +kernel⟩, List.mem_of_getElem? (i := 380) (by decide +kernel), List.mem_of_getElem? (i := 545) (by decide +kernel), List.mem_of_getElem? (i := 546) (by decide +kernel)⟩
theorem lw_p21 : lw_okq (⟨"SpanStampsModel", "heard", "(II)I"⟩, 18) := ⟨⟨by decide +kernel, by decide +kernel⟩, List.mem_of_getElem? (i := 380) (by decide +kernel), List.mem_of_getElem? (i := 553) (by decide +kernel), List.mem_of_getElem? (i := 554) (by decide +kernel)⟩
theorem lw_p22 : lw_okq (⟨"SpanStampsModel", "many", "()I"⟩, 18) := ⟨⟨by decide +kernel, by decide +kernel⟩, List.mem_of_getElem? (i := 380) (by decide +kernel), List.mem_of_getElem? (i := 561) (by decide +kernel), List.mem_of_getElem? (i := 562) (by decide +kernel)⟩
theorem lw_p23 : lw_okq (⟨"SpanStampsModel", "orderOf", "(II)I"⟩, 18) := ⟨⟨by decide +kernel, by decide +kernel⟩, List.mem_of_getElem? (i := 380) (by decide +kernel), List.mem_of_getElem? (i := 577) (by decide +kernel), List.mem_of_getElem? (i := 578) (by decide +kernel)⟩
theorem lw_p24 : lw_okq (⟨"SpanStampsModel", "layName", "(J)V"⟩, 18) := ⟨⟨by decide +kernel, by decide +kernel⟩, List.mem_of_getElem? (i := 380) (by decide +kernel), List.mem_of_getElem? (i := 597) (by decide +kernel), List.mem_of_getElem? (i := 598) (by decide +kernel)⟩
theorem lw_p25 : lw_okq (⟨"SpanStampsModel", "await", "(II)V"⟩, 18) := ⟨⟨by decide +kernel, by decide +kernel⟩, List.mem_of_getElem? (i := 380) (by decide +kernel), List.mem_of_getElem? (i := 601) (by decide +kernel), List.mem_of_getElem? (i := 602) (by decide +kernel)⟩
theorem lw_p26 : lw_okq (⟨"SpanStampsModel", "tell", "(I)V"⟩, 18) := ⟨⟨by decide +kernel, by decide +kernel⟩, List.mem_of_getElem? (i := 380) (by decide +kernel), List.mem_of_getElem? (i := 605) (by decide +kernel), List.mem_of_getElem? (i := 606) (by decide +kernel)⟩
theorem lw_p27 : lw_okq (⟨"SpanStampsModel", "told", "(I)I"⟩, 18) := ⟨⟨by decide +kernel, by decide +kernel⟩, List.mem_of_getElem? (i := 380) (by decide +kernel), List.mem_of_getElem? (i := 609) (by decide +kernel), List.mem_of_getElem? (i := 610) (by decide +kernel)⟩
theorem lw_p28 : lw_okq (⟨"SpanStampsModel", "layTree", "(I)V"⟩, 18) := ⟨⟨by decide +kernel, by decide +kernel⟩, List.mem_of_getElem? (i := 380) (by decide +kernel), List.mem_of_getElem? (i := 617) (by decide +kernel), List.mem_of_getElem? (i := 618) (by decide +kernel)⟩
theorem lw_p29 : lw_okq (⟨"SpanStampsModel", "isBeforeNone", "(I)Z"⟩, 18) := ⟨⟨by decide +kernel, by decide +kernel⟩, List.mem_of_getElem? (i := 380) (by decide +kernel), List.mem_of_getElem? (i := 636) (by decide +kernel), List.mem_of_getElem? (i := 637) (by decide +kernel)⟩
theorem lw_p30 : lw_okq (⟨"SpanStampsModel", "isFirst", "(IZ)Z"⟩, 18) := ⟨⟨by decide +kernel, by decide +kernel⟩, List.mem_of_getElem? (i := 380) (by decide +kernel), List.mem_of_getElem? (i := 640) (by decide +kernel), List.mem_of_getElem? (i := 641) (by decide +kernel)⟩
theorem lw_p31 : lw_okq (⟨"SpanStampsModel", "numbers", "()I"⟩, 18) := ⟨⟨by decide +kernel, by decide +kernel⟩, List.mem_of_getElem? (i := 380) (by decide +kernel), List.mem_of_getElem? (i := 656) (by decide +kernel), List.mem_of_getElem? (i := 657) (by decide +kernel)⟩
def lw_privs_2 : List (MethodName × Nat) := [(⟨"SpanStampsModel", "greatestIn", "(I)I"⟩, 18), (⟨"SpanStampsModel", "level", "(II)V"⟩, 18), (⟨"SpanStampsModel", "changed", "(I)I"⟩, 18), (⟨"SpanStampsModel", "piece", "(J)I"⟩, 18), (⟨"SpanStampsModel", "costOf", "(I)I"⟩, 18), (⟨"SpanStampsModel", "heard", "(II)I"⟩, 18), (⟨"SpanStampsModel", "many", "()I"⟩, 18), (⟨"SpanStampsModel", "orderOf", "(II)I"⟩, 18), (⟨"SpanStampsModel", "layName", "(J)V"⟩, 18), (⟨"SpanStampsModel", "await", "(II)V"⟩, 18), (⟨"SpanStampsModel", "tell", "(I)V"⟩, 18), (⟨"SpanStampsModel", "told", "(I)I"⟩, 18), (⟨"SpanStampsModel", "layTree", "(I)V"⟩, 18), (⟨"SpanStampsModel", "isBeforeNone", "(I)Z"⟩, 18), (⟨"SpanStampsModel", "isFirst", "(IZ)Z"⟩, 18), (⟨"SpanStampsModel", "numbers", "()I"⟩, 18)]
theorem lw_r2 : ∀ q ∈ lw_privs_2, lw_okq q := List.forall_mem_cons.mpr ⟨lw_p16, List.forall_mem_cons.mpr ⟨lw_p17, List.forall_mem_cons.mpr ⟨lw_p18, List.forall_mem_cons.mpr ⟨lw_p19, List.forall_mem_cons.mpr ⟨lw_p20, List.forall_mem_cons.mpr ⟨lw_p21, List.forall_mem_cons.mpr ⟨lw_p22, List.forall_mem_cons.mpr ⟨lw_p23, List.forall_mem_cons.mpr ⟨lw_p24, List.forall_mem_cons.mpr ⟨lw_p25, List.forall_mem_cons.mpr ⟨lw_p26, List.forall_mem_cons.mpr ⟨lw_p27, List.forall_mem_cons.mpr ⟨lw_p28, List.forall_mem_cons.mpr ⟨lw_p29, List.forall_mem_cons.mpr ⟨lw_p30, List.forall_mem_cons.mpr ⟨lw_p31, fun _ h => absurd h List.not_mem_nil⟩⟩⟩⟩⟩⟩⟩⟩⟩⟩⟩⟩⟩⟩⟩⟩
def lw_privs : List (MethodName × Nat) := lw_privs_1 ++ (lw_privs_2)
def lw_tbl : List Cond := k2_sels lw_privs ++ tables_1
theorem lw_privs_ok : ∀ q ∈ lw_privs, lw_okq q := by
  show ∀ q ∈ lw_privs_1 ++ (lw_privs_2), lw_okq q
  exact List.forall_mem_append.mpr ⟨lw_r1, lw_r2⟩
-- ===== end of PART A; then your names; then what follows =====
end
section
def RX0 : String := "SpanStamps$Circle"
def TX0 : u_T := fun k => match k with
  | 0 => ("SpanStamps$Circle", "stamps", "[LSpanStamps$Stamp;", true)
  | _ => ("SpanStamps$Circle", "happenings", "I", false)
def RX1 : String := "SpanStamps$Forecast"
def TX1 : u_T := fun k => match k with
  | 0 => ("SpanStamps$Forecast", "heights", "[I", true)
  | 1 => ("SpanStamps$Forecast", "fills", "Z", false)
  | 2 => ("SpanStamps$Forecast", "changed", "I", false)
  | 3 => ("SpanStamps$Forecast", "cost", "I", false)
  | 4 => ("SpanStamps$Forecast", "first", "I", false)
  | _ => ("SpanStamps$Forecast", "depth", "I", false)
def RX2 : String := "SpanStamps$Row"
def TX2 : u_T := fun k => match k with
  | 0 => ("SpanStamps$Row", "numbers", "[I", true)
  | _ => ("SpanStamps$Row", "size", "I", false)
def RX4 : String := "SpanStamps$Stamp"
def TX4 : u_T := fun k => match k with
  | 0 => ("SpanStamps$Stamp", "present", "Z", false)
  | 1 => ("SpanStamps$Stamp", "cells", "J", false)
  | 2 => ("SpanStamps$Stamp", "known", "J", false)
  | _ => ("SpanStamps$Stamp", "heights", "[I", true)
def RX5 : String := "SpanStamps"
def TX5 : u_T := fun k => match k with
  | 0 => ("SpanStamps", "now", "LSpanStamps$Circle;", true)
  | 1 => ("SpanStamps", "images", "[LSpanStamps$Circle;", true)
  | 2 => ("SpanStamps", "imagesKept", "I", false)
  | 3 => ("SpanStamps", "forecast", "LSpanStamps$Forecast;", true)
  | _ => ("SpanStamps", "row", "LSpanStamps$Row;", true)
def RX6 : String := "SpanStampsModel"
def TX6 : u_T := fun k => match k with
  | 0 => ("SpanStampsModel", "isThere", "[Z", true)
  | 1 => ("SpanStampsModel", "names", "[J", true)
  | 2 => ("SpanStampsModel", "known", "[J", true)
  | 3 => ("SpanStampsModel", "heights", "[I", true)
  | 4 => ("SpanStampsModel", "happenings", "I", false)
  | 5 => ("SpanStampsModel", "now", "[I", true)
  | 6 => ("SpanStampsModel", "way", "[I", true)
  | 7 => ("SpanStampsModel", "row", "[I", true)
  | 8 => ("SpanStampsModel", "still", "[I", true)
  | 9 => ("SpanStampsModel", "above", "[I", true)
  | 10 => ("SpanStampsModel", "size", "I", false)
  | 11 => ("SpanStampsModel", "open", "I", false)
  | 12 => ("SpanStampsModel", "isKept", "[Z", true)
  | 13 => ("SpanStampsModel", "imageThere", "[Z", true)
  | 14 => ("SpanStampsModel", "imageNames", "[J", true)
  | 15 => ("SpanStampsModel", "imageKnown", "[J", true)
  | 16 => ("SpanStampsModel", "imageHeights", "[I", true)
  | _ => ("SpanStampsModel", "imageHappenings", "[I", true)
abbrev vwCl : List vw_C := [(RX0, TX0, 2), (RX1, TX1, 6), (RX2, TX2, 2), (RX4, TX4, 4), (RX5, TX5, 5), (RX6, TX6, 18)]
def tyX0 : Nat → FieldType := fun k => match k with
  | 0 => .array (.object "SpanStamps$Stamp")
  | _ => .int
theorem nmX0 : ∀ a, a < 2 → ∀ b, b < 2 → a ≠ b → (TX0 a).2.1 ≠ (TX0 b).2.1 := by decide +kernel
theorem tyX0_ok : ∀ k, k < 2 → parseFieldDescriptor (TX0 k).2.2.1 = some (tyX0 k) := by decide +kernel
theorem inX0 : ∀ w ∈ u_ws RX0 TX0 2, w ∈ lw_tbl := by
  intro w hw
  obtain ⟨k, hk, rfl⟩ := List.mem_map.mp hw
  have hk := List.mem_range.mp hk
  have key : ∀ k, k < 2 → lw_tbl[([91, 93] : List Nat).getD k 0]? = some (u_lay RX0 TX0 k) := by decide +kernel
  exact List.mem_of_getElem? (key k hk)
def tyX1 : Nat → FieldType := fun k => match k with
  | 0 => .array .int
  | 1 => .boolean
  | 2 => .int
  | 3 => .int
  | 4 => .int
  | _ => .int
theorem nmX1 : ∀ a, a < 6 → ∀ b, b < 6 → a ≠ b → (TX1 a).2.1 ≠ (TX1 b).2.1 := by decide +kernel
theorem tyX1_ok : ∀ k, k < 6 → parseFieldDescriptor (TX1 k).2.2.1 = some (tyX1 k) := by decide +kernel
theorem inX1 : ∀ w ∈ u_ws RX1 TX1 6, w ∈ lw_tbl := by
  intro w hw
  obtain ⟨k, hk, rfl⟩ := List.mem_map.mp hw
  have hk := List.mem_range.mp hk
  have key : ∀ k, k < 6 → lw_tbl[([115, 117, 119, 121, 123, 125] : List Nat).getD k 0]? = some (u_lay RX1 TX1 k) := by decide +kernel
  exact List.mem_of_getElem? (key k hk)
def tyX2 : Nat → FieldType := fun k => match k with
  | 0 => .array .int
  | _ => .int
theorem nmX2 : ∀ a, a < 2 → ∀ b, b < 2 → a ≠ b → (TX2 a).2.1 ≠ (TX2 b).2.1 := by decide +kernel
theorem tyX2_ok : ∀ k, k < 2 → parseFieldDescriptor (TX2 k).2.2.1 = some (tyX2 k) := by decide +kernel
theorem inX2 : ∀ w ∈ u_ws RX2 TX2 2, w ∈ lw_tbl := by
  intro w hw
  obtain ⟨k, hk, rfl⟩ := List.mem_map.mp hw
  have hk := List.mem_range.mp hk
  have key : ∀ k, k < 2 → lw_tbl[([137, 139] : List Nat).getD k 0]? = some (u_lay RX2 TX2 k) := by decide +kernel
  exact List.mem_of_getElem? (key k hk)
def tyX4 : Nat → FieldType := fun k => match k with
  | 0 => .boolean
  | 1 => .long
  | 2 => .long
  | _ => .array .int
theorem nmX4 : ∀ a, a < 4 → ∀ b, b < 4 → a ≠ b → (TX4 a).2.1 ≠ (TX4 b).2.1 := by decide +kernel
theorem tyX4_ok : ∀ k, k < 4 → parseFieldDescriptor (TX4 k).2.2.1 = some (tyX4 k) := by decide +kernel
theorem inX4 : ∀ w ∈ u_ws RX4 TX4 4, w ∈ lw_tbl := by
  intro w hw
  obtain ⟨k, hk, rfl⟩ := List.mem_map.mp hw
  have hk := List.mem_range.mp hk
  have key : ∀ k, k < 4 → lw_tbl[([77, 79, 81, 83] : List Nat).getD k 0]? = some (u_lay RX4 TX4 k) := by decide +kernel
  exact List.mem_of_getElem? (key k hk)
def tyX5 : Nat → FieldType := fun k => match k with
  | 0 => .object "SpanStamps$Circle"
  | 1 => .array (.object "SpanStamps$Circle")
  | 2 => .int
  | 3 => .object "SpanStamps$Forecast"
  | _ => .object "SpanStamps$Row"
theorem nmX5 : ∀ a, a < 5 → ∀ b, b < 5 → a ≠ b → (TX5 a).2.1 ≠ (TX5 b).2.1 := by decide +kernel
theorem tyX5_ok : ∀ k, k < 5 → parseFieldDescriptor (TX5 k).2.2.1 = some (tyX5 k) := by decide +kernel
theorem inX5 : ∀ w ∈ u_ws RX5 TX5 5, w ∈ lw_tbl := by
  intro w hw
  obtain ⟨k, hk, rfl⟩ := List.mem_map.mp hw
  have hk := List.mem_range.mp hk
  have key : ∀ k, k < 5 → lw_tbl[([154, 156, 158, 160, 162] : List Nat).getD k 0]? = some (u_lay RX5 TX5 k) := by decide +kernel
  exact List.mem_of_getElem? (key k hk)
def tyX6 : Nat → FieldType := fun k => match k with
  | 0 => .array .boolean
  | 1 => .array .long
  | 2 => .array .long
  | 3 => .array .int
  | 4 => .int
  | 5 => .array .int
  | 6 => .array .int
  | 7 => .array .int
  | 8 => .array .int
  | 9 => .array .int
  | 10 => .int
  | 11 => .int
  | 12 => .array .boolean
  | 13 => .array .boolean
  | 14 => .array .long
  | 15 => .array .long
  | 16 => .array .int
  | _ => .array .int
theorem nmX6 : ∀ a, a < 18 → ∀ b, b < 18 → a ≠ b → (TX6 a).2.1 ≠ (TX6 b).2.1 := by decide +kernel
theorem tyX6_ok : ∀ k, k < 18 → parseFieldDescriptor (TX6 k).2.2.1 = some (tyX6 k) := by decide +kernel
theorem inX6 : ∀ w ∈ u_ws RX6 TX6 18, w ∈ lw_tbl := by
  intro w hw
  obtain ⟨k, hk, rfl⟩ := List.mem_map.mp hw
  have hk := List.mem_range.mp hk
  have key : ∀ k, k < 18 → lw_tbl[([436, 438, 440, 442, 444, 446, 448, 450, 452, 454, 456, 458, 460, 462, 464, 466, 468, 470] : List Nat).getD k 0]? = some (u_lay RX6 TX6 k) := by decide +kernel
  exact List.mem_of_getElem? (key k hk)
def mF : Nat → List Value := fun ci => match ci with
  | 0 => [.null, .int 0]
  | 1 => [.null, .int 0, .int 0, .int 0, .int 0, .int 0]
  | 2 => [.null, .int 0]
  | 3 => [.int 0, .long 0, .long 0, .null]
  | 4 => [.null, .null, .int 0, .null, .null]
  | _ => [.null, .null, .null, .null, .int 0, .null, .null, .null, .null, .null, .int 0, .int 0, .null, .null, .null, .null, .null, .null]
end
section
/-! THE ABSTRACT MACHINE: references are places in a list of cells; a step is a function -/
abbrev ab_H : Type := List va_E
abbrev ab_S : Type := Nat × List Value × List Value × (Nat × Nat) × ab_H
abbrev ab_R : Type := Option (ab_S ⊕ ((Nat × List Value × ab_S) ⊕ Option Value))
abbrev ab_E : Type := Instr × Nat × List Nat
abbrev ab_X : Type := Option (Nat × (Nat → Int32))
def ab_nx (pc : Nat) (lv st : List Value) (b : Nat × Nat) (h : ab_H) : ab_R := some (.inl (pc, lv, st, b, h))
def ab_i (st : List Value) (f : Int32 → List Value → ab_R) : ab_R := match st with
  | .int x :: r => f x r
  | _ => none
def ab_l (st : List Value) (f : Int64 → List Value → ab_R) : ab_R := match st with
  | .long x :: r => f x r
  | _ => none
def ab_r (st : List Value) (f : Nat → List Value → ab_R) : ab_R := match st with
  | .ref x :: r => f x r
  | _ => none
def ab_v (st : List Value) (f : Value → List Value → ab_R) : ab_R := match st with
  | x :: r => f x r
  | _ => none
def ab_gd (b : Bool) (r : ab_R) : ab_R := match b with
  | true => r
  | false => none
def ab_lg : List Value → Nat → Value
  | [], _ => .retAddr 0
  | v :: _, 0 => v
  | _ :: r, i + 1 => ab_lg r i
def ab_ls : List Value → Nat → Value → List Value
  | [], _, _ => []
  | _ :: r, 0, v => v :: r
  | a :: r, i + 1, v => a :: ab_ls r i v
def ab_c2 (v : Value) : Bool := match v with
  | .long _ => true
  | .double _ => true
  | _ => false
def ab_c1r (v : Value) : Bool := match v with
  | .ref _ => true
  | .null => true
  | _ => false
def ab_lok (lv : List Value) (i : Nat) : Bool := match i with
  | 0 => true
  | i + 1 => !(ab_c2 (ab_lg lv i))
def ab_s1 (lv : List Value) (i : Nat) (v : Value) (f : List Value → ab_R) : ab_R := ab_gd (ab_lok lv i && Nat.blt i lv.length) (f (ab_ls lv i v))
def ab_s2 (lv : List Value) (i : Nat) (v : Value) (f : List Value → ab_R) : ab_R := ab_gd (ab_lok lv i && Nat.blt (i + 1) lv.length) (f (ab_ls (ab_ls lv i v) (i + 1) (.retAddr 0)))
def ab_o (h : ab_H) (a : Nat) (f : Nat → List Value → ab_R) : ab_R := match h[a]? with
  | some (.inr (ci, fs)) => f ci fs
  | _ => none
def ab_ai (h : ab_H) (a : Nat) (f : Nat → Nat → (Nat → Int32) → ab_R) : ab_R := match h[a]? with
  | some (.inl (t, n, .inl g)) => f t n g
  | _ => none
def ab_al (h : ab_H) (a : Nat) (f : Nat → Nat → (Nat → Int64) → ab_R) : ab_R := match h[a]? with
  | some (.inl (t, n, .inr (.inl g))) => f t n g
  | _ => none
def ab_aq (h : ab_H) (a : Nat) (f : Nat → Nat → (Nat → Option Nat) → ab_R) : ab_R := match h[a]? with
  | some (.inl (t, n, .inr (.inr (.inr (.inr g))))) => f t n g
  | _ => none
def ab_in (i : Int32) (n : Nat) : Bool := !(decide (i < 0)) && Nat.blt i.toNatClampNeg n
def ab_ft (t : Nat) (v : Value) : Bool := match t, v with
  | 0, .int _ => true
  | 1, .int x => x == 0 || x == 1
  | 2, .long _ => true
  | 3, .ref _ => true
  | _, _ => false
def ab_ki (au : List Nat) : Int32 := match au with
  | [c] => nI c
  | c :: _ => -(nI c)
  | [] => 0
def ab_kl (au : List Nat) : Int64 := match au with
  | c :: 0 :: _ => lN c
  | c :: _ => -(lN c)
  | [] => 0
def ab_ws (st : List Value) : Nat := (st.map fun v => v.category).sum
def ab_pop : Nat → List Value → List Value → Option (List Value × List Value)
  | 0, acc, st => some (acc, st)
  | n + 1, acc, v :: st => ab_pop n (v :: acc) st
  | _ + 1, _, [] => none
def ab_cl (n : Nat) (v : Value) : Bool := match v with
  | .ref a => Nat.blt a n
  | _ => true
def ab_ce (n : Nat) (e : va_E) : Bool := match e with
  | .inr (_, fs) => fs.all (ab_cl n)
  | .inl (_, m, .inr (.inr (.inr (.inr g)))) => (List.range m).all (fun j => match g j with
    | some a => Nat.blt a n
    | none => true)
  | _ => true
def ab_clo (lv st : List Value) (h : ab_H) : Bool := lv.all (ab_cl h.length) && (st.all (ab_cl h.length) && h.all (ab_ce h.length))
def ab_na (t n : Nat) : Option va_E := match t with
  | 0 => some (.inl (0, n, .inl (fun _ => 0)))
  | 1 => some (.inl (1, n, .inr (.inl (fun _ => 0))))
  | 2 => some (.inl (2, n, .inl (fun _ => 0)))
  | _ => none
def ab_nr (rt : Option FieldType) (v : Int32) : Bool := match rt with
  | some .int => true
  | some .boolean => v == 0 || v == 1
  | _ => false
def ab_call (B : Nat → Nat × Nat) (k : Nat) (av lv rest : List Value) (nx : Nat) (b : Nat × Nat) (h : ab_H) : ab_R :=
  ab_gd (Nat.ble (ab_ws rest) 8 && (Nat.ble (B k).1 b.1 && (Nat.ble (B k).2 b.2 && (Nat.beq (B k).1 0 || ab_clo lv rest h))))
    (some (.inr (.inl (k, av, (nx, lv, rest, (b.1 - (B k).1, b.2 - (B k).2), h)))))
def ab_sw (x : Int32) (lo hi : Int) (au : List Nat) (f : Nat → ab_R) : ab_R := match au with
  | d :: ts => if x.toInt < lo ∨ hi < x.toInt then f d else match ts[(x.toInt - lo).toNat]? with
    | some t => f t
    | none => none
  | [] => none
def ab_jp (au : List Nat) (f : Nat → ab_R) : ab_R := match au with
  | t :: _ => f t
  | [] => none
def ab_do (B : Nat → Nat × Nat) (dF : Nat → List Value) (rt : Option FieldType) (X : ab_X) (i : Instr) (nx : Nat) (au : List Nat) (lv st : List Value) (b : Nat × Nat) (h : ab_H) : ab_R :=
  match i with
  | .iconst _ => ab_nx nx lv (.int (ab_ki au) :: st) b h
  | .bipush _ => ab_nx nx lv (.int (ab_ki au) :: st) b h
  | .sipush _ => ab_nx nx lv (.int (ab_ki au) :: st) b h
  | .lconst _ => ab_nx nx lv (.long (ab_kl au) :: st) b h
  | .ldc_w _ => ab_nx nx lv (.int (ab_ki (au.take 1)) :: st) b h
  | .ldc2_w _ => ab_nx nx lv (.long (ab_kl au) :: st) b h
  | .aconst_null => ab_nx nx lv (.null :: st) b h
  | .iload_n j => ab_i [ab_lg lv j] fun x _ => ab_nx nx lv (.int x :: st) b h
  | .iload j => ab_i [ab_lg lv j] fun x _ => ab_nx nx lv (.int x :: st) b h
  | .lload_n j => ab_l [ab_lg lv j] fun x _ => ab_nx nx lv (.long x :: st) b h
  | .lload j => ab_l [ab_lg lv j] fun x _ => ab_nx nx lv (.long x :: st) b h
  | .aload_n j => match ab_lg lv j with
    | .ref a => ab_nx nx lv (.ref a :: st) b h
    | .null => ab_nx nx lv (.null :: st) b h
    | .retAddr 1 => ab_nx nx lv (.retAddr 1 :: st) b h
    | _ => none
  | .aload j => match ab_lg lv j with
    | .ref a => ab_nx nx lv (.ref a :: st) b h
    | .null => ab_nx nx lv (.null :: st) b h
    | _ => none
  | .istore_n j => ab_i st fun x r => ab_s1 lv j (.int x) fun lv => ab_nx nx lv r b h
  | .istore j => ab_i st fun x r => ab_s1 lv j (.int x) fun lv => ab_nx nx lv r b h
  | .lstore_n j => ab_l st fun x r => ab_s2 lv j (.long x) fun lv => ab_nx nx lv r b h
  | .lstore j => ab_l st fun x r => ab_s2 lv j (.long x) fun lv => ab_nx nx lv r b h
  | .astore_n j => match st with
    | .ref a :: r => ab_s1 lv j (.ref a) fun lv => ab_nx nx lv r b h
    | .null :: r => ab_s1 lv j .null fun lv => ab_nx nx lv r b h
    | _ => none
  | .astore j => match st with
    | .ref a :: r => ab_s1 lv j (.ref a) fun lv => ab_nx nx lv r b h
    | .null :: r => ab_s1 lv j .null fun lv => ab_nx nx lv r b h
    | _ => none
  | .iinc j _ => ab_i [ab_lg lv j] fun x _ => ab_s1 lv j (.int (x + ab_ki au)) fun lv => ab_nx nx lv st b h
  | .iadd => ab_i st fun y r => ab_i r fun x r => ab_nx nx lv (.int (x + y) :: r) b h
  | .isub => ab_i st fun y r => ab_i r fun x r => ab_nx nx lv (.int (x - y) :: r) b h
  | .imul => ab_i st fun y r => ab_i r fun x r => ab_nx nx lv (.int (x * y) :: r) b h
  | .iand => ab_i st fun y r => ab_i r fun x r => ab_nx nx lv (.int (x &&& y) :: r) b h
  | .ior => ab_i st fun y r => ab_i r fun x r => ab_nx nx lv (.int (x ||| y) :: r) b h
  | .idiv => ab_i st fun y r => ab_i r fun x r => ab_gd (!(decide (y = 0))) (ab_nx nx lv (.int (x / y) :: r) b h)
  | .irem => ab_i st fun y r => ab_i r fun x r => ab_gd (!(decide (y = 0))) (ab_nx nx lv (.int (x - x / y * y) :: r) b h)
  | .ineg => ab_i st fun x r => ab_nx nx lv (.int (-x) :: r) b h
  | .ishl => ab_i st fun y r => ab_i r fun x r => ab_nx nx lv (.int (x <<< (y &&& 31)) :: r) b h
  | .ishr => ab_i st fun y r => ab_i r fun x r => ab_nx nx lv (.int (x >>> (y &&& 31)) :: r) b h
  | .iushr => ab_i st fun y r => ab_i r fun x r => ab_nx nx lv (.int (x.toUInt32 >>> (y.toUInt32 &&& Int32.toUInt32 31)).toInt32 :: r) b h
  | .ladd => ab_l st fun y r => ab_l r fun x r => ab_nx nx lv (.long (x + y) :: r) b h
  | .lsub => ab_l st fun y r => ab_l r fun x r => ab_nx nx lv (.long (x - y) :: r) b h
  | .land => ab_l st fun y r => ab_l r fun x r => ab_nx nx lv (.long (x &&& y) :: r) b h
  | .lor => ab_l st fun y r => ab_l r fun x r => ab_nx nx lv (.long (x ||| y) :: r) b h
  | .lxor => ab_l st fun y r => ab_l r fun x r => ab_nx nx lv (.long (x ^^^ y) :: r) b h
  | .lneg => ab_l st fun x r => ab_nx nx lv (.long (-x) :: r) b h
  | .lshl => ab_i st fun y r => ab_l r fun x r => ab_nx nx lv (.long (x <<< (y.toInt64 &&& 63)) :: r) b h
  | .lshr => ab_i st fun y r => ab_l r fun x r => ab_nx nx lv (.long (x >>> (y.toInt64 &&& 63)) :: r) b h
  | .lushr => ab_i st fun y r => ab_l r fun x r => ab_nx nx lv (.long (x.toUInt64 >>> (y.toInt64.toUInt64 &&& Int64.toUInt64 63)).toInt64 :: r) b h
  | .lcmp => ab_l st fun y r => ab_l r fun x r => ab_nx nx lv (.int (lg_cmp x y) :: r) b h
  | .l2i => ab_l st fun x r => ab_nx nx lv (.int x.toInt32 :: r) b h
  | .dup => ab_v st fun v r => ab_gd (!(ab_c2 v)) (ab_nx nx lv (v :: v :: r) b h)
  | .pop => ab_v st fun v r => ab_gd (!(ab_c2 v)) (ab_nx nx lv r b h)
  | .dup2 => ab_v st fun v r => ab_v r fun w r => ab_gd (!(ab_c2 v) && !(ab_c2 w)) (ab_nx nx lv (v :: w :: v :: w :: r) b h)
  | .goto _ => ab_jp au fun t => ab_nx t lv st b h
  | .ifnull _ => ab_jp au fun t => match st with
    | .null :: r => ab_nx t lv r b h
    | .ref _ :: r => ab_nx nx lv r b h
    | _ => none
  | .ifnonnull _ => ab_jp au fun t => match st with
    | .null :: r => ab_nx nx lv r b h
    | .ref _ :: r => ab_nx t lv r b h
    | _ => none
  | .ifCond c _ => ab_jp au fun t => ab_i st fun x r => match c with
    | .eq => if x = 0 then ab_nx t lv r b h else ab_nx nx lv r b h
    | .ne => if x = 0 then ab_nx nx lv r b h else ab_nx t lv r b h
    | .lt => if x < 0 then ab_nx t lv r b h else ab_nx nx lv r b h
    | .ge => if 0 ≤ x then ab_nx t lv r b h else ab_nx nx lv r b h
    | .gt => if 0 < x then ab_nx t lv r b h else ab_nx nx lv r b h
    | .le => if x ≤ 0 then ab_nx t lv r b h else ab_nx nx lv r b h
  | .if_icmp c _ => ab_jp au fun t => ab_i st fun y r => ab_i r fun x r => match c with
    | .eq => if x = y then ab_nx t lv r b h else ab_nx nx lv r b h
    | .ne => if x = y then ab_nx nx lv r b h else ab_nx t lv r b h
    | .lt => if x < y then ab_nx t lv r b h else ab_nx nx lv r b h
    | .ge => if y ≤ x then ab_nx t lv r b h else ab_nx nx lv r b h
    | .gt => if y < x then ab_nx t lv r b h else ab_nx nx lv r b h
    | .le => if x ≤ y then ab_nx t lv r b h else ab_nx nx lv r b h
  | .tableswitch _ lo hi _ => ab_i st fun x r => ab_sw x lo hi au fun t => ab_nx t lv r b h
  | .getfield _ => match au with
    | ci :: k :: _ => ab_r st fun a r => ab_o h a fun ci' fs => ab_gd (Nat.beq ci' ci) (match fs[k]? with
      | some v => ab_nx nx lv (v :: r) b h
      | none => none)
    | _ => none
  | .putfield _ => match au with
    | ci :: k :: t :: _ => ab_v st fun v r => ab_r r fun a r => ab_o h a fun ci' fs => ab_gd (Nat.beq ci' ci && (ab_ft t v && Nat.blt k fs.length)) (ab_nx nx lv r b (h.set a (.inr (ci', fs.set k v))))
    | _ => none
  | .iaload => ab_i st fun i r => match r with
    | .ref a :: r => ab_ai h a fun t n g => ab_gd (Nat.beq t 0 && ab_in i n) (ab_nx nx lv (.int (g i.toNatClampNeg) :: r) b h)
    | .retAddr 1 :: r => match X with
      | some x => ab_gd (ab_in i x.1) (ab_nx nx lv (.int (x.2 i.toNatClampNeg) :: r) b h)
      | none => none
    | _ => none
  | .baload => ab_i st fun i r => ab_r r fun a r => ab_ai h a fun t n g => ab_gd (Nat.beq t 2 && ab_in i n) (ab_nx nx lv (.int (g i.toNatClampNeg) :: r) b h)
  | .laload => ab_i st fun i r => ab_r r fun a r => ab_al h a fun t n g => ab_gd (Nat.beq t 1 && ab_in i n) (ab_nx nx lv (.long (g i.toNatClampNeg) :: r) b h)
  | .aaload => ab_i st fun i r => ab_r r fun a r => ab_aq h a fun t n g => ab_gd ((Nat.beq t 3 || Nat.beq t 4) && ab_in i n) (ab_nx nx lv (va_rf (g i.toNatClampNeg) :: r) b h)
  | .iastore => ab_i st fun x r => ab_i r fun i r => ab_r r fun a r => ab_ai h a fun t n g => ab_gd (Nat.beq t 0 && ab_in i n) (ab_nx nx lv r b (h.set a (.inl (t, n, .inl (upd g i.toNatClampNeg x)))))
  | .bastore => ab_i st fun x r => ab_i r fun i r => ab_r r fun a r => ab_ai h a fun t n g => ab_gd (Nat.beq t 2 && ((x == 0 || x == 1) && ab_in i n)) (ab_nx nx lv r b (h.set a (.inl (t, n, .inl (upd g i.toNatClampNeg x)))))
  | .lastore => ab_l st fun x r => ab_i r fun i r => ab_r r fun a r => ab_al h a fun t n g => ab_gd (Nat.beq t 1 && ab_in i n) (ab_nx nx lv r b (h.set a (.inl (t, n, .inr (.inl (vp_updL g i.toNatClampNeg x))))))
  | .aastore => ab_r st fun v r => ab_i r fun i r => ab_r r fun a r => ab_aq h a fun t n g => ab_o h v fun ci _ => ab_gd ((Nat.beq t 3 && Nat.beq ci 3 || Nat.beq t 4 && Nat.beq ci 0) && ab_in i n) (ab_nx nx lv r b (h.set a (.inl (t, n, .inr (.inr (.inr (.inr (va_up g i.toNatClampNeg (some v)))))))))
  | .arraylength => match st, X with
    | .retAddr 1 :: r, some x => ab_nx nx lv (.int (nI x.1) :: r) b h
    | _, _ => none
  | .new _ => match au, b with
    | ci :: n :: _, (bc + 1, bs) => ab_gd (Nat.ble n bs && ab_clo lv st h) (ab_nx nx lv (.ref h.length :: st) (bc, bs - n) (h ++ [.inr (ci, dF ci)]))
    | _, _ => none
  | .newarray _ => match au, b with
    | t :: _, (bc + 1, bs) => ab_i st fun n r => ab_gd (!(decide (n < 0)) && (Nat.ble n.toNatClampNeg bs && (Nat.ble n.toNatClampNeg 67108864 && ab_clo lv r h))) (match ab_na t n.toNatClampNeg with
      | some e => ab_nx nx lv (.ref h.length :: r) (bc, bs - n.toNatClampNeg) (h ++ [e])
      | none => none)
    | _, _ => none
  | .anewarray _ => match au, b with
    | t :: _, (bc + 1, bs) => ab_i st fun n r => ab_gd (!(decide (n < 0)) && (Nat.ble n.toNatClampNeg bs && (Nat.ble n.toNatClampNeg 67108864 && (ab_clo lv r h && (Nat.beq t 3 || Nat.beq t 4))))) (ab_nx nx lv (.ref h.length :: r) (bc, bs - n.toNatClampNeg) (h ++ [.inl (t, n.toNatClampNeg, .inr (.inr (.inr (.inr (fun _ => none)))))]))
    | _, _ => none
  | .invokestatic _ => match au with
    | 0 :: k :: n :: _ => match ab_pop n [] st with
      | some (av, r) => ab_call B k av lv r nx b h
      | none => none
    | 1 :: _ => ab_i st fun n r => ab_i r fun dp r => ab_r r fun a r => ab_i r fun sp r => ab_r r fun a0 r => ab_ai h a0 fun t0 n0 f => ab_ai h a fun t1 n1 g =>
      ab_gd (Nat.ble (ab_ws r) 8 && (Nat.beq t0 0 && (Nat.beq t1 0 && (!(decide (sp < 0)) && (!(decide (dp < 0)) && (!(decide (n < 0)) && (Nat.ble (sp.toNatClampNeg + n.toNatClampNeg) n0 && Nat.ble (dp.toNatClampNeg + n.toNatClampNeg) n1)))))))
        (ab_nx nx lv r b (h.set a (.inl (t1, n1, .inl (va_cpy f g sp.toNatClampNeg dp.toNatClampNeg n.toNatClampNeg)))))
    | 2 :: _ => ab_i st fun y r => ab_i r fun x r => ab_gd (Nat.ble (ab_ws r) 8) (ab_nx nx lv (.int (if x < y then y else x) :: r) b h)
    | 3 :: _ => ab_i st fun y r => ab_i r fun x r => ab_gd (Nat.ble (ab_ws r) 8) (ab_nx nx lv (.int (if y < x then y else x) :: r) b h)
    | _ => none
  | .invokevirtual _ => match au with
    | k :: n :: ci :: _ => match ab_pop n [] st with
      | some (av, r) => ab_r r fun a r => ab_o h a fun ci' _ => ab_gd (Nat.beq ci' ci) (ab_call B k (.ref a :: av) lv r nx b h)
      | none => none
    | _ => none
  | .invokespecial _ => match au with
    | 0 :: k :: n :: _ => match ab_pop n [] st with
      | some (av, r) => ab_r r fun a r => ab_call B k (.ref a :: av) lv r nx b h
      | none => none
    | 1 :: _ => ab_r st fun _ r => ab_gd (Nat.ble (ab_ws r) 8) (ab_nx nx lv r b h)
    | _ => none
  | .ireturn => match st with
    | [.int v] => ab_gd (ab_nr rt v) (some (.inr (.inr (some (.int v)))))
    | _ => none
  | .lreturn => match st with
    | [.long v] => some (.inr (.inr (some (.long v))))
    | _ => none
  | .areturn => match st with
    | [.ref v] => some (.inr (.inr (some (.ref v))))
    | [.null] => some (.inr (.inr (some .null)))
    | _ => none
  | .return_ => match st with
    | [] => some (.inr (.inr none))
    | _ => none
  | _ => none
def ab_st (T : Nat → Option ab_E) (B : Nat → Nat × Nat) (dF : Nat → List Value) (rt : Option FieldType) (X : ab_X) (q : ab_S) : ab_R :=
  match T q.1 with
  | some (i, nx, au) => ab_do B dF rt X i nx au q.2.1 q.2.2.1 q.2.2.2.1 q.2.2.2.2
  | none => none
/-- what an outcome of a step means -/
abbrev ab_P : Type := Option Value → ab_H → Prop
abbrev ab_C : Type := Nat → List Value → ab_H → ab_P → Prop
def ab_rs (C : ab_C) (post : ab_P) (P : ab_S → Prop) (h : ab_H) (r : ab_R) : Prop := match r with
  | none => False
  | some (.inl c) => P c
  | some (.inr (.inl (k, av, c))) => C k av c.2.2.2.2 (fun v h' => P (c.1, c.2.1, v.toList ++ c.2.2.1, c.2.2.2.1, h'))
  | some (.inr (.inr v)) => post v h
def ab_mono (C : ab_C) : Prop := ∀ (k : Nat) (av : List Value) (h : ab_H) (p q : ab_P), (∀ v h', p v h' → q v h') → C k av h p → C k av h q
/-- the machine comes to an end with post: the least fixed point of a step -/
def ab_W (F : ab_S → ab_R) (C : ab_C) (post : ab_P) (q : ab_S) : Prop := ∀ P : ab_S → Prop, (∀ q, ab_rs C post P q.2.2.2.2 (F q) → P q) → P q
theorem ab_W.mono {F : ab_S → ab_R} {C : ab_C} {p q : ab_P} (h : ∀ v h', p v h' → q v h') {c : ab_S} (w : ab_W F C p c) : ab_W F C q c := by
  intro P hP
  refine w P fun c hc => hP c ?_
  revert hc
  cases F c with
  | none => exact id
  | some r =>
    rcases r with r | r | r
    · exact id
    · exact id
    · exact h r _
theorem ab_W.fold {F : ab_S → ab_R} {C : ab_C} (hC : ab_mono C) {post : ab_P} {c : ab_S} (w : ab_rs C post (ab_W F C post) c.2.2.2.2 (F c)) : ab_W F C post c := by
  intro P hP
  refine hP c ?_
  revert w
  cases F c with
  | none => exact id
  | some r =>
    rcases r with r | r | r
    · exact fun w => w P hP
    · exact fun w => hC _ _ _ _ _ (fun v h' q => q P hP) w
    · exact id
/-- some steps that neither call nor return -/
def ab_sn (F : ab_S → ab_R) : Nat → ab_S → ab_R
  | 0, c => some (.inl c)
  | n + 1, c => match F c with
    | some (.inl c') => ab_sn F n c'
    | r => r
theorem ab_W.go {F : ab_S → ab_R} {C : ab_C} (hC : ab_mono C) {post : ab_P} (n : Nat) : ∀ {c c' : ab_S}, ab_sn F n c = some (.inl c') → ab_W F C post c' → ab_W F C post c := by
  induction n with
  | zero =>
    intro c c' e w
    cases e
    exact w
  | succ n ih =>
    intro c c' e w
    refine ab_W.fold hC ?_
    unfold ab_sn at e
    revert e
    cases hF : F c with
    | none => intro e; cases e
    | some r =>
      rcases r with r | r | r
      · intro e
        exact ih e w
      · intro e; cases e
      · intro e; cases e
theorem ab_W.ret {F : ab_S → ab_R} {C : ab_C} (hC : ab_mono C) {post : ab_P} {c : ab_S} {v : Option Value} (e : F c = some (.inr (.inr v))) (w : post v c.2.2.2.2) : ab_W F C post c := by
  refine ab_W.fold hC ?_
  rw [e]
  exact w
theorem ab_W.call {F : ab_S → ab_R} {C : ab_C} (hC : ab_mono C) {post : ab_P} {c c' : ab_S} {k : Nat} {av : List Value} (e : F c = some (.inr (.inl (k, av, c')))) (w : C k av c'.2.2.2.2 (fun v h' => ab_W F C post (c'.1, c'.2.1, v.toList ++ c'.2.2.1, c'.2.2.2.1, h'))) : ab_W F C post c := by
  refine ab_W.fold hC ?_
  rw [e]
  exact w
theorem ab_W.ite {F : ab_S → ab_R} {C : ab_C} (hC : ab_mono C) {post : ab_P} {c c1 c2 : ab_S} {p : Prop} [Decidable p] (e : F c = if p then some (.inl c1) else some (.inl c2)) (w1 : p → ab_W F C post c1) (w2 : ¬ p → ab_W F C post c2) : ab_W F C post c := by
  refine ab_W.fold hC ?_
  rw [e]
  by_cases h : p
  · rw [if_pos h]
    exact w1 h
  · rw [if_neg h]
    exact w2 h
theorem ab_W.gd {F : ab_S → ab_R} {C : ab_C} (hC : ab_mono C) {post : ab_P} {c c1 : ab_S} {b : Bool} (e : F c = ab_gd b (some (.inl c1))) (hb : b = true) (w1 : ab_W F C post c1) : ab_W F C post c := by
  refine ab_W.fold hC ?_
  rw [e, hb]
  exact w1
/-- the calls, by their depth -/
def ab_lv : Nat → List Value → List Value
  | n, [] => List.replicate n (.retAddr 0)
  | n, v :: vs => match ab_c2 v with
    | true => v :: .retAddr 0 :: ab_lv (n - 2) vs
    | false => v :: ab_lv (n - 1) vs
def ab_CC (T : Nat → Nat → Option ab_E) (B : Nat → Nat × Nat) (dF : Nat → List Value) (rT : Nat → Option FieldType) (mL : Nat → Nat) : Nat → ab_C
  | 0 => fun _ _ _ _ => False
  | d + 1 => fun k av h post => Nat.ble (ab_ws av) (mL k) = true ∧ ab_W (ab_st (T k) B dF (rT k) none) (ab_CC T B dF rT mL d) post (0, ab_lv (mL k) av, [], B k, h)
theorem ab_CC.mono (T : Nat → Nat → Option ab_E) (B : Nat → Nat × Nat) (dF : Nat → List Value) (rT : Nat → Option FieldType) (mL : Nat → Nat) (d : Nat) : ab_mono (ab_CC T B dF rT mL d) := by
  cases d with
  | zero => exact fun _ _ _ _ _ _ h => h
  | succ d => exact fun _ _ _ _ _ h w => ⟨w.1, ab_W.mono h w.2⟩
end
section
def ab_fd : List (Nat × ab_E) → Nat → Option ab_E
  | [], _ => none
  | e :: r, pc => match Nat.beq e.1 pc with
    | true => some e.2
    | false => ab_fd r pc
/-- 0: Circle.init -/
def tb0 : List (Nat × ab_E) := [(0, .aload_n 0, 1, []),
  (1, .invokespecial 3, 4, [1, 57, 50, 51]),
  (4, .aload_n 0, 5, []),
  (5, .bipush 12, 7, [12]),
  (7, .anewarray 9, 10, [3, 58, 59]),
  (10, .putfield 11, 13, [0, 0, 3, 1, 87]),
  (13, .aload_n 0, 14, []),
  (14, .iconst 0, 15, [0]),
  (15, .putfield 17, 18, [0, 1, 0, 0, 89]),
  (18, .iconst 0, 19, [0]),
  (19, .istore_n 1, 20, []),
  (20, .iload_n 1, 21, []),
  (21, .bipush 12, 23, [12]),
  (23, .if_icmp .ge 22, 26, [45]),
  (26, .aload_n 0, 27, []),
  (27, .getfield 11, 30, [0, 0, 87]),
  (30, .iload_n 1, 31, []),
  (31, .new 9, 34, [3, 4, 58, 60, 35]),
  (34, .dup, 35, []),
  (35, .invokespecial 21, 38, [0, 37, 0, 1, 61, 62, 35]),
  (38, .aastore, 39, []),
  (39, .iinc 1 1, 42, [1]),
  (42, .goto (-22), 45, [20]),
  (45, .return_, 46, [])]
/-- 1: Circle.find -/
def tb1 : List (Nat × ab_E) := [(0, .iload_n 1, 1, []),
  (1, .ifCond .lt 21, 4, [22]),
  (4, .iload_n 1, 5, []),
  (5, .bipush 12, 7, [12]),
  (7, .if_icmp .ge 15, 10, [22]),
  (10, .aload_n 0, 11, []),
  (11, .getfield 11, 14, [0, 0, 87]),
  (14, .iload_n 1, 15, []),
  (15, .aaload, 16, []),
  (16, .getfield 22, 19, [3, 0, 67]),
  (19, .ifCond .ne 5, 22, [24]),
  (22, .aconst_null, 23, []),
  (23, .areturn, 24, []),
  (24, .aload_n 0, 25, []),
  (25, .getfield 11, 28, [0, 0, 87]),
  (28, .iload_n 1, 29, []),
  (29, .aaload, 30, []),
  (30, .areturn, 31, [])]
/-- 2: Circle.addLike -/
def tb2 : List (Nat × ab_E) := [(0, .iconst 0, 1, [0]),
  (1, .istore 4, 3, []),
  (3, .iload 4, 5, []),
  (5, .bipush 12, 7, [12]),
  (7, .if_icmp .ge 47, 10, [54]),
  (10, .aload_n 0, 11, []),
  (11, .getfield 11, 14, [0, 0, 87]),
  (14, .iload 4, 16, []),
  (16, .aaload, 17, []),
  (17, .getfield 22, 20, [3, 0, 67]),
  (20, .ifCond .ne 28, 23, [48]),
  (23, .aload_n 0, 24, []),
  (24, .getfield 11, 27, [0, 0, 87]),
  (27, .iload 4, 29, []),
  (29, .aaload, 30, []),
  (30, .aload_n 1, 31, []),
  (31, .invokevirtual 26, 34, [38, 1, 3, 198, 199, 200, 35]),
  (34, .aload_n 0, 35, []),
  (35, .getfield 11, 38, [0, 0, 87]),
  (38, .iload 4, 40, []),
  (40, .aaload, 41, []),
  (41, .lload_n 2, 42, []),
  (42, .putfield 30, 45, [3, 1, 2, 0, 71]),
  (45, .iload 4, 47, []),
  (47, .ireturn, 48, []),
  (48, .iinc 4 1, 51, [1]),
  (51, .goto (-48), 54, [3]),
  (54, .bipush (-4), 56, [4, 1]),
  (56, .ireturn, 57, [])]
/-- 3: Circle.numbersInUse -/
def tb3 : List (Nat × ab_E) := [(0, .iconst 0, 1, [0]),
  (1, .istore_n 1, 2, []),
  (2, .iconst 0, 3, [0]),
  (3, .istore_n 2, 4, []),
  (4, .iload_n 2, 5, []),
  (5, .bipush 12, 7, [12]),
  (7, .if_icmp .ge 27, 10, [34]),
  (10, .aload_n 0, 11, []),
  (11, .getfield 11, 14, [0, 0, 87]),
  (14, .iload_n 2, 15, []),
  (15, .aaload, 16, []),
  (16, .getfield 22, 19, [3, 0, 67]),
  (19, .ifCond .eq 9, 22, [28]),
  (22, .iload_n 1, 23, []),
  (23, .iconst 1, 24, [1]),
  (24, .iload_n 2, 25, []),
  (25, .ishl, 26, []),
  (26, .ior, 27, []),
  (27, .istore_n 1, 28, []),
  (28, .iinc 2 1, 31, [1]),
  (31, .goto (-27), 34, [4]),
  (34, .iload_n 1, 35, []),
  (35, .ireturn, 36, [])]
/-- 4: Circle.howMany -/
def tb4 : List (Nat × ab_E) := [(0, .aload_n 0, 1, []),
  (1, .invokevirtual 34, 4, [3, 0, 0, 288, 289, 290, 34]),
  (4, .invokestatic 38, 7, [0, 121, 1, 292, 293, 43]),
  (7, .ireturn, 8, [])]
/-- 5: Circle.copyFrom -/
def tb5 : List (Nat × ab_E) := [(0, .iconst 0, 1, [0]),
  (1, .istore_n 2, 2, []),
  (2, .iload_n 2, 3, []),
  (3, .bipush 12, 5, [12]),
  (5, .if_icmp .ge 24, 8, [29]),
  (8, .aload_n 0, 9, []),
  (9, .getfield 11, 12, [0, 0, 87]),
  (12, .iload_n 2, 13, []),
  (13, .aaload, 14, []),
  (14, .aload_n 1, 15, []),
  (15, .getfield 11, 18, [0, 0, 87]),
  (18, .iload_n 2, 19, []),
  (19, .aaload, 20, []),
  (20, .invokevirtual 26, 23, [38, 1, 3, 198, 199, 200, 35]),
  (23, .iinc 2 1, 26, [1]),
  (26, .goto (-24), 29, [2]),
  (29, .aload_n 0, 30, []),
  (30, .aload_n 1, 31, []),
  (31, .getfield 17, 34, [0, 1, 89]),
  (34, .putfield 17, 37, [0, 1, 0, 0, 89]),
  (37, .return_, 38, [])]
/-- 6: Circle.countUnevenStamps -/
def tb6 : List (Nat × ab_E) := [(0, .iconst 0, 1, [0]),
  (1, .istore_n 1, 2, []),
  (2, .iconst 0, 3, [0]),
  (3, .istore_n 2, 4, []),
  (4, .iload_n 2, 5, []),
  (5, .bipush 12, 7, [12]),
  (7, .if_icmp .ge 32, 10, [39]),
  (10, .aload_n 0, 11, []),
  (11, .getfield 11, 14, [0, 0, 87]),
  (14, .iload_n 2, 15, []),
  (15, .aaload, 16, []),
  (16, .getfield 22, 19, [3, 0, 67]),
  (19, .ifCond .eq 14, 22, [33]),
  (22, .aload_n 0, 23, []),
  (23, .iload_n 2, 24, []),
  (24, .invokevirtual 44, 27, [7, 1, 0, 373, 375, 3, 34]),
  (27, .ifCond .ne 6, 30, [33]),
  (30, .iinc 1 1, 33, [1]),
  (33, .iinc 2 1, 36, [1]),
  (36, .goto (-32), 39, [4]),
  (39, .iload_n 1, 40, []),
  (40, .ireturn, 41, [])]
/-- 7: Circle.isEvenWithEarlier -/
def tb7 : List (Nat × ab_E) := [(0, .iconst 0, 1, [0]),
  (1, .istore_n 2, 2, []),
  (2, .iload_n 2, 3, []),
  (3, .iload_n 1, 4, []),
  (4, .if_icmp .ge 41, 7, [45]),
  (7, .aload_n 0, 8, []),
  (8, .getfield 11, 11, [0, 0, 87]),
  (11, .iload_n 2, 12, []),
  (12, .aaload, 13, []),
  (13, .getfield 22, 16, [3, 0, 67]),
  (16, .ifCond .eq 23, 19, [39]),
  (19, .aload_n 0, 20, []),
  (20, .getfield 11, 23, [0, 0, 87]),
  (23, .iload_n 2, 24, []),
  (24, .aaload, 25, []),
  (25, .aload_n 0, 26, []),
  (26, .getfield 11, 29, [0, 0, 87]),
  (29, .iload_n 1, 30, []),
  (30, .aaload, 31, []),
  (31, .invokevirtual 48, 34, [40, 1, 3, 377, 311, 312, 35]),
  (34, .ifCond .ne 5, 37, [39]),
  (37, .iconst 1, 38, [1]),
  (38, .ireturn, 39, []),
  (39, .iinc 2 1, 42, [1]),
  (42, .goto (-40), 45, [2]),
  (45, .iconst 0, 46, [0]),
  (46, .ireturn, 47, [])]
/-- 8: Circle.countUnlikeNames -/
def tb8 : List (Nat × ab_E) := [(0, .iconst 0, 1, [0]),
  (1, .istore_n 1, 2, []),
  (2, .iconst 0, 3, [0]),
  (3, .istore_n 2, 4, []),
  (4, .iload_n 2, 5, []),
  (5, .bipush 12, 7, [12]),
  (7, .if_icmp .ge 32, 10, [39]),
  (10, .aload_n 0, 11, []),
  (11, .getfield 11, 14, [0, 0, 87]),
  (14, .iload_n 2, 15, []),
  (15, .aaload, 16, []),
  (16, .getfield 22, 19, [3, 0, 67]),
  (19, .ifCond .eq 14, 22, [33]),
  (22, .aload_n 0, 23, []),
  (23, .iload_n 2, 24, []),
  (24, .invokevirtual 52, 27, [9, 1, 0, 382, 384, 4, 34]),
  (27, .ifCond .ne 6, 30, [33]),
  (30, .iinc 1 1, 33, [1]),
  (33, .iinc 2 1, 36, [1]),
  (36, .goto (-32), 39, [4]),
  (39, .iload_n 1, 40, []),
  (40, .ireturn, 41, [])]
/-- 9: Circle.isNamedAsEarlier -/
def tb9 : List (Nat × ab_E) := [(0, .iconst 0, 1, [0]),
  (1, .istore_n 2, 2, []),
  (2, .iload_n 2, 3, []),
  (3, .iload_n 1, 4, []),
  (4, .if_icmp .ge 45, 7, [49]),
  (7, .aload_n 0, 8, []),
  (8, .getfield 11, 11, [0, 0, 87]),
  (11, .iload_n 2, 12, []),
  (12, .aaload, 13, []),
  (13, .getfield 22, 16, [3, 0, 67]),
  (16, .ifCond .eq 27, 19, [43]),
  (19, .aload_n 0, 20, []),
  (20, .getfield 11, 23, [0, 0, 87]),
  (23, .iload_n 2, 24, []),
  (24, .aaload, 25, []),
  (25, .getfield 30, 28, [3, 1, 71]),
  (28, .aload_n 0, 29, []),
  (29, .getfield 11, 32, [0, 0, 87]),
  (32, .iload_n 1, 33, []),
  (33, .aaload, 34, []),
  (34, .getfield 30, 37, [3, 1, 71]),
  (37, .lcmp, 38, []),
  (38, .ifCond .ne 5, 41, [43]),
  (41, .iconst 1, 42, [1]),
  (42, .ireturn, 43, []),
  (43, .iinc 2 1, 46, [1]),
  (46, .goto (-44), 49, [2]),
  (49, .iconst 0, 50, [0]),
  (50, .ireturn, 51, [])]
/-- 10: Circle.countBeforeNone -/
def tb10 : List (Nat × ab_E) := [(0, .iconst 0, 1, [0]),
  (1, .istore_n 1, 2, []),
  (2, .iconst 0, 3, [0]),
  (3, .istore_n 2, 4, []),
  (4, .iload_n 2, 5, []),
  (5, .bipush 12, 7, [12]),
  (7, .if_icmp .ge 32, 10, [39]),
  (10, .aload_n 0, 11, []),
  (11, .getfield 11, 14, [0, 0, 87]),
  (14, .iload_n 2, 15, []),
  (15, .aaload, 16, []),
  (16, .getfield 22, 19, [3, 0, 67]),
  (19, .ifCond .eq 14, 22, [33]),
  (22, .aload_n 0, 23, []),
  (23, .iload_n 2, 24, []),
  (24, .invokevirtual 55, 27, [11, 1, 0, 390, 392, 5, 34]),
  (27, .ifCond .ne 6, 30, [33]),
  (30, .iinc 1 1, 33, [1]),
  (33, .iinc 2 1, 36, [1]),
  (36, .goto (-32), 39, [4]),
  (39, .iload_n 1, 40, []),
  (40, .ireturn, 41, [])]
/-- 11: Circle.isBeforeAny -/
def tb11 : List (Nat × ab_E) := [(0, .iconst 0, 1, [0]),
  (1, .istore_n 2, 2, []),
  (2, .iload_n 2, 3, []),
  (3, .bipush 12, 5, [12]),
  (5, .if_icmp .ge 42, 8, [47]),
  (8, .aload_n 0, 9, []),
  (9, .getfield 11, 12, [0, 0, 87]),
  (12, .iload_n 2, 13, []),
  (13, .aaload, 14, []),
  (14, .getfield 22, 17, [3, 0, 67]),
  (17, .ifCond .eq 24, 20, [41]),
  (20, .aload_n 0, 21, []),
  (21, .getfield 11, 24, [0, 0, 87]),
  (24, .iload_n 1, 25, []),
  (25, .aaload, 26, []),
  (26, .aload_n 0, 27, []),
  (27, .getfield 11, 30, [0, 0, 87]),
  (30, .iload_n 2, 31, []),
  (31, .aaload, 32, []),
  (32, .invokevirtual 48, 35, [40, 1, 3, 377, 311, 312, 35]),
  (35, .iconst 1, 36, [1]),
  (36, .if_icmp .ne 5, 39, [41]),
  (39, .iconst 1, 40, [1]),
  (40, .ireturn, 41, []),
  (41, .iinc 2 1, 44, [1]),
  (44, .goto (-42), 47, [2]),
  (47, .iconst 0, 48, [0]),
  (48, .ireturn, 49, [])]
/-- 12: Forecast.init -/
def tb12 : List (Nat × ab_E) := [(0, .aload_n 0, 1, []),
  (1, .invokespecial 3, 4, [1, 102, 50, 51]),
  (4, .aload_n 0, 5, []),
  (5, .bipush 64, 7, [64]),
  (7, .newarray .int, 9, [0, 86]),
  (9, .putfield 9, 12, [1, 0, 3, 1, 103]),
  (12, .aload_n 0, 13, []),
  (13, .iconst 0, 14, [0]),
  (14, .putfield 15, 17, [1, 1, 1, 0, 105]),
  (17, .aload_n 0, 18, []),
  (18, .iconst 0, 19, [0]),
  (19, .putfield 19, 22, [1, 2, 0, 0, 107]),
  (22, .aload_n 0, 23, []),
  (23, .bipush (-6), 25, [6, 1]),
  (25, .putfield 23, 28, [1, 3, 0, 0, 109]),
  (28, .aload_n 0, 29, []),
  (29, .bipush (-6), 31, [6, 1]),
  (31, .putfield 26, 34, [1, 4, 0, 0, 111]),
  (34, .aload_n 0, 35, []),
  (35, .bipush (-6), 37, [6, 1]),
  (37, .putfield 29, 40, [1, 5, 0, 0, 113]),
  (40, .return_, 41, [])]
/-- 13: Forecast.lookAt -/
def tb13 : List (Nat × ab_E) := [(0, .aload_n 1, 1, []),
  (1, .getfield 32, 4, [3, 3, 75]),
  (4, .iconst 0, 5, [0]),
  (5, .aload_n 0, 6, []),
  (6, .getfield 9, 9, [1, 0, 103]),
  (9, .iconst 0, 10, [0]),
  (10, .bipush 64, 12, [64]),
  (12, .invokestatic 35, 15, [1, 217, 204, 203, 41]),
  (15, .aload_n 0, 16, []),
  (16, .bipush (-6), 18, [6, 1]),
  (18, .putfield 23, 21, [1, 3, 0, 0, 109]),
  (21, .aload_n 0, 22, []),
  (22, .bipush (-6), 24, [6, 1]),
  (24, .putfield 26, 27, [1, 4, 0, 0, 111]),
  (27, .aload_n 0, 28, []),
  (28, .bipush (-6), 30, [6, 1]),
  (30, .putfield 29, 33, [1, 5, 0, 0, 113]),
  (33, .aload_n 0, 34, []),
  (34, .getfield 9, 37, [1, 0, 103]),
  (37, .aload_n 1, 38, []),
  (38, .getfield 41, 41, [3, 1, 70]),
  (41, .iconst 0, 42, [0]),
  (42, .iconst 0, 43, [0]),
  (43, .invokestatic 45, 46, [0, 14, 4, 218, 219, 36]),
  (46, .aload_n 0, 47, []),
  (47, .aload_n 0, 48, []),
  (48, .aload_n 1, 49, []),
  (49, .getfield 32, 52, [3, 3, 75]),
  (52, .invokevirtual 49, 55, [16, 1, 1, 250, 252, 0, 36]),
  (55, .putfield 19, 58, [1, 2, 0, 0, 107]),
  (58, .aload_n 0, 59, []),
  (59, .aload_n 0, 60, []),
  (60, .getfield 19, 63, [1, 2, 107]),
  (63, .ifCond .le 7, 66, [70]),
  (66, .iconst 1, 67, [1]),
  (67, .goto 4, 70, [71]),
  (70, .iconst 0, 71, [0]),
  (71, .putfield 15, 74, [1, 1, 1, 0, 105]),
  (74, .aload_n 0, 75, []),
  (75, .getfield 15, 78, [1, 1, 105]),
  (78, .ifCond .ne 15, 81, [93]),
  (81, .aload_n 0, 82, []),
  (82, .aload_n 1, 83, []),
  (83, .getfield 41, 86, [3, 1, 70]),
  (86, .invokevirtual 53, 89, [17, 1, 1, 254, 256, 1, 36]),
  (89, .aload_n 0, 90, []),
  (90, .invokevirtual 57, 93, [18, 0, 1, 266, 268, 2, 36]),
  (93, .return_, 94, [])]
/-- 14: Forecast.fill -/
def tb14 : List (Nat × ab_E) := [(0, .iload 4, 2, []),
  (2, .bipush 6, 4, [6]),
  (4, .if_icmp .ge 26, 7, [30]),
  (7, .lload_n 1, 8, []),
  (8, .iload_n 3, 9, []),
  (9, .iload 4, 11, []),
  (11, .invokestatic 60, 14, [0, 23, 2, 221, 143, 38]),
  (14, .land, 15, []),
  (15, .lconst 0, 16, [0, 0]),
  (16, .lcmp, 17, []),
  (17, .ifCond .eq 13, 20, [30]),
  (20, .aload_n 0, 21, []),
  (21, .iload_n 3, 22, []),
  (22, .iload 4, 24, []),
  (24, .invokestatic 66, 27, [0, 32, 3, 222, 223, 38]),
  (27, .ifCond .eq 4, 30, [31]),
  (30, .return_, 31, []),
  (31, .iload 4, 33, []),
  (33, .iconst 1, 34, [1]),
  (34, .iadd, 35, []),
  (35, .istore 5, 37, []),
  (37, .iload_n 3, 38, []),
  (38, .iload 4, 40, []),
  (40, .invokestatic 70, 43, [0, 24, 2, 225, 226, 38]),
  (43, .istore 6, 45, []),
  (45, .lload_n 1, 46, []),
  (46, .iload_n 3, 47, []),
  (47, .iload 4, 49, []),
  (49, .invokestatic 74, 52, [0, 26, 3, 228, 229, 38]),
  (52, .ifCond .eq 20, 55, [72]),
  (55, .aload_n 0, 56, []),
  (56, .iload_n 3, 57, []),
  (57, .iload 4, 59, []),
  (59, .aload_n 0, 60, []),
  (60, .iload_n 3, 61, []),
  (61, .iload 4, 63, []),
  (63, .invokestatic 78, 66, [0, 33, 3, 231, 232, 38]),
  (66, .invokestatic 82, 69, [0, 35, 4, 237, 238, 38]),
  (69, .goto 82, 72, [151]),
  (72, .lload_n 1, 73, []),
  (73, .iload_n 3, 74, []),
  (74, .iload 5, 76, []),
  (76, .invokestatic 74, 79, [0, 26, 3, 228, 229, 38]),
  (79, .ifCond .eq 24, 82, [103]),
  (82, .aload_n 0, 83, []),
  (83, .lload_n 1, 84, []),
  (84, .iload 6, 86, []),
  (86, .iload 5, 88, []),
  (88, .invokestatic 45, 91, [0, 14, 4, 218, 219, 36]),
  (91, .aload_n 0, 92, []),
  (92, .iload_n 3, 93, []),
  (93, .iload 6, 95, []),
  (95, .iload 5, 97, []),
  (97, .invokestatic 86, 100, [0, 15, 4, 240, 241, 36]),
  (100, .goto 51, 103, [151]),
  (103, .lload_n 1, 104, []),
  (104, .iload 6, 106, []),
  (106, .iload 5, 108, []),
  (108, .invokestatic 74, 111, [0, 26, 3, 228, 229, 38]),
  (111, .ifCond .eq 23, 114, [134]),
  (114, .aload_n 0, 115, []),
  (115, .lload_n 1, 116, []),
  (116, .iload_n 3, 117, []),
  (117, .iload 5, 119, []),
  (119, .invokestatic 45, 122, [0, 14, 4, 218, 219, 36]),
  (122, .aload_n 0, 123, []),
  (123, .iload 6, 125, []),
  (125, .iload_n 3, 126, []),
  (126, .iload 5, 128, []),
  (128, .invokestatic 86, 131, [0, 15, 4, 240, 241, 36]),
  (131, .goto 20, 134, [151]),
  (134, .aload_n 0, 135, []),
  (135, .lload_n 1, 136, []),
  (136, .iload_n 3, 137, []),
  (137, .iload 5, 139, []),
  (139, .invokestatic 45, 142, [0, 14, 4, 218, 219, 36]),
  (142, .aload_n 0, 143, []),
  (143, .lload_n 1, 144, []),
  (144, .iload 6, 146, []),
  (146, .iload 5, 148, []),
  (148, .invokestatic 45, 151, [0, 14, 4, 218, 219, 36]),
  (151, .return_, 152, [])]
/-- 15: Forecast.lift -/
def tb15 : List (Nat × ab_E) := [(0, .aload_n 0, 1, []),
  (1, .iload_n 1, 2, []),
  (2, .iload_n 3, 3, []),
  (3, .invokestatic 78, 6, [0, 33, 3, 231, 232, 38]),
  (6, .aload_n 0, 7, []),
  (7, .iload_n 2, 8, []),
  (8, .iload_n 3, 9, []),
  (9, .invokestatic 89, 12, [0, 34, 3, 243, 244, 38]),
  (12, .invokestatic 92, 15, [2, 249, 235, 42, 236]),
  (15, .istore 4, 17, []),
  (17, .aload_n 0, 18, []),
  (18, .iload_n 1, 19, []),
  (19, .iload_n 3, 20, []),
  (20, .iload 4, 22, []),
  (22, .invokestatic 82, 25, [0, 35, 4, 237, 238, 38]),
  (25, .return_, 26, [])]
/-- 16: Forecast.countChanges -/
def tb16 : List (Nat × ab_E) := [(0, .iconst 0, 1, [0]),
  (1, .istore_n 2, 2, []),
  (2, .iconst 0, 3, [0]),
  (3, .istore_n 3, 4, []),
  (4, .iload_n 3, 5, []),
  (5, .bipush 64, 7, [64]),
  (7, .if_icmp .ge 24, 10, [31]),
  (10, .aload_n 0, 11, []),
  (11, .getfield 9, 14, [1, 0, 103]),
  (14, .iload_n 3, 15, []),
  (15, .iaload, 16, []),
  (16, .aload_n 1, 17, []),
  (17, .iload_n 3, 18, []),
  (18, .iaload, 19, []),
  (19, .if_icmp .eq 6, 22, [25]),
  (22, .iinc 2 1, 25, [1]),
  (25, .iinc 3 1, 28, [1]),
  (28, .goto (-24), 31, [4]),
  (31, .iload_n 2, 32, []),
  (32, .ireturn, 33, [])]
/-- 17: Forecast.choosePiece -/
def tb17 : List (Nat × ab_E) := [(0, .iconst 0, 1, [0]),
  (1, .istore_n 3, 2, []),
  (2, .iload_n 3, 3, []),
  (3, .bipush 64, 5, [64]),
  (5, .if_icmp .ge 87, 8, [92]),
  (8, .lload_n 1, 9, []),
  (9, .iload_n 3, 10, []),
  (10, .invokestatic 97, 13, [0, 31, 2, 258, 259, 38]),
  (13, .istore 4, 15, []),
  (15, .iload 4, 17, []),
  (17, .bipush (-6), 19, [6, 1]),
  (19, .if_icmp .ne 6, 22, [25]),
  (22, .goto 64, 25, [86]),
  (25, .iload 4, 27, []),
  (27, .aload_n 0, 28, []),
  (28, .getfield 9, 31, [1, 0, 103]),
  (31, .iload_n 3, 32, []),
  (32, .iload 4, 34, []),
  (34, .invokestatic 101, 37, [0, 36, 3, 262, 263, 38]),
  (37, .isub, 38, []),
  (38, .istore 5, 40, []),
  (40, .iload 4, 42, []),
  (42, .sipush 1000, 45, [1000]),
  (45, .iload 5, 47, []),
  (47, .imul, 48, []),
  (48, .iadd, 49, []),
  (49, .istore 6, 51, []),
  (51, .aload_n 0, 52, []),
  (52, .getfield 23, 55, [1, 3, 109]),
  (55, .bipush (-6), 57, [6, 1]),
  (57, .if_icmp .eq 12, 60, [69]),
  (60, .iload 6, 62, []),
  (62, .aload_n 0, 63, []),
  (63, .getfield 23, 66, [1, 3, 109]),
  (66, .if_icmp .gt 20, 69, [86]),
  (69, .aload_n 0, 70, []),
  (70, .iload 6, 72, []),
  (72, .putfield 23, 75, [1, 3, 0, 0, 109]),
  (75, .aload_n 0, 76, []),
  (76, .iload_n 3, 77, []),
  (77, .putfield 26, 80, [1, 4, 0, 0, 111]),
  (80, .aload_n 0, 81, []),
  (81, .iload 4, 83, []),
  (83, .putfield 29, 86, [1, 5, 0, 0, 113]),
  (86, .iinc 3 1, 89, [1]),
  (89, .goto (-87), 92, [2]),
  (92, .return_, 93, [])]
/-- 18: Forecast.raisePiece -/
def tb18 : List (Nat × ab_E) := [(0, .aload_n 0, 1, []),
  (1, .getfield 26, 4, [1, 4, 111]),
  (4, .bipush (-6), 6, [6, 1]),
  (6, .if_icmp .ne 4, 9, [10]),
  (9, .return_, 10, []),
  (10, .aload_n 0, 11, []),
  (11, .getfield 26, 14, [1, 4, 111]),
  (14, .aload_n 0, 15, []),
  (15, .getfield 29, 18, [1, 5, 113]),
  (18, .invokestatic 104, 21, [0, 22, 1, 270, 147, 38]),
  (21, .iadd, 22, []),
  (22, .istore_n 1, 23, []),
  (23, .aload_n 0, 24, []),
  (24, .getfield 26, 27, [1, 4, 111]),
  (27, .istore_n 2, 28, []),
  (28, .iload_n 2, 29, []),
  (29, .iload_n 1, 30, []),
  (30, .if_icmp .ge 19, 33, [49]),
  (33, .aload_n 0, 34, []),
  (34, .getfield 9, 37, [1, 0, 103]),
  (37, .iload_n 2, 38, []),
  (38, .dup2, 39, []),
  (39, .iaload, 40, []),
  (40, .iconst 1, 41, [1]),
  (41, .iadd, 42, []),
  (42, .iastore, 43, []),
  (43, .iinc 2 1, 46, [1]),
  (46, .goto (-18), 49, [28]),
  (49, .aload_n 0, 50, []),
  (50, .aload_n 0, 51, []),
  (51, .getfield 29, 54, [1, 5, 113]),
  (54, .invokestatic 104, 57, [0, 22, 1, 270, 147, 38]),
  (57, .putfield 19, 60, [1, 2, 0, 0, 107]),
  (60, .return_, 61, [])]
/-- 19: Row.init -/
def tb19 : List (Nat × ab_E) := [(0, .aload_n 0, 1, []),
  (1, .invokespecial 3, 4, [1, 133, 50, 51]),
  (4, .aload_n 0, 5, []),
  (5, .sipush 190, 8, [190]),
  (8, .newarray .int, 10, [0, 86]),
  (10, .putfield 9, 13, [2, 0, 3, 1, 134]),
  (13, .aload_n 0, 14, []),
  (14, .iconst 0, 15, [0]),
  (15, .putfield 15, 18, [2, 1, 0, 0, 135]),
  (18, .return_, 19, [])]
/-- 20: Row.add -/
def tb20 : List (Nat × ab_E) := [(0, .aload_n 0, 1, []),
  (1, .getfield 15, 4, [2, 1, 135]),
  (4, .sipush 190, 7, [190]),
  (7, .if_icmp .ge 23, 10, [30]),
  (10, .aload_n 0, 11, []),
  (11, .getfield 9, 14, [2, 0, 134]),
  (14, .aload_n 0, 15, []),
  (15, .getfield 15, 18, [2, 1, 135]),
  (18, .iload_n 1, 19, []),
  (19, .iastore, 20, []),
  (20, .aload_n 0, 21, []),
  (21, .dup, 22, []),
  (22, .getfield 15, 25, [2, 1, 135]),
  (25, .iconst 1, 26, [1]),
  (26, .iadd, 27, []),
  (27, .putfield 15, 30, [2, 1, 0, 0, 135]),
  (30, .return_, 31, [])]
/-- 21: Row.tell -/
def tb21 : List (Nat × ab_E) := [(0, .iload_n 1, 1, []),
  (1, .iconst (-1), 2, [1, 1]),
  (2, .if_icmp .ne 8, 5, [10]),
  (5, .aload_n 0, 6, []),
  (6, .getfield 15, 9, [2, 1, 135]),
  (9, .ireturn, 10, []),
  (10, .iload_n 1, 11, []),
  (11, .ifCond .lt 20, 14, [31]),
  (14, .iload_n 1, 15, []),
  (15, .aload_n 0, 16, []),
  (16, .getfield 15, 19, [2, 1, 135]),
  (19, .if_icmp .ge 12, 22, [31]),
  (22, .aload_n 0, 23, []),
  (23, .getfield 9, 26, [2, 0, 134]),
  (26, .iload_n 1, 27, []),
  (27, .iaload, 28, []),
  (28, .goto 5, 31, [33]),
  (31, .bipush (-6), 33, [6, 1]),
  (33, .ireturn, 34, [])]
/-- 22: Span.sizeOf -/
def tb22 : List (Nat × ab_E) := [(0, .bipush 64, 2, [64]),
  (2, .iload_n 0, 3, []),
  (3, .ishr, 4, []),
  (4, .ireturn, 5, [])]
/-- 23: Span.cellsOf -/
def tb23 : List (Nat × ab_E) := [(0, .iload_n 1, 1, []),
  (1, .ifCond .ne 9, 4, [10]),
  (4, .ldc2_w 9, 7, [1, 1, 145]),
  (7, .goto 13, 10, [20]),
  (10, .lconst 1, 11, [1, 0]),
  (11, .iload_n 1, 12, []),
  (12, .invokestatic 11, 15, [0, 22, 1, 146, 147, 38]),
  (15, .lshl, 16, []),
  (16, .lconst 1, 17, [1, 0]),
  (17, .lsub, 18, []),
  (18, .iload_n 0, 19, []),
  (19, .lshl, 20, []),
  (20, .lreturn, 21, [])]
/-- 24: Span.upperFirst -/
def tb24 : List (Nat × ab_E) := [(0, .iload_n 0, 1, []),
  (1, .iload_n 1, 2, []),
  (2, .iconst 1, 3, [1]),
  (3, .iadd, 4, []),
  (4, .invokestatic 11, 7, [0, 22, 1, 146, 147, 38]),
  (7, .iadd, 8, []),
  (8, .ireturn, 9, [])]
/-- 25: Span.firstAround -/
def tb25 : List (Nat × ab_E) := [(0, .iload_n 0, 1, []),
  (1, .iload_n 1, 2, []),
  (2, .invokestatic 11, 5, [0, 22, 1, 146, 147, 38]),
  (5, .ineg, 6, []),
  (6, .iand, 7, []),
  (7, .ireturn, 8, [])]
/-- 26: Span.liesIn -/
def tb26 : List (Nat × ab_E) := [(0, .iload_n 2, 1, []),
  (1, .iload_n 3, 2, []),
  (2, .invokestatic 17, 5, [0, 23, 2, 192, 143, 38]),
  (5, .lload_n 0, 6, []),
  (6, .ldc2_w 9, 9, [1, 1, 145]),
  (9, .lxor, 10, []),
  (10, .land, 11, []),
  (11, .lconst 0, 12, [0, 0]),
  (12, .lcmp, 13, []),
  (13, .ifCond .ne 7, 16, [20]),
  (16, .iconst 1, 17, [1]),
  (17, .goto 4, 20, [21]),
  (20, .iconst 0, 21, [0]),
  (21, .ireturn, 22, [])]
/-- 27: Span.depthAround -/
def tb27 : List (Nat × ab_E) := [(0, .lload_n 0, 1, []),
  (1, .invokestatic 21, 4, [0, 29, 1, 185, 186, 38]),
  (4, .istore_n 2, 5, []),
  (5, .bipush 6, 7, [6]),
  (7, .istore_n 3, 8, []),
  (8, .iload_n 3, 9, []),
  (9, .ifCond .le 31, 12, [40]),
  (12, .lload_n 0, 13, []),
  (13, .iload_n 2, 14, []),
  (14, .iload_n 3, 15, []),
  (15, .invokestatic 25, 18, [0, 25, 2, 189, 190, 38]),
  (18, .iload_n 3, 19, []),
  (19, .invokestatic 17, 22, [0, 23, 2, 192, 143, 38]),
  (22, .ldc2_w 9, 25, [1, 1, 145]),
  (25, .lxor, 26, []),
  (26, .land, 27, []),
  (27, .lconst 0, 28, [0, 0]),
  (28, .lcmp, 29, []),
  (29, .ifCond .ne 5, 32, [34]),
  (32, .iload_n 3, 33, []),
  (33, .ireturn, 34, []),
  (34, .iinc 3 (-1), 37, [1, 1]),
  (37, .goto (-29), 40, [8]),
  (40, .iconst 0, 41, [0]),
  (41, .ireturn, 42, [])]
/-- 28: Span.lowerPart -/
def tb28 : List (Nat × ab_E) := [(0, .lload_n 0, 1, []),
  (1, .invokestatic 29, 4, [0, 27, 1, 182, 183, 38]),
  (4, .istore_n 2, 5, []),
  (5, .lload_n 0, 6, []),
  (6, .lload_n 0, 7, []),
  (7, .invokestatic 21, 10, [0, 29, 1, 185, 186, 38]),
  (10, .iload_n 2, 11, []),
  (11, .invokestatic 25, 14, [0, 25, 2, 189, 190, 38]),
  (14, .iload_n 2, 15, []),
  (15, .iconst 1, 16, [1]),
  (16, .iadd, 17, []),
  (17, .invokestatic 17, 20, [0, 23, 2, 192, 143, 38]),
  (20, .land, 21, []),
  (21, .lreturn, 22, [])]
/-- 29: Span.lowestCell -/
def tb29 : List (Nat × ab_E) := [(0, .lload_n 0, 1, []),
  (1, .lload_n 0, 2, []),
  (2, .lneg, 3, []),
  (3, .land, 4, []),
  (4, .lconst 1, 5, [1, 0]),
  (5, .lsub, 6, []),
  (6, .invokestatic 32, 9, [0, 122, 1, 188, 174, 40]),
  (9, .ireturn, 10, [])]
/-- 30: Span.countPieces -/
def tb30 : List (Nat × ab_E) := [(0, .iconst 0, 1, [0]),
  (1, .istore_n 2, 2, []),
  (2, .iconst 0, 3, [0]),
  (3, .istore_n 3, 4, []),
  (4, .iload_n 3, 5, []),
  (5, .bipush 64, 7, [64]),
  (7, .if_icmp .ge 22, 10, [29]),
  (10, .lload_n 0, 11, []),
  (11, .iload_n 3, 12, []),
  (12, .invokestatic 37, 15, [0, 31, 2, 358, 259, 38]),
  (15, .bipush (-6), 17, [6, 1]),
  (17, .if_icmp .eq 6, 20, [23]),
  (20, .iinc 2 1, 23, [1]),
  (23, .iinc 3 1, 26, [1]),
  (26, .goto (-22), 29, [4]),
  (29, .iload_n 2, 30, []),
  (30, .ireturn, 31, [])]
/-- 31: Span.pieceDepth -/
def tb31 : List (Nat × ab_E) := [(0, .iconst 0, 1, [0]),
  (1, .istore_n 3, 2, []),
  (2, .iload_n 3, 3, []),
  (3, .bipush 6, 5, [6]),
  (5, .if_icmp .gt 39, 8, [44]),
  (8, .iload_n 2, 9, []),
  (9, .iload_n 3, 10, []),
  (10, .invokestatic 25, 13, [0, 25, 2, 189, 190, 38]),
  (13, .istore 4, 15, []),
  (15, .lload_n 0, 16, []),
  (16, .iload 4, 18, []),
  (18, .iload_n 3, 19, []),
  (19, .invokestatic 41, 22, [0, 26, 3, 261, 229, 38]),
  (22, .ifCond .eq 16, 25, [38]),
  (25, .iload 4, 27, []),
  (27, .iload_n 2, 28, []),
  (28, .if_icmp .ne 7, 31, [35]),
  (31, .iload_n 3, 32, []),
  (32, .goto 5, 35, [37]),
  (35, .bipush (-6), 37, [6, 1]),
  (37, .ireturn, 38, []),
  (38, .iinc 3 1, 41, [1]),
  (41, .goto (-39), 44, [2]),
  (44, .bipush (-6), 46, [6, 1]),
  (46, .ireturn, 47, [])]
/-- 32: Span.isAlike -/
def tb32 : List (Nat × ab_E) := [(0, .iload_n 1, 1, []),
  (1, .iload_n 2, 2, []),
  (2, .invokestatic 11, 5, [0, 22, 1, 146, 147, 38]),
  (5, .iadd, 6, []),
  (6, .istore_n 3, 7, []),
  (7, .iload_n 1, 8, []),
  (8, .iconst 1, 9, [1]),
  (9, .iadd, 10, []),
  (10, .istore 4, 12, []),
  (12, .iload 4, 14, []),
  (14, .iload_n 3, 15, []),
  (15, .if_icmp .ge 21, 18, [36]),
  (18, .aload_n 0, 19, []),
  (19, .iload 4, 21, []),
  (21, .iaload, 22, []),
  (22, .aload_n 0, 23, []),
  (23, .iload_n 1, 24, []),
  (24, .iaload, 25, []),
  (25, .if_icmp .eq 5, 28, [30]),
  (28, .iconst 0, 29, [0]),
  (29, .ireturn, 30, []),
  (30, .iinc 4 1, 33, [1]),
  (33, .goto (-21), 36, [12]),
  (36, .iconst 1, 37, [1]),
  (37, .ireturn, 38, [])]
/-- 33: Span.greatestOf -/
def tb33 : List (Nat × ab_E) := [(0, .iload_n 1, 1, []),
  (1, .iload_n 2, 2, []),
  (2, .invokestatic 11, 5, [0, 22, 1, 146, 147, 38]),
  (5, .iadd, 6, []),
  (6, .istore_n 3, 7, []),
  (7, .aload_n 0, 8, []),
  (8, .iload_n 1, 9, []),
  (9, .iaload, 10, []),
  (10, .istore 4, 12, []),
  (12, .iload_n 1, 13, []),
  (13, .iconst 1, 14, [1]),
  (14, .iadd, 15, []),
  (15, .istore 5, 17, []),
  (17, .iload 5, 19, []),
  (19, .iload_n 3, 20, []),
  (20, .if_icmp .ge 20, 23, [40]),
  (23, .iload 4, 25, []),
  (25, .aload_n 0, 26, []),
  (26, .iload 5, 28, []),
  (28, .iaload, 29, []),
  (29, .invokestatic 45, 32, [2, 234, 235, 42, 236]),
  (32, .istore 4, 34, []),
  (34, .iinc 5 1, 37, [1]),
  (37, .goto (-20), 40, [17]),
  (40, .iload 4, 42, []),
  (42, .ireturn, 43, [])]
/-- 34: Span.leastOf -/
def tb34 : List (Nat × ab_E) := [(0, .iload_n 1, 1, []),
  (1, .iload_n 2, 2, []),
  (2, .invokestatic 11, 5, [0, 22, 1, 146, 147, 38]),
  (5, .iadd, 6, []),
  (6, .istore_n 3, 7, []),
  (7, .aload_n 0, 8, []),
  (8, .iload_n 1, 9, []),
  (9, .iaload, 10, []),
  (10, .istore 4, 12, []),
  (12, .iload_n 1, 13, []),
  (13, .iconst 1, 14, [1]),
  (14, .iadd, 15, []),
  (15, .istore 5, 17, []),
  (17, .iload 5, 19, []),
  (19, .iload_n 3, 20, []),
  (20, .if_icmp .ge 20, 23, [40]),
  (23, .iload 4, 25, []),
  (25, .aload_n 0, 26, []),
  (26, .iload 5, 28, []),
  (28, .iaload, 29, []),
  (29, .invokestatic 50, 32, [3, 246, 247, 42, 248]),
  (32, .istore 4, 34, []),
  (34, .iinc 5 1, 37, [1]),
  (37, .goto (-20), 40, [17]),
  (40, .iload 4, 42, []),
  (42, .ireturn, 43, [])]
/-- 35: Span.level -/
def tb35 : List (Nat × ab_E) := [(0, .iload_n 1, 1, []),
  (1, .iload_n 2, 2, []),
  (2, .invokestatic 11, 5, [0, 22, 1, 146, 147, 38]),
  (5, .iadd, 6, []),
  (6, .istore 4, 8, []),
  (8, .iload_n 1, 9, []),
  (9, .istore 5, 11, []),
  (11, .iload 5, 13, []),
  (13, .iload 4, 15, []),
  (15, .if_icmp .ge 14, 18, [29]),
  (18, .aload_n 0, 19, []),
  (19, .iload 5, 21, []),
  (21, .iload_n 3, 22, []),
  (22, .iastore, 23, []),
  (23, .iinc 5 1, 26, [1]),
  (26, .goto (-15), 29, [11]),
  (29, .return_, 30, [])]
/-- 36: Span.alikeDepth -/
def tb36 : List (Nat × ab_E) := [(0, .iconst 0, 1, [0]),
  (1, .istore_n 3, 2, []),
  (2, .iload_n 3, 3, []),
  (3, .iload_n 2, 4, []),
  (4, .if_icmp .ge 24, 7, [28]),
  (7, .aload_n 0, 8, []),
  (8, .iload_n 1, 9, []),
  (9, .iload_n 3, 10, []),
  (10, .invokestatic 25, 13, [0, 25, 2, 189, 190, 38]),
  (13, .iload_n 3, 14, []),
  (14, .invokestatic 53, 17, [0, 32, 3, 265, 223, 38]),
  (17, .ifCond .eq 5, 20, [22]),
  (20, .iload_n 3, 21, []),
  (21, .ireturn, 22, []),
  (22, .iinc 3 1, 25, [1]),
  (25, .goto (-23), 28, [2]),
  (28, .iload_n 2, 29, []),
  (29, .ireturn, 30, [])]
/-- 37: Stamp.init -/
def tb37 : List (Nat × ab_E) := [(0, .aload_n 0, 1, []),
  (1, .invokespecial 3, 4, [1, 64, 50, 51]),
  (4, .aload_n 0, 5, []),
  (5, .iconst 0, 6, [0]),
  (6, .putfield 9, 9, [3, 0, 1, 0, 65]),
  (9, .aload_n 0, 10, []),
  (10, .lconst 0, 11, [0, 0]),
  (11, .putfield 15, 14, [3, 1, 2, 0, 68]),
  (14, .aload_n 0, 15, []),
  (15, .lconst 0, 16, [0, 0]),
  (16, .putfield 19, 19, [3, 2, 2, 0, 72]),
  (19, .aload_n 0, 20, []),
  (20, .bipush 64, 22, [64]),
  (22, .newarray .int, 24, [0, 86]),
  (24, .putfield 22, 27, [3, 3, 3, 1, 74]),
  (27, .return_, 28, [])]
/-- 38: Stamp.copyFrom -/
def tb38 : List (Nat × ab_E) := [(0, .aload_n 0, 1, []),
  (1, .aload_n 1, 2, []),
  (2, .getfield 9, 5, [3, 0, 65]),
  (5, .putfield 9, 8, [3, 0, 1, 0, 65]),
  (8, .aload_n 0, 9, []),
  (9, .aload_n 1, 10, []),
  (10, .getfield 15, 13, [3, 1, 68]),
  (13, .putfield 15, 16, [3, 1, 2, 0, 68]),
  (16, .aload_n 0, 17, []),
  (17, .aload_n 1, 18, []),
  (18, .getfield 19, 21, [3, 2, 72]),
  (21, .putfield 19, 24, [3, 2, 2, 0, 72]),
  (24, .aload_n 1, 25, []),
  (25, .getfield 22, 28, [3, 3, 74]),
  (28, .iconst 0, 29, [0]),
  (29, .aload_n 0, 30, []),
  (30, .getfield 22, 33, [3, 3, 74]),
  (33, .iconst 0, 34, [0]),
  (34, .bipush 64, 36, [64]),
  (36, .invokestatic 26, 39, [1, 202, 204, 203, 41]),
  (39, .return_, 40, [])]
/-- 39: Stamp.learnFrom -/
def tb39 : List (Nat × ab_E) := [(0, .iconst 0, 1, [0]),
  (1, .istore_n 2, 2, []),
  (2, .iconst 0, 3, [0]),
  (3, .istore_n 3, 4, []),
  (4, .iload_n 3, 5, []),
  (5, .bipush 64, 7, [64]),
  (7, .if_icmp .ge 39, 10, [46]),
  (10, .aload_n 1, 11, []),
  (11, .getfield 22, 14, [3, 3, 74]),
  (14, .iload_n 3, 15, []),
  (15, .iaload, 16, []),
  (16, .aload_n 0, 17, []),
  (17, .getfield 22, 20, [3, 3, 74]),
  (20, .iload_n 3, 21, []),
  (21, .iaload, 22, []),
  (22, .if_icmp .le 18, 25, [40]),
  (25, .aload_n 0, 26, []),
  (26, .getfield 22, 29, [3, 3, 74]),
  (29, .iload_n 3, 30, []),
  (30, .aload_n 1, 31, []),
  (31, .getfield 22, 34, [3, 3, 74]),
  (34, .iload_n 3, 35, []),
  (35, .iaload, 36, []),
  (36, .iastore, 37, []),
  (37, .iinc 2 1, 40, [1]),
  (40, .iinc 3 1, 43, [1]),
  (43, .goto (-39), 46, [4]),
  (46, .aload_n 0, 47, []),
  (47, .dup, 48, []),
  (48, .getfield 19, 51, [3, 2, 72]),
  (51, .aload_n 1, 52, []),
  (52, .getfield 19, 55, [3, 2, 72]),
  (55, .lor, 56, []),
  (56, .putfield 19, 59, [3, 2, 2, 0, 72]),
  (59, .iload_n 2, 60, []),
  (60, .ireturn, 61, [])]
/-- 40: Stamp.compareWith -/
def tb40 : List (Nat × ab_E) := [(0, .iconst 0, 1, [0]),
  (1, .istore_n 2, 2, []),
  (2, .iconst 0, 3, [0]),
  (3, .istore_n 3, 4, []),
  (4, .iconst 0, 5, [0]),
  (5, .istore 4, 7, []),
  (7, .iload 4, 9, []),
  (9, .bipush 64, 11, [64]),
  (11, .if_icmp .ge 63, 14, [74]),
  (14, .iload_n 2, 15, []),
  (15, .ifCond .ne 20, 18, [35]),
  (18, .aload_n 0, 19, []),
  (19, .getfield 22, 22, [3, 3, 74]),
  (22, .iload 4, 24, []),
  (24, .iaload, 25, []),
  (25, .aload_n 1, 26, []),
  (26, .getfield 22, 29, [3, 3, 74]),
  (29, .iload 4, 31, []),
  (31, .iaload, 32, []),
  (32, .if_icmp .ge 7, 35, [39]),
  (35, .iconst 1, 36, [1]),
  (36, .goto 4, 39, [40]),
  (39, .iconst 0, 40, [0]),
  (40, .istore_n 2, 41, []),
  (41, .iload_n 3, 42, []),
  (42, .ifCond .ne 20, 45, [62]),
  (45, .aload_n 0, 46, []),
  (46, .getfield 22, 49, [3, 3, 74]),
  (49, .iload 4, 51, []),
  (51, .iaload, 52, []),
  (52, .aload_n 1, 53, []),
  (53, .getfield 22, 56, [3, 3, 74]),
  (56, .iload 4, 58, []),
  (58, .iaload, 59, []),
  (59, .if_icmp .le 7, 62, [66]),
  (62, .iconst 1, 63, [1]),
  (63, .goto 4, 66, [67]),
  (66, .iconst 0, 67, [0]),
  (67, .istore_n 3, 68, []),
  (68, .iinc 4 1, 71, [1]),
  (71, .goto (-64), 74, [7]),
  (74, .iload_n 2, 75, []),
  (75, .ifCond .eq 7, 78, [82]),
  (78, .iconst 1, 79, [1]),
  (79, .goto 4, 82, [83]),
  (82, .iconst 0, 83, [0]),
  (83, .iload_n 3, 84, []),
  (84, .ifCond .eq 7, 87, [91]),
  (87, .iconst 2, 88, [2]),
  (88, .goto 4, 91, [92]),
  (91, .iconst 0, 92, [0]),
  (92, .iadd, 93, []),
  (93, .ireturn, 94, [])]
/-- 41: SpanStamps.init -/
def tb41 : List (Nat × ab_E) := [(0, .aload_n 0, 1, []),
  (1, .invokespecial 1, 4, [1, 49, 50, 51]),
  (4, .aload_n 0, 5, []),
  (5, .new 7, 8, [0, 2, 52, 53, 34]),
  (8, .dup, 9, []),
  (9, .invokespecial 9, 12, [0, 0, 0, 0, 54, 55, 34]),
  (12, .putfield 10, 15, [4, 0, 3, 1, 149]),
  (15, .aload_n 0, 16, []),
  (16, .iconst 2, 17, [2]),
  (17, .anewarray 7, 20, [4, 52, 96]),
  (20, .putfield 16, 23, [4, 1, 3, 1, 150]),
  (23, .aload_n 0, 24, []),
  (24, .iconst 0, 25, [0]),
  (25, .putfield 20, 28, [4, 2, 0, 0, 151]),
  (28, .aload_n 0, 29, []),
  (29, .new 24, 32, [1, 6, 97, 98, 36]),
  (32, .dup, 33, []),
  (33, .invokespecial 26, 36, [0, 12, 0, 1, 99, 100, 36]),
  (36, .putfield 27, 39, [4, 3, 3, 1, 152]),
  (39, .aload_n 0, 40, []),
  (40, .new 31, 43, [2, 2, 128, 129, 37]),
  (43, .dup, 44, []),
  (44, .invokespecial 33, 47, [0, 19, 0, 1, 130, 131, 37]),
  (47, .putfield 34, 50, [4, 4, 3, 1, 153]),
  (50, .iconst 0, 51, [0]),
  (51, .istore_n 1, 52, []),
  (52, .iload_n 1, 53, []),
  (53, .iconst 2, 54, [2]),
  (54, .if_icmp .ge 22, 57, [76]),
  (57, .aload_n 0, 58, []),
  (58, .getfield 16, 61, [4, 1, 150]),
  (61, .iload_n 1, 62, []),
  (62, .new 7, 65, [0, 2, 52, 53, 34]),
  (65, .dup, 66, []),
  (66, .invokespecial 9, 69, [0, 0, 0, 0, 54, 55, 34]),
  (69, .aastore, 70, []),
  (70, .iinc 1 1, 73, [1]),
  (73, .goto (-21), 76, [52]),
  (76, .aload_n 0, 77, []),
  (77, .getfield 10, 80, [4, 0, 149]),
  (80, .getfield 38, 83, [0, 0, 88]),
  (83, .iconst 0, 84, [0]),
  (84, .aaload, 85, []),
  (85, .iconst 1, 86, [1]),
  (86, .putfield 42, 89, [3, 0, 1, 0, 66]),
  (89, .aload_n 0, 90, []),
  (90, .getfield 10, 93, [4, 0, 149]),
  (93, .getfield 38, 96, [0, 0, 88]),
  (96, .iconst 0, 97, [0]),
  (97, .aaload, 98, []),
  (98, .iconst 0, 99, [0]),
  (99, .iconst 0, 100, [0]),
  (100, .invokestatic 48, 103, [0, 23, 2, 142, 143, 38]),
  (103, .putfield 54, 106, [3, 1, 2, 0, 69]),
  (106, .return_, 107, [])]
/-- 42: SpanStamps.fork -/
def tb42 : List (Nat × ab_E) := [(0, .aload_n 0, 1, []),
  (1, .getfield 10, 4, [4, 0, 149]),
  (4, .iload_n 1, 5, []),
  (5, .invokevirtual 58, 8, [1, 1, 0, 169, 170, 171, 34]),
  (8, .astore_n 2, 9, []),
  (9, .aload_n 2, 10, []),
  (10, .ifnonnull 5, 13, [15]),
  (13, .iconst (-1), 14, [1, 1]),
  (14, .ireturn, 15, []),
  (15, .aload_n 2, 16, []),
  (16, .getfield 54, 19, [3, 1, 69]),
  (19, .lconst 0, 20, [0, 0]),
  (20, .lcmp, 21, []),
  (21, .ifCond .ne 6, 24, [27]),
  (24, .bipush (-3), 26, [3, 1]),
  (26, .ireturn, 27, []),
  (27, .aload_n 2, 28, []),
  (28, .getfield 54, 31, [3, 1, 69]),
  (31, .invokestatic 62, 34, [0, 122, 1, 173, 174, 40]),
  (34, .iconst 1, 35, [1]),
  (35, .if_icmp .ne 6, 38, [41]),
  (38, .bipush (-5), 40, [5, 1]),
  (40, .ireturn, 41, []),
  (41, .aload_n 2, 42, []),
  (42, .getfield 54, 45, [3, 1, 69]),
  (45, .invokestatic 68, 48, [0, 28, 1, 179, 180, 38]),
  (48, .lstore_n 3, 49, []),
  (49, .aload_n 0, 50, []),
  (50, .getfield 10, 53, [4, 0, 149]),
  (53, .aload_n 2, 54, []),
  (54, .aload_n 2, 55, []),
  (55, .getfield 54, 58, [3, 1, 69]),
  (58, .lload_n 3, 59, []),
  (59, .ldc2_w 72, 62, [1, 1, 193]),
  (62, .lxor, 63, []),
  (63, .land, 64, []),
  (64, .invokevirtual 74, 67, [2, 2, 0, 194, 195, 196, 34]),
  (67, .istore 5, 69, []),
  (69, .iload 5, 71, []),
  (71, .bipush (-4), 73, [4, 1]),
  (73, .if_icmp .eq 8, 76, [81]),
  (76, .aload_n 2, 77, []),
  (77, .lload_n 3, 78, []),
  (78, .putfield 54, 81, [3, 1, 2, 0, 69]),
  (81, .iload 5, 83, []),
  (83, .ireturn, 84, [])]
/-- 43: SpanStamps.peek -/
def tb43 : List (Nat × ab_E) := [(0, .aload_n 0, 1, []),
  (1, .getfield 10, 4, [4, 0, 149]),
  (4, .iload_n 1, 5, []),
  (5, .invokevirtual 58, 8, [1, 1, 0, 169, 170, 171, 34]),
  (8, .astore_n 2, 9, []),
  (9, .aload_n 2, 10, []),
  (10, .ifnonnull 5, 13, [15]),
  (13, .iconst (-1), 14, [1, 1]),
  (14, .ireturn, 15, []),
  (15, .aload_n 0, 16, []),
  (16, .getfield 10, 19, [4, 0, 149]),
  (19, .aload_n 2, 20, []),
  (20, .lconst 0, 21, [0, 0]),
  (21, .invokevirtual 74, 24, [2, 2, 0, 194, 195, 196, 34]),
  (24, .ireturn, 25, [])]
/-- 44: SpanStamps.happen -/
def tb44 : List (Nat × ab_E) := [(0, .aload_n 0, 1, []),
  (1, .getfield 10, 4, [4, 0, 149]),
  (4, .iload_n 1, 5, []),
  (5, .invokevirtual 58, 8, [1, 1, 0, 169, 170, 171, 34]),
  (8, .astore_n 2, 9, []),
  (9, .aload_n 2, 10, []),
  (10, .ifnonnull 5, 13, [15]),
  (13, .iconst (-1), 14, [1, 1]),
  (14, .ireturn, 15, []),
  (15, .aload_n 2, 16, []),
  (16, .getfield 54, 19, [3, 1, 69]),
  (19, .lconst 0, 20, [0, 0]),
  (20, .lcmp, 21, []),
  (21, .ifCond .ne 6, 24, [27]),
  (24, .bipush (-3), 26, [3, 1]),
  (26, .ireturn, 27, []),
  (27, .aload_n 0, 28, []),
  (28, .getfield 10, 31, [4, 0, 149]),
  (31, .getfield 78, 34, [0, 1, 90]),
  (34, .bipush 60, 36, [60]),
  (36, .if_icmp .lt 6, 39, [42]),
  (39, .bipush (-4), 41, [4, 1]),
  (41, .ireturn, 42, []),
  (42, .aload_n 0, 43, []),
  (43, .getfield 27, 46, [4, 3, 152]),
  (46, .aload_n 2, 47, []),
  (47, .invokevirtual 81, 50, [13, 1, 1, 213, 214, 215, 36]),
  (50, .aload_n 0, 51, []),
  (51, .getfield 27, 54, [4, 3, 152]),
  (54, .getfield 85, 57, [1, 0, 104]),
  (57, .iconst 0, 58, [0]),
  (58, .aload_n 2, 59, []),
  (59, .getfield 89, 62, [3, 3, 76]),
  (62, .iconst 0, 63, [0]),
  (63, .bipush 64, 65, [64]),
  (65, .invokestatic 90, 68, [1, 271, 204, 203, 41]),
  (68, .aload_n 0, 69, []),
  (69, .getfield 10, 72, [4, 0, 149]),
  (72, .getfield 78, 75, [0, 1, 90]),
  (75, .istore_n 3, 76, []),
  (76, .aload_n 2, 77, []),
  (77, .dup, 78, []),
  (78, .getfield 96, 81, [3, 2, 73]),
  (81, .lconst 1, 82, [1, 0]),
  (82, .iload_n 3, 83, []),
  (83, .lshl, 84, []),
  (84, .lor, 85, []),
  (85, .putfield 96, 88, [3, 2, 2, 0, 73]),
  (88, .aload_n 0, 89, []),
  (89, .getfield 10, 92, [4, 0, 149]),
  (92, .iload_n 3, 93, []),
  (93, .iconst 1, 94, [1]),
  (94, .iadd, 95, []),
  (95, .putfield 78, 98, [0, 1, 0, 0, 90]),
  (98, .iload_n 3, 99, []),
  (99, .ireturn, 100, [])]
/-- 45: SpanStamps.hear -/
def tb45 : List (Nat × ab_E) := [(0, .aload_n 0, 1, []),
  (1, .getfield 10, 4, [4, 0, 149]),
  (4, .iload_n 1, 5, []),
  (5, .invokevirtual 58, 8, [1, 1, 0, 169, 170, 171, 34]),
  (8, .astore_n 3, 9, []),
  (9, .aload_n 0, 10, []),
  (10, .getfield 10, 13, [4, 0, 149]),
  (13, .iload_n 2, 14, []),
  (14, .invokevirtual 58, 17, [1, 1, 0, 169, 170, 171, 34]),
  (17, .astore 4, 19, []),
  (19, .aload_n 3, 20, []),
  (20, .ifnull 8, 23, [28]),
  (23, .aload 4, 25, []),
  (25, .ifnonnull 5, 28, [30]),
  (28, .iconst (-1), 29, [1, 1]),
  (29, .ireturn, 30, []),
  (30, .iload_n 1, 31, []),
  (31, .iload_n 2, 32, []),
  (32, .if_icmp .ne 6, 35, [38]),
  (35, .bipush (-2), 37, [2, 1]),
  (37, .ireturn, 38, []),
  (38, .aload_n 3, 39, []),
  (39, .aload 4, 41, []),
  (41, .invokevirtual 99, 44, [39, 1, 3, 276, 277, 278, 35]),
  (44, .ireturn, 45, [])]
/-- 46: SpanStamps.join -/
def tb46 : List (Nat × ab_E) := [(0, .aload_n 0, 1, []),
  (1, .getfield 10, 4, [4, 0, 149]),
  (4, .iload_n 1, 5, []),
  (5, .invokevirtual 58, 8, [1, 1, 0, 169, 170, 171, 34]),
  (8, .astore_n 3, 9, []),
  (9, .aload_n 0, 10, []),
  (10, .getfield 10, 13, [4, 0, 149]),
  (13, .iload_n 2, 14, []),
  (14, .invokevirtual 58, 17, [1, 1, 0, 169, 170, 171, 34]),
  (17, .astore 4, 19, []),
  (19, .aload_n 3, 20, []),
  (20, .ifnull 8, 23, [28]),
  (23, .aload 4, 25, []),
  (25, .ifnonnull 5, 28, [30]),
  (28, .iconst (-1), 29, [1, 1]),
  (29, .ireturn, 30, []),
  (30, .iload_n 1, 31, []),
  (31, .iload_n 2, 32, []),
  (32, .if_icmp .ne 6, 35, [38]),
  (35, .bipush (-2), 37, [2, 1]),
  (37, .ireturn, 38, []),
  (38, .aload_n 3, 39, []),
  (39, .aload 4, 41, []),
  (41, .invokevirtual 99, 44, [39, 1, 3, 276, 277, 278, 35]),
  (44, .pop, 45, []),
  (45, .aload_n 3, 46, []),
  (46, .dup, 47, []),
  (47, .getfield 54, 50, [3, 1, 69]),
  (50, .aload 4, 52, []),
  (52, .getfield 54, 55, [3, 1, 69]),
  (55, .lor, 56, []),
  (56, .putfield 54, 59, [3, 1, 2, 0, 69]),
  (59, .aload 4, 61, []),
  (61, .iconst 0, 62, [0]),
  (62, .putfield 42, 65, [3, 0, 1, 0, 66]),
  (65, .aload_n 0, 66, []),
  (66, .getfield 10, 69, [4, 0, 149]),
  (69, .invokevirtual 103, 72, [4, 0, 0, 284, 285, 286, 34]),
  (72, .ireturn, 73, [])]
/-- 47: SpanStamps.share -/
def tb47 : List (Nat × ab_E) := [(0, .aload_n 0, 1, []),
  (1, .getfield 10, 4, [4, 0, 149]),
  (4, .iload_n 1, 5, []),
  (5, .invokevirtual 58, 8, [1, 1, 0, 169, 170, 171, 34]),
  (8, .astore_n 3, 9, []),
  (9, .aload_n 0, 10, []),
  (10, .getfield 10, 13, [4, 0, 149]),
  (13, .iload_n 2, 14, []),
  (14, .invokevirtual 58, 17, [1, 1, 0, 169, 170, 171, 34]),
  (17, .astore 4, 19, []),
  (19, .aload_n 3, 20, []),
  (20, .ifnull 8, 23, [28]),
  (23, .aload 4, 25, []),
  (25, .ifnonnull 5, 28, [30]),
  (28, .iconst (-1), 29, [1, 1]),
  (29, .ireturn, 30, []),
  (30, .iload_n 1, 31, []),
  (31, .iload_n 2, 32, []),
  (32, .if_icmp .ne 6, 35, [38]),
  (35, .bipush (-2), 37, [2, 1]),
  (37, .ireturn, 38, []),
  (38, .aload_n 3, 39, []),
  (39, .getfield 54, 42, [3, 1, 69]),
  (42, .aload 4, 44, []),
  (44, .getfield 54, 47, [3, 1, 69]),
  (47, .lor, 48, []),
  (48, .lstore 5, 50, []),
  (50, .lload 5, 52, []),
  (52, .lconst 0, 53, [0, 0]),
  (53, .lcmp, 54, []),
  (54, .ifCond .ne 6, 57, [60]),
  (57, .bipush (-3), 59, [3, 1]),
  (59, .ireturn, 60, []),
  (60, .lload 5, 62, []),
  (62, .invokestatic 62, 65, [0, 122, 1, 173, 174, 40]),
  (65, .iconst 1, 66, [1]),
  (66, .if_icmp .ne 6, 69, [72]),
  (69, .bipush (-5), 71, [5, 1]),
  (71, .ireturn, 72, []),
  (72, .aload_n 3, 73, []),
  (73, .aload 4, 75, []),
  (75, .invokevirtual 99, 78, [39, 1, 3, 276, 277, 278, 35]),
  (78, .pop, 79, []),
  (79, .aload 4, 81, []),
  (81, .aload_n 3, 82, []),
  (82, .invokevirtual 99, 85, [39, 1, 3, 276, 277, 278, 35]),
  (85, .pop, 86, []),
  (86, .aload_n 3, 87, []),
  (87, .lload 5, 89, []),
  (89, .invokestatic 68, 92, [0, 28, 1, 179, 180, 38]),
  (92, .putfield 54, 95, [3, 1, 2, 0, 69]),
  (95, .aload 4, 97, []),
  (97, .lload 5, 99, []),
  (99, .aload_n 3, 100, []),
  (100, .getfield 54, 103, [3, 1, 69]),
  (103, .ldc2_w 72, 106, [1, 1, 193]),
  (106, .lxor, 107, []),
  (107, .land, 108, []),
  (108, .putfield 54, 111, [3, 1, 2, 0, 69]),
  (111, .aload_n 3, 112, []),
  (112, .getfield 54, 115, [3, 1, 69]),
  (115, .invokestatic 62, 118, [0, 122, 1, 173, 174, 40]),
  (118, .ireturn, 119, [])]
/-- 48: SpanStamps.drop -/
def tb48 : List (Nat × ab_E) := [(0, .aload_n 0, 1, []),
  (1, .getfield 10, 4, [4, 0, 149]),
  (4, .iload_n 1, 5, []),
  (5, .invokevirtual 58, 8, [1, 1, 0, 169, 170, 171, 34]),
  (8, .astore_n 2, 9, []),
  (9, .aload_n 2, 10, []),
  (10, .ifnonnull 5, 13, [15]),
  (13, .iconst (-1), 14, [1, 1]),
  (14, .ireturn, 15, []),
  (15, .aload_n 2, 16, []),
  (16, .getfield 54, 19, [3, 1, 69]),
  (19, .lconst 0, 20, [0, 0]),
  (20, .lcmp, 21, []),
  (21, .ifCond .eq 6, 24, [27]),
  (24, .bipush (-5), 26, [5, 1]),
  (26, .ireturn, 27, []),
  (27, .aload_n 2, 28, []),
  (28, .iconst 0, 29, [0]),
  (29, .putfield 42, 32, [3, 0, 1, 0, 66]),
  (32, .aload_n 0, 33, []),
  (33, .getfield 10, 36, [4, 0, 149]),
  (36, .invokevirtual 103, 39, [4, 0, 0, 284, 285, 286, 34]),
  (39, .ireturn, 40, [])]
/-- 49: SpanStamps.order -/
def tb49 : List (Nat × ab_E) := [(0, .aload_n 0, 1, []),
  (1, .getfield 10, 4, [4, 0, 149]),
  (4, .iload_n 1, 5, []),
  (5, .invokevirtual 58, 8, [1, 1, 0, 169, 170, 171, 34]),
  (8, .astore_n 3, 9, []),
  (9, .aload_n 0, 10, []),
  (10, .getfield 10, 13, [4, 0, 149]),
  (13, .iload_n 2, 14, []),
  (14, .invokevirtual 58, 17, [1, 1, 0, 169, 170, 171, 34]),
  (17, .astore 4, 19, []),
  (19, .aload_n 3, 20, []),
  (20, .ifnull 8, 23, [28]),
  (23, .aload 4, 25, []),
  (25, .ifnonnull 5, 28, [30]),
  (28, .iconst (-1), 29, [1, 1]),
  (29, .ireturn, 30, []),
  (30, .aload_n 3, 31, []),
  (31, .aload 4, 33, []),
  (33, .invokevirtual 107, 36, [40, 1, 3, 310, 311, 312, 35]),
  (36, .ireturn, 37, [])]
/-- 50: SpanStamps.knows -/
def tb50 : List (Nat × ab_E) := [(0, .aload_n 0, 1, []),
  (1, .getfield 10, 4, [4, 0, 149]),
  (4, .iload_n 1, 5, []),
  (5, .invokevirtual 58, 8, [1, 1, 0, 169, 170, 171, 34]),
  (8, .astore_n 3, 9, []),
  (9, .aload_n 3, 10, []),
  (10, .ifnonnull 5, 13, [15]),
  (13, .iconst (-1), 14, [1, 1]),
  (14, .ireturn, 15, []),
  (15, .iload_n 2, 16, []),
  (16, .iconst (-1), 17, [1, 1]),
  (17, .if_icmp .ne 11, 20, [28]),
  (20, .aload_n 3, 21, []),
  (21, .getfield 96, 24, [3, 2, 73]),
  (24, .invokestatic 62, 27, [0, 122, 1, 173, 174, 40]),
  (27, .ireturn, 28, []),
  (28, .iload_n 2, 29, []),
  (29, .ifCond .lt 14, 32, [43]),
  (32, .iload_n 2, 33, []),
  (33, .aload_n 0, 34, []),
  (34, .getfield 10, 37, [4, 0, 149]),
  (37, .getfield 78, 40, [0, 1, 90]),
  (40, .if_icmp .lt 6, 43, [46]),
  (43, .bipush (-2), 45, [2, 1]),
  (45, .ireturn, 46, []),
  (46, .aload_n 3, 47, []),
  (47, .getfield 96, 50, [3, 2, 73]),
  (50, .lconst 1, 51, [1, 0]),
  (51, .iload_n 2, 52, []),
  (52, .lshl, 53, []),
  (53, .land, 54, []),
  (54, .lconst 0, 55, [0, 0]),
  (55, .lcmp, 56, []),
  (56, .ifCond .eq 7, 59, [63]),
  (59, .iconst 1, 60, [1]),
  (60, .goto 4, 63, [64]),
  (63, .iconst 0, 64, [0]),
  (64, .ireturn, 65, [])]
/-- 51: SpanStamps.height -/
def tb51 : List (Nat × ab_E) := [(0, .aload_n 0, 1, []),
  (1, .getfield 10, 4, [4, 0, 149]),
  (4, .iload_n 1, 5, []),
  (5, .invokevirtual 58, 8, [1, 1, 0, 169, 170, 171, 34]),
  (8, .astore_n 3, 9, []),
  (9, .aload_n 3, 10, []),
  (10, .ifnonnull 5, 13, [15]),
  (13, .iconst (-1), 14, [1, 1]),
  (14, .ireturn, 15, []),
  (15, .iload_n 2, 16, []),
  (16, .ifCond .lt 9, 19, [25]),
  (19, .iload_n 2, 20, []),
  (20, .bipush 64, 22, [64]),
  (22, .if_icmp .lt 6, 25, [28]),
  (25, .bipush (-2), 27, [2, 1]),
  (27, .ireturn, 28, []),
  (28, .aload_n 3, 29, []),
  (29, .getfield 89, 32, [3, 3, 76]),
  (32, .iload_n 2, 33, []),
  (33, .iaload, 34, []),
  (34, .ireturn, 35, [])]
/-- 52: SpanStamps.owner -/
def tb52 : List (Nat × ab_E) := [(0, .iload_n 1, 1, []),
  (1, .ifCond .lt 9, 4, [10]),
  (4, .iload_n 1, 5, []),
  (5, .bipush 64, 7, [64]),
  (7, .if_icmp .lt 6, 10, [13]),
  (10, .bipush (-2), 12, [2, 1]),
  (12, .ireturn, 13, []),
  (13, .iconst 0, 14, [0]),
  (14, .istore_n 2, 15, []),
  (15, .iload_n 2, 16, []),
  (16, .bipush 12, 18, [12]),
  (18, .if_icmp .ge 37, 21, [55]),
  (21, .aload_n 0, 22, []),
  (22, .getfield 10, 25, [4, 0, 149]),
  (25, .iload_n 2, 26, []),
  (26, .invokevirtual 58, 29, [1, 1, 0, 169, 170, 171, 34]),
  (29, .astore_n 3, 30, []),
  (30, .aload_n 3, 31, []),
  (31, .ifnull 18, 34, [49]),
  (34, .aload_n 3, 35, []),
  (35, .getfield 54, 38, [3, 1, 69]),
  (38, .lconst 1, 39, [1, 0]),
  (39, .iload_n 1, 40, []),
  (40, .lshl, 41, []),
  (41, .land, 42, []),
  (42, .lconst 0, 43, [0, 0]),
  (43, .lcmp, 44, []),
  (44, .ifCond .eq 5, 47, [49]),
  (47, .iload_n 2, 48, []),
  (48, .ireturn, 49, []),
  (49, .iinc 2 1, 52, [1]),
  (52, .goto (-37), 55, [15]),
  (55, .bipush (-6), 57, [6, 1]),
  (57, .ireturn, 58, [])]
/-- 53: SpanStamps.name -/
def tb53 : List (Nat × ab_E) := [(0, .aload_n 0, 1, []),
  (1, .getfield 10, 4, [4, 0, 149]),
  (4, .iload_n 1, 5, []),
  (5, .invokevirtual 58, 8, [1, 1, 0, 169, 170, 171, 34]),
  (8, .astore_n 3, 9, []),
  (9, .aload_n 3, 10, []),
  (10, .ifnonnull 5, 13, [15]),
  (13, .iconst (-1), 14, [1, 1]),
  (14, .ireturn, 15, []),
  (15, .iload_n 2, 16, []),
  (16, .iconst (-1), 17, [1, 1]),
  (17, .if_icmp .ge 6, 20, [23]),
  (20, .bipush (-2), 22, [2, 1]),
  (22, .ireturn, 23, []),
  (23, .aload_n 0, 24, []),
  (24, .getfield 34, 27, [4, 4, 153]),
  (27, .iconst 0, 28, [0]),
  (28, .putfield 110, 31, [2, 1, 0, 0, 136]),
  (31, .aload_n 0, 32, []),
  (32, .getfield 34, 35, [4, 4, 153]),
  (35, .aload_n 3, 36, []),
  (36, .getfield 54, 39, [3, 1, 69]),
  (39, .iconst 0, 40, [0]),
  (40, .iconst 0, 41, [0]),
  (41, .invokestatic 113, 44, [0, 61, 4, 330, 331, 33]),
  (44, .aload_n 0, 45, []),
  (45, .getfield 34, 48, [4, 4, 153]),
  (48, .iload_n 2, 49, []),
  (49, .invokevirtual 117, 52, [21, 1, 2, 338, 339, 340, 37]),
  (52, .ireturn, 53, [])]
/-- 54: SpanStamps.tree -/
def tb54 : List (Nat × ab_E) := [(0, .aload_n 0, 1, []),
  (1, .getfield 10, 4, [4, 0, 149]),
  (4, .iload_n 1, 5, []),
  (5, .invokevirtual 58, 8, [1, 1, 0, 169, 170, 171, 34]),
  (8, .astore_n 3, 9, []),
  (9, .aload_n 3, 10, []),
  (10, .ifnonnull 5, 13, [15]),
  (13, .iconst (-1), 14, [1, 1]),
  (14, .ireturn, 15, []),
  (15, .iload_n 2, 16, []),
  (16, .iconst (-1), 17, [1, 1]),
  (17, .if_icmp .ge 6, 20, [23]),
  (20, .bipush (-2), 22, [2, 1]),
  (22, .ireturn, 23, []),
  (23, .aload_n 0, 24, []),
  (24, .getfield 34, 27, [4, 4, 153]),
  (27, .iconst 0, 28, [0]),
  (28, .putfield 110, 31, [2, 1, 0, 0, 136]),
  (31, .aload_n 0, 32, []),
  (32, .getfield 34, 35, [4, 4, 153]),
  (35, .aload_n 3, 36, []),
  (36, .getfield 89, 39, [3, 3, 76]),
  (39, .iconst 0, 40, [0]),
  (40, .iconst 0, 41, [0]),
  (41, .iconst 0, 42, [0]),
  (42, .invokestatic 121, 45, [0, 62, 5, 346, 347, 33]),
  (45, .aload_n 0, 46, []),
  (46, .getfield 34, 49, [4, 4, 153]),
  (49, .iload_n 2, 50, []),
  (50, .invokevirtual 117, 53, [21, 1, 2, 338, 339, 340, 37]),
  (53, .ireturn, 54, [])]
/-- 55: SpanStamps.about -/
def tb55 : List (Nat × ab_E) := [(0, .aload_n 0, 1, []),
  (1, .getfield 10, 4, [4, 0, 149]),
  (4, .iload_n 1, 5, []),
  (5, .invokevirtual 58, 8, [1, 1, 0, 169, 170, 171, 34]),
  (8, .astore_n 3, 9, []),
  (9, .aload_n 3, 10, []),
  (10, .ifnonnull 5, 13, [15]),
  (13, .iconst (-1), 14, [1, 1]),
  (14, .ireturn, 15, []),
  (15, .iload_n 2, 16, []),
  (16, .tableswitch 94 0 4 #[36, 44, 52, 62, 72], 52, [110, 52, 60, 68, 78, 88]),
  (52, .aload_n 3, 53, []),
  (53, .getfield 54, 56, [3, 1, 69]),
  (56, .invokestatic 62, 59, [0, 122, 1, 173, 174, 40]),
  (59, .ireturn, 60, []),
  (60, .aload_n 3, 61, []),
  (61, .getfield 54, 64, [3, 1, 69]),
  (64, .invokestatic 125, 67, [0, 30, 1, 355, 356, 38]),
  (67, .ireturn, 68, []),
  (68, .aload_n 3, 69, []),
  (69, .getfield 89, 72, [3, 3, 76]),
  (72, .iconst 0, 73, [0]),
  (73, .iconst 0, 74, [0]),
  (74, .invokestatic 128, 77, [0, 33, 3, 359, 232, 38]),
  (77, .ireturn, 78, []),
  (78, .aload_n 3, 79, []),
  (79, .getfield 89, 82, [3, 3, 76]),
  (82, .iconst 0, 83, [0]),
  (83, .iconst 0, 84, [0]),
  (84, .invokestatic 132, 87, [0, 34, 3, 349, 244, 38]),
  (87, .ireturn, 88, []),
  (88, .aload_n 3, 89, []),
  (89, .getfield 54, 92, [3, 1, 69]),
  (92, .lconst 0, 93, [0, 0]),
  (93, .lcmp, 94, []),
  (94, .ifCond .ne 8, 97, [102]),
  (97, .bipush (-6), 99, [6, 1]),
  (99, .goto 10, 102, [109]),
  (102, .aload_n 3, 103, []),
  (103, .getfield 54, 106, [3, 1, 69]),
  (106, .invokestatic 135, 109, [0, 27, 1, 360, 183, 38]),
  (109, .ireturn, 110, []),
  (110, .bipush (-2), 112, [2, 1]),
  (112, .ireturn, 113, [])]
/-- 56: SpanStamps.growth -/
def tb56 : List (Nat × ab_E) := [(0, .aload_n 0, 1, []),
  (1, .getfield 10, 4, [4, 0, 149]),
  (4, .iload_n 1, 5, []),
  (5, .invokevirtual 58, 8, [1, 1, 0, 169, 170, 171, 34]),
  (8, .astore_n 3, 9, []),
  (9, .aload_n 3, 10, []),
  (10, .ifnonnull 5, 13, [15]),
  (13, .iconst (-1), 14, [1, 1]),
  (14, .ireturn, 15, []),
  (15, .iload_n 2, 16, []),
  (16, .ifCond .lt 8, 19, [24]),
  (19, .iload_n 2, 20, []),
  (20, .iconst 4, 21, [4]),
  (21, .if_icmp .le 6, 24, [27]),
  (24, .bipush (-2), 26, [2, 1]),
  (26, .ireturn, 27, []),
  (27, .aload_n 3, 28, []),
  (28, .getfield 54, 31, [3, 1, 69]),
  (31, .lconst 0, 32, [0, 0]),
  (32, .lcmp, 33, []),
  (33, .ifCond .ne 6, 36, [39]),
  (36, .bipush (-3), 38, [3, 1]),
  (38, .ireturn, 39, []),
  (39, .aload_n 0, 40, []),
  (40, .getfield 27, 43, [4, 3, 152]),
  (43, .aload_n 3, 44, []),
  (44, .invokevirtual 81, 47, [13, 1, 1, 213, 214, 215, 36]),
  (47, .iload_n 2, 48, []),
  (48, .tableswitch 72 0 3 #[32, 48, 56, 64], 80, [120, 80, 96, 104, 112]),
  (80, .aload_n 0, 81, []),
  (81, .getfield 27, 84, [4, 3, 152]),
  (84, .getfield 138, 87, [1, 1, 106]),
  (87, .ifCond .eq 7, 90, [94]),
  (90, .iconst 1, 91, [1]),
  (91, .goto 4, 94, [95]),
  (94, .iconst 0, 95, [0]),
  (95, .ireturn, 96, []),
  (96, .aload_n 0, 97, []),
  (97, .getfield 27, 100, [4, 3, 152]),
  (100, .getfield 141, 103, [1, 2, 108]),
  (103, .ireturn, 104, []),
  (104, .aload_n 0, 105, []),
  (105, .getfield 27, 108, [4, 3, 152]),
  (108, .getfield 144, 111, [1, 3, 110]),
  (111, .ireturn, 112, []),
  (112, .aload_n 0, 113, []),
  (113, .getfield 27, 116, [4, 3, 152]),
  (116, .getfield 147, 119, [1, 4, 112]),
  (119, .ireturn, 120, []),
  (120, .aload_n 0, 121, []),
  (121, .getfield 27, 124, [4, 3, 152]),
  (124, .getfield 150, 127, [1, 5, 114]),
  (127, .ireturn, 128, [])]
/-- 57: SpanStamps.unlike -/
def tb57 : List (Nat × ab_E) := [(0, .iload_n 1, 1, []),
  (1, .tableswitch 51 0 2 #[27, 35, 43], 28, [52, 28, 36, 44]),
  (28, .aload_n 0, 29, []),
  (29, .getfield 10, 32, [4, 0, 149]),
  (32, .invokevirtual 153, 35, [6, 0, 0, 369, 370, 371, 34]),
  (35, .ireturn, 36, []),
  (36, .aload_n 0, 37, []),
  (37, .getfield 10, 40, [4, 0, 149]),
  (40, .invokevirtual 156, 43, [8, 0, 0, 378, 379, 380, 34]),
  (43, .ireturn, 44, []),
  (44, .aload_n 0, 45, []),
  (45, .getfield 10, 48, [4, 0, 149]),
  (48, .invokevirtual 159, 51, [10, 0, 0, 386, 387, 388, 34]),
  (51, .ireturn, 52, []),
  (52, .bipush (-2), 54, [2, 1]),
  (54, .ireturn, 55, [])]
/-- 58: SpanStamps.image -/
def tb58 : List (Nat × ab_E) := [(0, .iload_n 1, 1, []),
  (1, .ifCond .lt 8, 4, [9]),
  (4, .iload_n 1, 5, []),
  (5, .iconst 2, 6, [2]),
  (6, .if_icmp .lt 6, 9, [12]),
  (9, .bipush (-2), 11, [2, 1]),
  (11, .ireturn, 12, []),
  (12, .aload_n 0, 13, []),
  (13, .getfield 16, 16, [4, 1, 150]),
  (16, .iload_n 1, 17, []),
  (17, .aaload, 18, []),
  (18, .aload_n 0, 19, []),
  (19, .getfield 10, 22, [4, 0, 149]),
  (22, .invokevirtual 162, 25, [5, 1, 0, 398, 399, 400, 34]),
  (25, .aload_n 0, 26, []),
  (26, .dup, 27, []),
  (27, .getfield 20, 30, [4, 2, 151]),
  (30, .iconst 1, 31, [1]),
  (31, .iload_n 1, 32, []),
  (32, .ishl, 33, []),
  (33, .ior, 34, []),
  (34, .putfield 20, 37, [4, 2, 0, 0, 151]),
  (37, .iconst 1, 38, [1]),
  (38, .ireturn, 39, [])]
/-- 59: SpanStamps.restore -/
def tb59 : List (Nat × ab_E) := [(0, .iload_n 1, 1, []),
  (1, .ifCond .lt 8, 4, [9]),
  (4, .iload_n 1, 5, []),
  (5, .iconst 2, 6, [2]),
  (6, .if_icmp .lt 6, 9, [12]),
  (9, .bipush (-2), 11, [2, 1]),
  (11, .ireturn, 12, []),
  (12, .aload_n 0, 13, []),
  (13, .getfield 20, 16, [4, 2, 151]),
  (16, .iconst 1, 17, [1]),
  (17, .iload_n 1, 18, []),
  (18, .ishl, 19, []),
  (19, .iand, 20, []),
  (20, .ifCond .ne 6, 23, [26]),
  (23, .bipush (-3), 25, [3, 1]),
  (25, .ireturn, 26, []),
  (26, .aload_n 0, 27, []),
  (27, .getfield 10, 30, [4, 0, 149]),
  (30, .aload_n 0, 31, []),
  (31, .getfield 16, 34, [4, 1, 150]),
  (34, .iload_n 1, 35, []),
  (35, .aaload, 36, []),
  (36, .invokevirtual 162, 39, [5, 1, 0, 398, 399, 400, 34]),
  (39, .iconst 1, 40, [1]),
  (40, .ireturn, 41, [])]
/-- 60: SpanStamps.count -/
def tb60 : List (Nat × ab_E) := [(0, .iload_n 1, 1, []),
  (1, .tableswitch 60 0 3 #[31, 39, 47, 55], 32, [61, 32, 40, 48, 56]),
  (32, .aload_n 0, 33, []),
  (33, .getfield 10, 36, [4, 0, 149]),
  (36, .invokevirtual 103, 39, [4, 0, 0, 284, 285, 286, 34]),
  (39, .ireturn, 40, []),
  (40, .aload_n 0, 41, []),
  (41, .getfield 10, 44, [4, 0, 149]),
  (44, .invokevirtual 166, 47, [3, 0, 0, 410, 289, 290, 34]),
  (47, .ireturn, 48, []),
  (48, .aload_n 0, 49, []),
  (49, .getfield 10, 52, [4, 0, 149]),
  (52, .getfield 78, 55, [0, 1, 90]),
  (55, .ireturn, 56, []),
  (56, .aload_n 0, 57, []),
  (57, .getfield 20, 60, [4, 2, 151]),
  (60, .ireturn, 61, []),
  (61, .bipush (-2), 63, [2, 1]),
  (63, .ireturn, 64, [])]
/-- 61: SpanStamps.writeName -/
def tb61 : List (Nat × ab_E) := [(0, .iload_n 3, 1, []),
  (1, .iload 4, 3, []),
  (3, .invokestatic 48, 6, [0, 23, 2, 142, 143, 38]),
  (6, .lstore 5, 8, []),
  (8, .lload_n 1, 9, []),
  (9, .lload 5, 11, []),
  (11, .land, 12, []),
  (12, .lconst 0, 13, [0, 0]),
  (13, .lcmp, 14, []),
  (14, .ifCond .ne 11, 17, [25]),
  (17, .aload_n 0, 18, []),
  (18, .iconst 0, 19, [0]),
  (19, .invokevirtual 169, 22, [20, 1, 2, 333, 334, 335, 37]),
  (22, .goto 58, 25, [80]),
  (25, .lload_n 1, 26, []),
  (26, .lload 5, 28, []),
  (28, .land, 29, []),
  (29, .lload 5, 31, []),
  (31, .lcmp, 32, []),
  (32, .ifCond .eq 10, 35, [42]),
  (35, .iload 4, 37, []),
  (37, .bipush 6, 39, [6]),
  (39, .if_icmp .lt 11, 42, [50]),
  (42, .aload_n 0, 43, []),
  (43, .iconst 1, 44, [1]),
  (44, .invokevirtual 169, 47, [20, 1, 2, 333, 334, 335, 37]),
  (47, .goto 33, 50, [80]),
  (50, .aload_n 0, 51, []),
  (51, .iconst 2, 52, [2]),
  (52, .invokevirtual 169, 55, [20, 1, 2, 333, 334, 335, 37]),
  (55, .aload_n 0, 56, []),
  (56, .lload_n 1, 57, []),
  (57, .iload_n 3, 58, []),
  (58, .iload 4, 60, []),
  (60, .iconst 1, 61, [1]),
  (61, .iadd, 62, []),
  (62, .invokestatic 113, 65, [0, 61, 4, 330, 331, 33]),
  (65, .aload_n 0, 66, []),
  (66, .lload_n 1, 67, []),
  (67, .iload_n 3, 68, []),
  (68, .iload 4, 70, []),
  (70, .invokestatic 173, 73, [0, 24, 2, 337, 226, 38]),
  (73, .iload 4, 75, []),
  (75, .iconst 1, 76, [1]),
  (76, .iadd, 77, []),
  (77, .invokestatic 113, 80, [0, 61, 4, 330, 331, 33]),
  (80, .return_, 81, [])]
/-- 62: SpanStamps.writeHeights -/
def tb62 : List (Nat × ab_E) := [(0, .aload_n 1, 1, []),
  (1, .iload_n 2, 2, []),
  (2, .iload_n 3, 3, []),
  (3, .invokestatic 132, 6, [0, 34, 3, 349, 244, 38]),
  (6, .istore 5, 8, []),
  (8, .iload_n 3, 9, []),
  (9, .bipush 6, 11, [6]),
  (11, .if_icmp .ge 12, 14, [23]),
  (14, .aload_n 1, 15, []),
  (15, .iload_n 2, 16, []),
  (16, .iload_n 3, 17, []),
  (17, .invokestatic 177, 20, [0, 32, 3, 350, 223, 38]),
  (20, .ifCond .eq 15, 23, [35]),
  (23, .aload_n 0, 24, []),
  (24, .iload 5, 26, []),
  (26, .iload 4, 28, []),
  (28, .isub, 29, []),
  (29, .invokevirtual 169, 32, [20, 1, 2, 333, 334, 335, 37]),
  (32, .goto 45, 35, [77]),
  (35, .aload_n 0, 36, []),
  (36, .sipush 1000, 39, [1000]),
  (39, .invokevirtual 169, 42, [20, 1, 2, 333, 334, 335, 37]),
  (42, .aload_n 0, 43, []),
  (43, .iload 5, 45, []),
  (45, .iload 4, 47, []),
  (47, .isub, 48, []),
  (48, .invokevirtual 169, 51, [20, 1, 2, 333, 334, 335, 37]),
  (51, .aload_n 0, 52, []),
  (52, .aload_n 1, 53, []),
  (53, .iload_n 2, 54, []),
  (54, .iload_n 3, 55, []),
  (55, .iconst 1, 56, [1]),
  (56, .iadd, 57, []),
  (57, .iload 5, 59, []),
  (59, .invokestatic 121, 62, [0, 62, 5, 346, 347, 33]),
  (62, .aload_n 0, 63, []),
  (63, .aload_n 1, 64, []),
  (64, .iload_n 2, 65, []),
  (65, .iload_n 3, 66, []),
  (66, .invokestatic 173, 69, [0, 24, 2, 337, 226, 38]),
  (69, .iload_n 3, 70, []),
  (70, .iconst 1, 71, [1]),
  (71, .iadd, 72, []),
  (72, .iload 5, 74, []),
  (74, .invokestatic 121, 77, [0, 62, 5, 346, 347, 33]),
  (77, .return_, 78, [])]
/-- 63: SpanStampsModel.init -/
def tb63 : List (Nat × ab_E) := [(0, .aload_n 0, 1, []),
  (1, .invokespecial 1, 4, [1, 416, 50, 51]),
  (4, .aload_n 0, 5, []),
  (5, .bipush 12, 7, [12]),
  (7, .newarray .boolean, 9, [2, 473]),
  (9, .putfield 7, 12, [5, 0, 3, 1, 418]),
  (12, .aload_n 0, 13, []),
  (13, .bipush 12, 15, [12]),
  (15, .newarray .long, 17, [1, 474]),
  (17, .putfield 13, 20, [5, 1, 3, 1, 419]),
  (20, .aload_n 0, 21, []),
  (21, .bipush 12, 23, [12]),
  (23, .newarray .long, 25, [1, 474]),
  (25, .putfield 17, 28, [5, 2, 3, 1, 420]),
  (28, .aload_n 0, 29, []),
  (29, .sipush 768, 32, [768]),
  (32, .newarray .int, 34, [0, 86]),
  (34, .putfield 20, 37, [5, 3, 3, 1, 421]),
  (37, .aload_n 0, 38, []),
  (38, .bipush 64, 40, [64]),
  (40, .newarray .int, 42, [0, 86]),
  (42, .putfield 24, 45, [5, 5, 3, 1, 423]),
  (45, .aload_n 0, 46, []),
  (46, .sipush 128, 49, [128]),
  (49, .newarray .int, 51, [0, 86]),
  (51, .putfield 27, 54, [5, 6, 3, 1, 424]),
  (54, .aload_n 0, 55, []),
  (55, .sipush 256, 58, [256]),
  (58, .newarray .int, 60, [0, 86]),
  (60, .putfield 30, 63, [5, 7, 3, 1, 425]),
  (63, .aload_n 0, 64, []),
  (64, .bipush 16, 66, [16]),
  (66, .newarray .int, 68, [0, 86]),
  (68, .putfield 33, 71, [5, 8, 3, 1, 426]),
  (71, .aload_n 0, 72, []),
  (72, .bipush 16, 74, [16]),
  (74, .newarray .int, 76, [0, 86]),
  (76, .putfield 36, 79, [5, 9, 3, 1, 427]),
  (79, .aload_n 0, 80, []),
  (80, .iconst 2, 81, [2]),
  (81, .newarray .boolean, 83, [2, 473]),
  (83, .putfield 39, 86, [5, 12, 3, 1, 430]),
  (86, .aload_n 0, 87, []),
  (87, .bipush 24, 89, [24]),
  (89, .newarray .boolean, 91, [2, 473]),
  (91, .putfield 42, 94, [5, 13, 3, 1, 431]),
  (94, .aload_n 0, 95, []),
  (95, .bipush 24, 97, [24]),
  (97, .newarray .long, 99, [1, 474]),
  (99, .putfield 45, 102, [5, 14, 3, 1, 432]),
  (102, .aload_n 0, 103, []),
  (103, .bipush 24, 105, [24]),
  (105, .newarray .long, 107, [1, 474]),
  (107, .putfield 48, 110, [5, 15, 3, 1, 433]),
  (110, .aload_n 0, 111, []),
  (111, .sipush 1536, 114, [1536]),
  (114, .newarray .int, 116, [0, 86]),
  (116, .putfield 51, 119, [5, 16, 3, 1, 434]),
  (119, .aload_n 0, 120, []),
  (120, .iconst 2, 121, [2]),
  (121, .newarray .int, 123, [0, 86]),
  (123, .putfield 54, 126, [5, 17, 3, 1, 435]),
  (126, .aload_n 0, 127, []),
  (127, .getfield 7, 130, [5, 0, 418]),
  (130, .iconst 0, 131, [0]),
  (131, .iconst 1, 132, [1]),
  (132, .bastore, 133, []),
  (133, .aload_n 0, 134, []),
  (134, .getfield 13, 137, [5, 1, 419]),
  (137, .iconst 0, 138, [0]),
  (138, .ldc2_w 57, 141, [1, 1, 417]),
  (141, .lastore, 142, []),
  (142, .return_, 143, [])]
/-- 64: SpanStampsModel.in -/
def tb64 : List (Nat × ab_E) := [(0, .iload_n 0, 1, []),
  (1, .iload_n 1, 2, []),
  (2, .if_icmp .lt 12, 5, [14]),
  (5, .iload_n 0, 6, []),
  (6, .iload_n 2, 7, []),
  (7, .if_icmp .gt 7, 10, [14]),
  (10, .iconst 1, 11, [1]),
  (11, .goto 4, 14, [15]),
  (14, .iconst 0, 15, [0]),
  (15, .ireturn, 16, [])]
/-- 65: SpanStampsModel.isStamp -/
def tb65 : List (Nat × ab_E) := [(0, .iload_n 1, 1, []),
  (1, .iconst 0, 2, [0]),
  (2, .bipush 11, 4, [11]),
  (4, .invokestatic 59, 7, [0, 64, 3, 483, 484, 39]),
  (7, .ifCond .eq 16, 10, [23]),
  (10, .aload_n 0, 11, []),
  (11, .getfield 7, 14, [5, 0, 418]),
  (14, .iload_n 1, 15, []),
  (15, .baload, 16, []),
  (16, .ifCond .eq 7, 19, [23]),
  (19, .iconst 1, 20, [1]),
  (20, .goto 4, 23, [24]),
  (23, .iconst 0, 24, [0]),
  (24, .ireturn, 25, [])]
/-- 66: SpanStampsModel.has -/
def tb66 : List (Nat × ab_E) := [(0, .lload_n 0, 1, []),
  (1, .iload_n 2, 2, []),
  (2, .lshr, 3, []),
  (3, .lconst 1, 4, [1, 0]),
  (4, .land, 5, []),
  (5, .lconst 1, 6, [1, 0]),
  (6, .lcmp, 7, []),
  (7, .ifCond .ne 7, 10, [14]),
  (10, .iconst 1, 11, [1]),
  (11, .goto 4, 14, [15]),
  (14, .iconst 0, 15, [0]),
  (15, .ireturn, 16, [])]
/-- 67: SpanStampsModel.bits -/
def tb67 : List (Nat × ab_E) := [(0, .iconst 0, 1, [0]),
  (1, .istore_n 2, 2, []),
  (2, .iconst 0, 3, [0]),
  (3, .istore_n 3, 4, []),
  (4, .iload_n 3, 5, []),
  (5, .bipush 64, 7, [64]),
  (7, .if_icmp .ge 25, 10, [32]),
  (10, .iload_n 2, 11, []),
  (11, .lload_n 0, 12, []),
  (12, .iload_n 3, 13, []),
  (13, .invokestatic 63, 16, [0, 66, 2, 489, 490, 39]),
  (16, .ifCond .eq 7, 19, [23]),
  (19, .iconst 1, 20, [1]),
  (20, .goto 4, 23, [24]),
  (23, .iconst 0, 24, [0]),
  (24, .iadd, 25, []),
  (25, .istore_n 2, 26, []),
  (26, .iinc 3 1, 29, [1]),
  (29, .goto (-25), 32, [4]),
  (32, .iload_n 2, 33, []),
  (33, .ireturn, 34, [])]
/-- 68: SpanStampsModel.many -/
def tb68 : List (Nat × ab_E) := [(0, .iconst 0, 1, [0]),
  (1, .istore_n 1, 2, []),
  (2, .iconst 0, 3, [0]),
  (3, .istore_n 2, 4, []),
  (4, .iload_n 2, 5, []),
  (5, .bipush 12, 7, [12]),
  (7, .if_icmp .ge 26, 10, [33]),
  (10, .iload_n 1, 11, []),
  (11, .aload_n 0, 12, []),
  (12, .getfield 7, 15, [5, 0, 418]),
  (15, .iload_n 2, 16, []),
  (16, .baload, 17, []),
  (17, .ifCond .eq 7, 20, [24]),
  (20, .iconst 1, 21, [1]),
  (21, .goto 4, 24, [25]),
  (24, .iconst 0, 25, [0]),
  (25, .iadd, 26, []),
  (26, .istore_n 1, 27, []),
  (27, .iinc 2 1, 30, [1]),
  (30, .goto (-26), 33, [4]),
  (33, .iload_n 1, 34, []),
  (34, .ireturn, 35, [])]
/-- 69: SpanStampsModel.free -/
def tb69 : List (Nat × ab_E) := [(0, .bipush (-6), 2, [6, 1]),
  (2, .istore_n 1, 3, []),
  (3, .bipush 11, 5, [11]),
  (5, .istore_n 2, 6, []),
  (6, .iload_n 2, 7, []),
  (7, .ifCond .lt 24, 10, [31]),
  (10, .aload_n 0, 11, []),
  (11, .getfield 7, 14, [5, 0, 418]),
  (14, .iload_n 2, 15, []),
  (15, .baload, 16, []),
  (16, .ifCond .eq 7, 19, [23]),
  (19, .iload_n 1, 20, []),
  (20, .goto 4, 23, [24]),
  (23, .iload_n 2, 24, []),
  (24, .istore_n 1, 25, []),
  (25, .iinc 2 (-1), 28, [1, 1]),
  (28, .goto (-22), 31, [6]),
  (31, .iload_n 1, 32, []),
  (32, .ireturn, 33, [])]
/-- 70: SpanStampsModel.depthOf -/
def tb70 : List (Nat × ab_E) := [(0, .iconst 0, 1, [0]),
  (1, .istore_n 1, 2, []),
  (2, .iload_n 0, 3, []),
  (3, .iload_n 1, 4, []),
  (4, .ishr, 5, []),
  (5, .iconst 1, 6, [1]),
  (6, .if_icmp .le 9, 9, [15]),
  (9, .iinc 1 1, 12, [1]),
  (12, .goto (-10), 15, [2]),
  (15, .iload_n 1, 16, []),
  (16, .ireturn, 17, [])]
/-- 71: SpanStampsModel.sizeOf -/
def tb71 : List (Nat × ab_E) := [(0, .bipush 64, 2, [64]),
  (2, .iload_n 0, 3, []),
  (3, .invokestatic 67, 6, [0, 70, 1, 517, 518, 39]),
  (6, .ishr, 7, []),
  (7, .ireturn, 8, [])]
/-- 72: SpanStampsModel.beginOf -/
def tb72 : List (Nat × ab_E) := [(0, .iload_n 0, 1, []),
  (1, .iconst 1, 2, [1]),
  (2, .iload_n 0, 3, []),
  (3, .invokestatic 67, 6, [0, 70, 1, 517, 518, 39]),
  (6, .ishl, 7, []),
  (7, .isub, 8, []),
  (8, .iload_n 0, 9, []),
  (9, .invokestatic 71, 12, [0, 71, 1, 514, 515, 39]),
  (12, .imul, 13, []),
  (13, .ireturn, 14, [])]
/-- 73: SpanStampsModel.cellsOf -/
def tb73 : List (Nat × ab_E) := [(0, .lconst 0, 1, [0, 0]),
  (1, .lstore_n 1, 2, []),
  (2, .iconst 0, 3, [0]),
  (3, .istore_n 3, 4, []),
  (4, .iload_n 3, 5, []),
  (5, .iload_n 0, 6, []),
  (6, .invokestatic 71, 9, [0, 71, 1, 514, 515, 39]),
  (9, .if_icmp .ge 20, 12, [29]),
  (12, .lload_n 1, 13, []),
  (13, .lconst 1, 14, [1, 0]),
  (14, .iload_n 0, 15, []),
  (15, .invokestatic 74, 18, [0, 72, 1, 520, 521, 39]),
  (18, .iload_n 3, 19, []),
  (19, .iadd, 20, []),
  (20, .lshl, 21, []),
  (21, .lor, 22, []),
  (22, .lstore_n 1, 23, []),
  (23, .iinc 3 1, 26, [1]),
  (26, .goto (-22), 29, [4]),
  (29, .lload_n 1, 30, []),
  (30, .lreturn, 31, [])]
/-- 74: SpanStampsModel.liesIn -/
def tb74 : List (Nat × ab_E) := [(0, .iload_n 0, 1, []),
  (1, .invokestatic 77, 4, [0, 73, 1, 511, 512, 39]),
  (4, .lload_n 1, 5, []),
  (5, .ldc2_w 57, 8, [1, 1, 417]),
  (8, .lxor, 9, []),
  (9, .land, 10, []),
  (10, .lconst 0, 11, [0, 0]),
  (11, .lcmp, 12, []),
  (12, .ifCond .ne 7, 15, [19]),
  (15, .iconst 1, 16, [1]),
  (16, .goto 4, 19, [20]),
  (19, .iconst 0, 20, [0]),
  (20, .ireturn, 21, [])]
/-- 75: SpanStampsModel.leastSpan -/
def tb75 : List (Nat × ab_E) := [(0, .iconst 1, 1, [1]),
  (1, .istore_n 2, 2, []),
  (2, .iconst 1, 3, [1]),
  (3, .istore_n 3, 4, []),
  (4, .iload_n 3, 5, []),
  (5, .sipush 128, 8, [128]),
  (8, .if_icmp .ge 30, 11, [38]),
  (11, .lload_n 0, 12, []),
  (12, .iload_n 3, 13, []),
  (13, .invokestatic 77, 16, [0, 73, 1, 511, 512, 39]),
  (16, .ldc2_w 57, 19, [1, 1, 417]),
  (19, .lxor, 20, []),
  (20, .land, 21, []),
  (21, .lconst 0, 22, [0, 0]),
  (22, .lcmp, 23, []),
  (23, .ifCond .ne 7, 26, [30]),
  (26, .iload_n 3, 27, []),
  (27, .goto 4, 30, [31]),
  (30, .iload_n 2, 31, []),
  (31, .istore_n 2, 32, []),
  (32, .iinc 3 1, 35, [1]),
  (35, .goto (-31), 38, [4]),
  (38, .iload_n 2, 39, []),
  (39, .ireturn, 40, [])]
/-- 76: SpanStampsModel.copyHeights -/
def tb76 : List (Nat × ab_E) := [(0, .iconst 0, 1, [0]),
  (1, .istore_n 3, 2, []),
  (2, .iload_n 3, 3, []),
  (3, .bipush 64, 5, [64]),
  (5, .if_icmp .ge 31, 8, [36]),
  (8, .aload_n 0, 9, []),
  (9, .getfield 20, 12, [5, 3, 421]),
  (12, .bipush 64, 14, [64]),
  (14, .iload_n 2, 15, []),
  (15, .imul, 16, []),
  (16, .iload_n 3, 17, []),
  (17, .iadd, 18, []),
  (18, .aload_n 0, 19, []),
  (19, .getfield 20, 22, [5, 3, 421]),
  (22, .bipush 64, 24, [64]),
  (24, .iload_n 1, 25, []),
  (25, .imul, 26, []),
  (26, .iload_n 3, 27, []),
  (27, .iadd, 28, []),
  (28, .iaload, 29, []),
  (29, .iastore, 30, []),
  (30, .iinc 3 1, 33, [1]),
  (33, .goto (-31), 36, [2]),
  (36, .return_, 37, [])]
/-- 77: SpanStampsModel.part -/
def tb77 : List (Nat × ab_E) := [(0, .iconst 2, 1, [2]),
  (1, .lload_n 1, 2, []),
  (2, .invokestatic 81, 5, [0, 75, 1, 508, 509, 39]),
  (5, .imul, 6, []),
  (6, .invokestatic 77, 9, [0, 73, 1, 511, 512, 39]),
  (9, .lstore 5, 11, []),
  (11, .aload_n 0, 12, []),
  (12, .getfield 13, 15, [5, 1, 419]),
  (15, .iload_n 3, 16, []),
  (16, .lload_n 1, 17, []),
  (17, .lload 5, 19, []),
  (19, .land, 20, []),
  (20, .lastore, 21, []),
  (21, .aload_n 0, 22, []),
  (22, .getfield 13, 25, [5, 1, 419]),
  (25, .iload 4, 27, []),
  (27, .lload_n 1, 28, []),
  (28, .lload 5, 30, []),
  (30, .ldc2_w 57, 33, [1, 1, 417]),
  (33, .lxor, 34, []),
  (34, .land, 35, []),
  (35, .lastore, 36, []),
  (36, .return_, 37, [])]
/-- 78: SpanStampsModel.add -/
def tb78 : List (Nat × ab_E) := [(0, .aload_n 0, 1, []),
  (1, .invokevirtual 85, 4, [69, 0, 5, 496, 498, 8, 39]),
  (4, .istore_n 2, 5, []),
  (5, .iload_n 2, 6, []),
  (6, .ifCond .lt 35, 9, [41]),
  (9, .aload_n 0, 10, []),
  (10, .getfield 7, 13, [5, 0, 418]),
  (13, .iload_n 2, 14, []),
  (14, .iconst 1, 15, [1]),
  (15, .bastore, 16, []),
  (16, .aload_n 0, 17, []),
  (17, .getfield 13, 20, [5, 1, 419]),
  (20, .iload_n 2, 21, []),
  (21, .lconst 0, 22, [0, 0]),
  (22, .lastore, 23, []),
  (23, .aload_n 0, 24, []),
  (24, .getfield 17, 27, [5, 2, 420]),
  (27, .iload_n 2, 28, []),
  (28, .aload_n 0, 29, []),
  (29, .getfield 17, 32, [5, 2, 420]),
  (32, .iload_n 1, 33, []),
  (33, .laload, 34, []),
  (34, .lastore, 35, []),
  (35, .aload_n 0, 36, []),
  (36, .iload_n 1, 37, []),
  (37, .iload_n 2, 38, []),
  (38, .invokevirtual 89, 41, [76, 2, 5, 500, 502, 9, 39]),
  (41, .iload_n 2, 42, []),
  (42, .ireturn, 43, [])]
/-- 79: SpanStampsModel.fork -/
def tb79 : List (Nat × ab_E) := [(0, .aload_n 0, 1, []),
  (1, .iload_n 1, 2, []),
  (2, .invokevirtual 93, 5, [65, 1, 5, 479, 481, 6, 39]),
  (5, .ifCond .ne 5, 8, [10]),
  (8, .iconst (-1), 9, [1, 1]),
  (9, .ireturn, 10, []),
  (10, .aload_n 0, 11, []),
  (11, .getfield 13, 14, [5, 1, 419]),
  (14, .iload_n 1, 15, []),
  (15, .laload, 16, []),
  (16, .lconst 0, 17, [0, 0]),
  (17, .lcmp, 18, []),
  (18, .ifCond .ne 6, 21, [24]),
  (21, .bipush (-3), 23, [3, 1]),
  (23, .ireturn, 24, []),
  (24, .aload_n 0, 25, []),
  (25, .getfield 13, 28, [5, 1, 419]),
  (28, .iload_n 1, 29, []),
  (29, .laload, 30, []),
  (30, .invokestatic 97, 33, [0, 67, 1, 486, 487, 39]),
  (33, .iconst 1, 34, [1]),
  (34, .if_icmp .ne 6, 37, [40]),
  (37, .bipush (-5), 39, [5, 1]),
  (39, .ireturn, 40, []),
  (40, .aload_n 0, 41, []),
  (41, .iload_n 1, 42, []),
  (42, .invokevirtual 100, 45, [78, 1, 5, 492, 494, 7, 39]),
  (45, .istore_n 2, 46, []),
  (46, .iload_n 2, 47, []),
  (47, .ifCond .ge 6, 50, [53]),
  (50, .bipush (-4), 52, [4, 1]),
  (52, .ireturn, 53, []),
  (53, .aload_n 0, 54, []),
  (54, .aload_n 0, 55, []),
  (55, .getfield 13, 58, [5, 1, 419]),
  (58, .iload_n 1, 59, []),
  (59, .laload, 60, []),
  (60, .iload_n 1, 61, []),
  (61, .iload_n 2, 62, []),
  (62, .invokevirtual 103, 65, [77, 3, 5, 504, 506, 10, 39]),
  (65, .iload_n 2, 66, []),
  (66, .ireturn, 67, [])]
/-- 80: SpanStampsModel.peek -/
def tb80 : List (Nat × ab_E) := [(0, .aload_n 0, 1, []),
  (1, .iload_n 1, 2, []),
  (2, .invokevirtual 93, 5, [65, 1, 5, 479, 481, 6, 39]),
  (5, .ifCond .ne 5, 8, [10]),
  (8, .iconst (-1), 9, [1, 1]),
  (9, .ireturn, 10, []),
  (10, .aload_n 0, 11, []),
  (11, .iload_n 1, 12, []),
  (12, .invokevirtual 100, 15, [78, 1, 5, 492, 494, 7, 39]),
  (15, .istore_n 2, 16, []),
  (16, .iload_n 2, 17, []),
  (17, .ifCond .ge 8, 20, [25]),
  (20, .bipush (-4), 22, [4, 1]),
  (22, .goto 4, 25, [26]),
  (25, .iload_n 2, 26, []),
  (26, .ireturn, 27, [])]
/-- 81: SpanStampsModel.leastIn -/
def tb81 : List (Nat × ab_E) := [(0, .aload_n 0, 1, []),
  (1, .getfield 24, 4, [5, 5, 423]),
  (4, .iload_n 1, 5, []),
  (5, .invokestatic 74, 8, [0, 72, 1, 520, 521, 39]),
  (8, .iaload, 9, []),
  (9, .istore_n 2, 10, []),
  (10, .iconst 0, 11, [0]),
  (11, .istore_n 3, 12, []),
  (12, .iload_n 3, 13, []),
  (13, .iload_n 1, 14, []),
  (14, .invokestatic 71, 17, [0, 71, 1, 514, 515, 39]),
  (17, .if_icmp .ge 40, 20, [57]),
  (20, .aload_n 0, 21, []),
  (21, .getfield 24, 24, [5, 5, 423]),
  (24, .iload_n 1, 25, []),
  (25, .invokestatic 74, 28, [0, 72, 1, 520, 521, 39]),
  (28, .iload_n 3, 29, []),
  (29, .iadd, 30, []),
  (30, .iaload, 31, []),
  (31, .iload_n 2, 32, []),
  (32, .if_icmp .ge 17, 35, [49]),
  (35, .aload_n 0, 36, []),
  (36, .getfield 24, 39, [5, 5, 423]),
  (39, .iload_n 1, 40, []),
  (40, .invokestatic 74, 43, [0, 72, 1, 520, 521, 39]),
  (43, .iload_n 3, 44, []),
  (44, .iadd, 45, []),
  (45, .iaload, 46, []),
  (46, .goto 4, 49, [50]),
  (49, .iload_n 2, 50, []),
  (50, .istore_n 2, 51, []),
  (51, .iinc 3 1, 54, [1]),
  (54, .goto (-42), 57, [12]),
  (57, .iload_n 2, 58, []),
  (58, .ireturn, 59, [])]
/-- 82: SpanStampsModel.greatestIn -/
def tb82 : List (Nat × ab_E) := [(0, .aload_n 0, 1, []),
  (1, .getfield 24, 4, [5, 5, 423]),
  (4, .iload_n 1, 5, []),
  (5, .invokestatic 74, 8, [0, 72, 1, 520, 521, 39]),
  (8, .iaload, 9, []),
  (9, .istore_n 2, 10, []),
  (10, .iconst 0, 11, [0]),
  (11, .istore_n 3, 12, []),
  (12, .iload_n 3, 13, []),
  (13, .iload_n 1, 14, []),
  (14, .invokestatic 71, 17, [0, 71, 1, 514, 515, 39]),
  (17, .if_icmp .ge 40, 20, [57]),
  (20, .aload_n 0, 21, []),
  (21, .getfield 24, 24, [5, 5, 423]),
  (24, .iload_n 1, 25, []),
  (25, .invokestatic 74, 28, [0, 72, 1, 520, 521, 39]),
  (28, .iload_n 3, 29, []),
  (29, .iadd, 30, []),
  (30, .iaload, 31, []),
  (31, .iload_n 2, 32, []),
  (32, .if_icmp .le 17, 35, [49]),
  (35, .aload_n 0, 36, []),
  (36, .getfield 24, 39, [5, 5, 423]),
  (39, .iload_n 1, 40, []),
  (40, .invokestatic 74, 43, [0, 72, 1, 520, 521, 39]),
  (43, .iload_n 3, 44, []),
  (44, .iadd, 45, []),
  (45, .iaload, 46, []),
  (46, .goto 4, 49, [50]),
  (49, .iload_n 2, 50, []),
  (50, .istore_n 2, 51, []),
  (51, .iinc 3 1, 54, [1]),
  (54, .goto (-42), 57, [12]),
  (57, .iload_n 2, 58, []),
  (58, .ireturn, 59, [])]
/-- 83: SpanStampsModel.areAlike -/
def tb83 : List (Nat × ab_E) := [(0, .aload_n 0, 1, []),
  (1, .iload_n 1, 2, []),
  (2, .invokevirtual 107, 5, [81, 1, 5, 547, 549, 15, 39]),
  (5, .aload_n 0, 6, []),
  (6, .iload_n 1, 7, []),
  (7, .invokevirtual 110, 10, [82, 1, 5, 551, 553, 16, 39]),
  (10, .if_icmp .ne 7, 13, [17]),
  (13, .iconst 1, 14, [1]),
  (14, .goto 4, 17, [18]),
  (17, .iconst 0, 18, [0]),
  (18, .ireturn, 19, [])]
/-- 84: SpanStampsModel.level -/
def tb84 : List (Nat × ab_E) := [(0, .iconst 0, 1, [0]),
  (1, .istore_n 3, 2, []),
  (2, .iload_n 3, 3, []),
  (3, .iload_n 1, 4, []),
  (4, .invokestatic 71, 7, [0, 71, 1, 514, 515, 39]),
  (7, .if_icmp .ge 21, 10, [28]),
  (10, .aload_n 0, 11, []),
  (11, .getfield 24, 14, [5, 5, 423]),
  (14, .iload_n 1, 15, []),
  (15, .invokestatic 74, 18, [0, 72, 1, 520, 521, 39]),
  (18, .iload_n 3, 19, []),
  (19, .iadd, 20, []),
  (20, .iload_n 2, 21, []),
  (21, .iastore, 22, []),
  (22, .iinc 3 1, 25, [1]),
  (25, .goto (-23), 28, [2]),
  (28, .return_, 29, [])]
/-- 85: SpanStampsModel.look -/
def tb85 : List (Nat × ab_E) := [(0, .iconst 0, 1, [0]),
  (1, .istore_n 2, 2, []),
  (2, .iload_n 2, 3, []),
  (3, .bipush 64, 5, [64]),
  (5, .if_icmp .ge 26, 8, [31]),
  (8, .aload_n 0, 9, []),
  (9, .getfield 24, 12, [5, 5, 423]),
  (12, .iload_n 2, 13, []),
  (13, .aload_n 0, 14, []),
  (14, .getfield 20, 17, [5, 3, 421]),
  (17, .bipush 64, 19, [64]),
  (19, .iload_n 1, 20, []),
  (20, .imul, 21, []),
  (21, .iload_n 2, 22, []),
  (22, .iadd, 23, []),
  (23, .iaload, 24, []),
  (24, .iastore, 25, []),
  (25, .iinc 2 1, 28, [1]),
  (28, .goto (-26), 31, [2]),
  (31, .return_, 32, [])]
/-- 86: SpanStampsModel.wayOf -/
def tb86 : List (Nat × ab_E) := [(0, .iload_n 1, 1, []),
  (1, .invokestatic 77, 4, [0, 73, 1, 511, 512, 39]),
  (4, .lload_n 2, 5, []),
  (5, .land, 6, []),
  (6, .lconst 0, 7, [0, 0]),
  (7, .lcmp, 8, []),
  (8, .ifCond .eq 11, 11, [19]),
  (11, .aload_n 0, 12, []),
  (12, .iload_n 1, 13, []),
  (13, .invokevirtual 113, 16, [83, 1, 5, 543, 545, 14, 39]),
  (16, .ifCond .eq 5, 19, [21]),
  (19, .iconst 0, 20, [0]),
  (20, .ireturn, 21, []),
  (21, .iload_n 1, 22, []),
  (22, .lload_n 2, 23, []),
  (23, .invokestatic 116, 26, [0, 74, 2, 555, 556, 39]),
  (26, .ifCond .eq 7, 29, [33]),
  (29, .iconst 1, 30, [1]),
  (30, .goto 34, 33, [64]),
  (33, .iconst 2, 34, [2]),
  (34, .iload_n 1, 35, []),
  (35, .imul, 36, []),
  (36, .lload_n 2, 37, []),
  (37, .invokestatic 116, 40, [0, 74, 2, 555, 556, 39]),
  (40, .ifCond .eq 7, 43, [47]),
  (43, .iconst 2, 44, [2]),
  (44, .goto 20, 47, [64]),
  (47, .iconst 2, 48, [2]),
  (48, .iload_n 1, 49, []),
  (49, .imul, 50, []),
  (50, .iconst 1, 51, [1]),
  (51, .iadd, 52, []),
  (52, .lload_n 2, 53, []),
  (53, .invokestatic 116, 56, [0, 74, 2, 555, 556, 39]),
  (56, .ifCond .eq 7, 59, [63]),
  (59, .iconst 3, 60, [3]),
  (60, .goto 4, 63, [64]),
  (63, .iconst 4, 64, [4]),
  (64, .ireturn, 65, [])]
/-- 87: SpanStampsModel.greater -/
def tb87 : List (Nat × ab_E) := [(0, .iload_n 0, 1, []),
  (1, .iload_n 1, 2, []),
  (2, .if_icmp .le 7, 5, [9]),
  (5, .iload_n 0, 6, []),
  (6, .goto 4, 9, [10]),
  (9, .iload_n 1, 10, []),
  (10, .ireturn, 11, [])]
/-- 88: SpanStampsModel.fill -/
def tb88 : List (Nat × ab_E) := [(0, .iconst 1, 1, [1]),
  (1, .istore_n 3, 2, []),
  (2, .iload_n 3, 3, []),
  (3, .sipush 128, 6, [128]),
  (6, .if_icmp .ge 76, 9, [82]),
  (9, .iload_n 3, 10, []),
  (10, .iconst 1, 11, [1]),
  (11, .if_icmp .eq 37, 14, [48]),
  (14, .aload_n 0, 15, []),
  (15, .getfield 27, 18, [5, 6, 424]),
  (18, .iload_n 3, 19, []),
  (19, .iconst 2, 20, [2]),
  (20, .idiv, 21, []),
  (21, .iaload, 22, []),
  (22, .iconst 4, 23, [4]),
  (23, .if_icmp .eq 25, 26, [48]),
  (26, .aload_n 0, 27, []),
  (27, .getfield 27, 30, [5, 6, 424]),
  (30, .iload_n 3, 31, []),
  (31, .iconst 2, 32, [2]),
  (32, .idiv, 33, []),
  (33, .iaload, 34, []),
  (34, .iload_n 3, 35, []),
  (35, .iconst 2, 36, [2]),
  (36, .irem, 37, []),
  (37, .ifCond .ne 7, 40, [44]),
  (40, .iconst 3, 41, [3]),
  (41, .goto 4, 44, [45]),
  (44, .iconst 2, 45, [2]),
  (45, .if_icmp .ne 7, 48, [52]),
  (48, .iconst 1, 49, [1]),
  (49, .goto 4, 52, [53]),
  (52, .iconst 0, 53, [0]),
  (53, .istore 4, 55, []),
  (55, .aload_n 0, 56, []),
  (56, .getfield 27, 59, [5, 6, 424]),
  (59, .iload_n 3, 60, []),
  (60, .iload 4, 62, []),
  (62, .ifCond .eq 12, 65, [74]),
  (65, .aload_n 0, 66, []),
  (66, .iload_n 3, 67, []),
  (67, .lload_n 1, 68, []),
  (68, .invokevirtual 120, 71, [86, 2, 5, 539, 541, 13, 39]),
  (71, .goto 4, 74, [75]),
  (74, .iconst 0, 75, [0]),
  (75, .iastore, 76, []),
  (76, .iinc 3 1, 79, [1]),
  (79, .goto (-77), 82, [2]),
  (82, .bipush 127, 84, [127]),
  (84, .istore_n 3, 85, []),
  (85, .iload_n 3, 86, []),
  (86, .ifCond .le 109, 89, [195]),
  (89, .aload_n 0, 90, []),
  (90, .getfield 27, 93, [5, 6, 424]),
  (93, .iload_n 3, 94, []),
  (94, .iaload, 95, []),
  (95, .iconst 1, 96, [1]),
  (96, .if_icmp .ne 16, 99, [112]),
  (99, .aload_n 0, 100, []),
  (100, .iload_n 3, 101, []),
  (101, .aload_n 0, 102, []),
  (102, .iload_n 3, 103, []),
  (103, .invokevirtual 110, 106, [82, 1, 5, 551, 553, 16, 39]),
  (106, .invokevirtual 124, 109, [84, 2, 5, 558, 560, 17, 39]),
  (109, .goto 80, 112, [189]),
  (112, .aload_n 0, 113, []),
  (113, .getfield 27, 116, [5, 6, 424]),
  (116, .iload_n 3, 117, []),
  (117, .iaload, 118, []),
  (118, .iconst 2, 119, [2]),
  (119, .if_icmp .ne 32, 122, [151]),
  (122, .aload_n 0, 123, []),
  (123, .iconst 2, 124, [2]),
  (124, .iload_n 3, 125, []),
  (125, .imul, 126, []),
  (126, .aload_n 0, 127, []),
  (127, .iconst 2, 128, [2]),
  (128, .iload_n 3, 129, []),
  (129, .imul, 130, []),
  (130, .invokevirtual 110, 133, [82, 1, 5, 551, 553, 16, 39]),
  (133, .aload_n 0, 134, []),
  (134, .iconst 2, 135, [2]),
  (135, .iload_n 3, 136, []),
  (136, .imul, 137, []),
  (137, .iconst 1, 138, [1]),
  (138, .iadd, 139, []),
  (139, .invokevirtual 107, 142, [81, 1, 5, 547, 549, 15, 39]),
  (142, .invokestatic 127, 145, [0, 87, 2, 562, 563, 39]),
  (145, .invokevirtual 124, 148, [84, 2, 5, 558, 560, 17, 39]),
  (148, .goto 41, 151, [189]),
  (151, .aload_n 0, 152, []),
  (152, .getfield 27, 155, [5, 6, 424]),
  (155, .iload_n 3, 156, []),
  (156, .iaload, 157, []),
  (157, .iconst 3, 158, [3]),
  (158, .if_icmp .ne 31, 161, [189]),
  (161, .aload_n 0, 162, []),
  (162, .iconst 2, 163, [2]),
  (163, .iload_n 3, 164, []),
  (164, .imul, 165, []),
  (165, .iconst 1, 166, [1]),
  (166, .iadd, 167, []),
  (167, .aload_n 0, 168, []),
  (168, .iconst 2, 169, [2]),
  (169, .iload_n 3, 170, []),
  (170, .imul, 171, []),
  (171, .iconst 1, 172, [1]),
  (172, .iadd, 173, []),
  (173, .invokevirtual 110, 176, [82, 1, 5, 551, 553, 16, 39]),
  (176, .aload_n 0, 177, []),
  (177, .iconst 2, 178, [2]),
  (178, .iload_n 3, 179, []),
  (179, .imul, 180, []),
  (180, .invokevirtual 107, 183, [81, 1, 5, 547, 549, 15, 39]),
  (183, .invokestatic 127, 186, [0, 87, 2, 562, 563, 39]),
  (186, .invokevirtual 124, 189, [84, 2, 5, 558, 560, 17, 39]),
  (189, .iinc 3 (-1), 192, [1, 1]),
  (192, .goto (-107), 195, [85]),
  (195, .return_, 196, [])]
/-- 89: SpanStampsModel.changed -/
def tb89 : List (Nat × ab_E) := [(0, .iconst 0, 1, [0]),
  (1, .istore_n 2, 2, []),
  (2, .iconst 0, 3, [0]),
  (3, .istore_n 3, 4, []),
  (4, .iload_n 3, 5, []),
  (5, .bipush 64, 7, [64]),
  (7, .if_icmp .ge 37, 10, [44]),
  (10, .iload_n 2, 11, []),
  (11, .aload_n 0, 12, []),
  (12, .getfield 24, 15, [5, 5, 423]),
  (15, .iload_n 3, 16, []),
  (16, .iaload, 17, []),
  (17, .aload_n 0, 18, []),
  (18, .getfield 20, 21, [5, 3, 421]),
  (21, .bipush 64, 23, [64]),
  (23, .iload_n 1, 24, []),
  (24, .imul, 25, []),
  (25, .iload_n 3, 26, []),
  (26, .iadd, 27, []),
  (27, .iaload, 28, []),
  (28, .if_icmp .eq 7, 31, [35]),
  (31, .iconst 1, 32, [1]),
  (32, .goto 4, 35, [36]),
  (35, .iconst 0, 36, [0]),
  (36, .iadd, 37, []),
  (37, .istore_n 2, 38, []),
  (38, .iinc 3 1, 41, [1]),
  (41, .goto (-37), 44, [4]),
  (44, .iload_n 2, 45, []),
  (45, .ireturn, 46, [])]
/-- 90: SpanStampsModel.isPiece -/
def tb90 : List (Nat × ab_E) := [(0, .iload_n 0, 1, []),
  (1, .lload_n 1, 2, []),
  (2, .invokestatic 116, 5, [0, 74, 2, 555, 556, 39]),
  (5, .ifCond .eq 22, 8, [27]),
  (8, .iload_n 0, 9, []),
  (9, .iconst 1, 10, [1]),
  (10, .if_icmp .eq 13, 13, [23]),
  (13, .iload_n 0, 14, []),
  (14, .iconst 2, 15, [2]),
  (15, .idiv, 16, []),
  (16, .lload_n 1, 17, []),
  (17, .invokestatic 116, 20, [0, 74, 2, 555, 556, 39]),
  (20, .ifCond .ne 7, 23, [27]),
  (23, .iconst 1, 24, [1]),
  (24, .goto 4, 27, [28]),
  (27, .iconst 0, 28, [0]),
  (28, .ireturn, 29, [])]
/-- 91: SpanStampsModel.costOf -/
def tb91 : List (Nat × ab_E) := [(0, .iload_n 1, 1, []),
  (1, .istore_n 2, 2, []),
  (2, .iload_n 1, 3, []),
  (3, .istore_n 3, 4, []),
  (4, .iload_n 3, 5, []),
  (5, .ifCond .le 24, 8, [29]),
  (8, .aload_n 0, 9, []),
  (9, .iload_n 3, 10, []),
  (10, .invokevirtual 113, 13, [83, 1, 5, 543, 545, 14, 39]),
  (13, .ifCond .eq 7, 16, [20]),
  (16, .iload_n 3, 17, []),
  (17, .goto 4, 20, [21]),
  (20, .iload_n 2, 21, []),
  (21, .istore_n 2, 22, []),
  (22, .iload_n 3, 23, []),
  (23, .iconst 2, 24, [2]),
  (24, .idiv, 25, []),
  (25, .istore_n 3, 26, []),
  (26, .goto (-22), 29, [4]),
  (29, .iload_n 1, 30, []),
  (30, .invokestatic 67, 33, [0, 70, 1, 517, 518, 39]),
  (33, .sipush 1000, 36, [1000]),
  (36, .iload_n 1, 37, []),
  (37, .invokestatic 67, 40, [0, 70, 1, 517, 518, 39]),
  (40, .iload_n 2, 41, []),
  (41, .invokestatic 67, 44, [0, 70, 1, 517, 518, 39]),
  (44, .isub, 45, []),
  (45, .imul, 46, []),
  (46, .iadd, 47, []),
  (47, .ireturn, 48, [])]
/-- 92: SpanStampsModel.piece -/
def tb92 : List (Nat × ab_E) := [(0, .bipush (-6), 2, [6, 1]),
  (2, .istore_n 3, 3, []),
  (3, .iconst 1, 4, [1]),
  (4, .istore 4, 6, []),
  (6, .iload 4, 8, []),
  (8, .sipush 128, 11, [128]),
  (11, .if_icmp .ge 65, 14, [76]),
  (14, .iload 4, 16, []),
  (16, .lload_n 1, 17, []),
  (17, .invokestatic 131, 20, [0, 90, 2, 573, 574, 39]),
  (20, .ifCond .eq 50, 23, [70]),
  (23, .iload_n 3, 24, []),
  (24, .ifCond .lt 43, 27, [67]),
  (27, .aload_n 0, 28, []),
  (28, .iload 4, 30, []),
  (30, .invokevirtual 134, 33, [91, 1, 5, 576, 578, 20, 39]),
  (33, .aload_n 0, 34, []),
  (34, .iload_n 3, 35, []),
  (35, .invokevirtual 134, 38, [91, 1, 5, 576, 578, 20, 39]),
  (38, .if_icmp .lt 29, 41, [67]),
  (41, .aload_n 0, 42, []),
  (42, .iload 4, 44, []),
  (44, .invokevirtual 134, 47, [91, 1, 5, 576, 578, 20, 39]),
  (47, .aload_n 0, 48, []),
  (48, .iload_n 3, 49, []),
  (49, .invokevirtual 134, 52, [91, 1, 5, 576, 578, 20, 39]),
  (52, .if_icmp .ne 18, 55, [70]),
  (55, .iload 4, 57, []),
  (57, .invokestatic 74, 60, [0, 72, 1, 520, 521, 39]),
  (60, .iload_n 3, 61, []),
  (61, .invokestatic 74, 64, [0, 72, 1, 520, 521, 39]),
  (64, .if_icmp .le 6, 67, [70]),
  (67, .iload 4, 69, []),
  (69, .istore_n 3, 70, []),
  (70, .iinc 4 1, 73, [1]),
  (73, .goto (-67), 76, [6]),
  (76, .iload_n 3, 77, []),
  (77, .ireturn, 78, [])]
/-- 93: SpanStampsModel.happen -/
def tb93 : List (Nat × ab_E) := [(0, .aload_n 0, 1, []),
  (1, .iload_n 1, 2, []),
  (2, .invokevirtual 93, 5, [65, 1, 5, 479, 481, 6, 39]),
  (5, .ifCond .ne 5, 8, [10]),
  (8, .iconst (-1), 9, [1, 1]),
  (9, .ireturn, 10, []),
  (10, .aload_n 0, 11, []),
  (11, .getfield 13, 14, [5, 1, 419]),
  (14, .iload_n 1, 15, []),
  (15, .laload, 16, []),
  (16, .lconst 0, 17, [0, 0]),
  (17, .lcmp, 18, []),
  (18, .ifCond .ne 6, 21, [24]),
  (21, .bipush (-3), 23, [3, 1]),
  (23, .ireturn, 24, []),
  (24, .aload_n 0, 25, []),
  (25, .getfield 137, 28, [5, 4, 422]),
  (28, .bipush 60, 30, [60]),
  (30, .if_icmp .ne 6, 33, [36]),
  (33, .bipush (-4), 35, [4, 1]),
  (35, .ireturn, 36, []),
  (36, .aload_n 0, 37, []),
  (37, .iload_n 1, 38, []),
  (38, .invokevirtual 141, 41, [85, 1, 5, 531, 533, 11, 39]),
  (41, .aload_n 0, 42, []),
  (42, .aload_n 0, 43, []),
  (43, .getfield 13, 46, [5, 1, 419]),
  (46, .iload_n 1, 47, []),
  (47, .laload, 48, []),
  (48, .invokevirtual 145, 51, [88, 1, 5, 535, 537, 12, 39]),
  (51, .aload_n 0, 52, []),
  (52, .iload_n 1, 53, []),
  (53, .invokevirtual 149, 56, [89, 1, 5, 565, 567, 18, 39]),
  (56, .ifCond .ne 30, 59, [86]),
  (59, .aload_n 0, 60, []),
  (60, .aload_n 0, 61, []),
  (61, .getfield 13, 64, [5, 1, 419]),
  (64, .iload_n 1, 65, []),
  (65, .laload, 66, []),
  (66, .invokevirtual 152, 69, [92, 1, 5, 569, 571, 19, 39]),
  (69, .istore_n 2, 70, []),
  (70, .aload_n 0, 71, []),
  (71, .iload_n 2, 72, []),
  (72, .aload_n 0, 73, []),
  (73, .getfield 24, 76, [5, 5, 423]),
  (76, .iload_n 2, 77, []),
  (77, .invokestatic 74, 80, [0, 72, 1, 520, 521, 39]),
  (80, .iaload, 81, []),
  (81, .iconst 1, 82, [1]),
  (82, .iadd, 83, []),
  (83, .invokevirtual 124, 86, [84, 2, 5, 558, 560, 17, 39]),
  (86, .iconst 0, 87, [0]),
  (87, .istore_n 2, 88, []),
  (88, .iload_n 2, 89, []),
  (89, .bipush 64, 91, [64]),
  (91, .if_icmp .ge 26, 94, [117]),
  (94, .aload_n 0, 95, []),
  (95, .getfield 20, 98, [5, 3, 421]),
  (98, .bipush 64, 100, [64]),
  (100, .iload_n 1, 101, []),
  (101, .imul, 102, []),
  (102, .iload_n 2, 103, []),
  (103, .iadd, 104, []),
  (104, .aload_n 0, 105, []),
  (105, .getfield 24, 108, [5, 5, 423]),
  (108, .iload_n 2, 109, []),
  (109, .iaload, 110, []),
  (110, .iastore, 111, []),
  (111, .iinc 2 1, 114, [1]),
  (114, .goto (-26), 117, [88]),
  (117, .aload_n 0, 118, []),
  (118, .getfield 17, 121, [5, 2, 420]),
  (121, .iload_n 1, 122, []),
  (122, .dup2, 123, []),
  (123, .laload, 124, []),
  (124, .lconst 1, 125, [1, 0]),
  (125, .aload_n 0, 126, []),
  (126, .getfield 137, 129, [5, 4, 422]),
  (129, .lshl, 130, []),
  (130, .lor, 131, []),
  (131, .lastore, 132, []),
  (132, .aload_n 0, 133, []),
  (133, .dup, 134, []),
  (134, .getfield 137, 137, [5, 4, 422]),
  (137, .iconst 1, 138, [1]),
  (138, .iadd, 139, []),
  (139, .putfield 137, 142, [5, 4, 0, 0, 422]),
  (142, .aload_n 0, 143, []),
  (143, .getfield 137, 146, [5, 4, 422]),
  (146, .iconst 1, 147, [1]),
  (147, .isub, 148, []),
  (148, .ireturn, 149, [])]
/-- 94: SpanStampsModel.heard -/
def tb94 : List (Nat × ab_E) := [(0, .iconst 0, 1, [0]),
  (1, .istore_n 3, 2, []),
  (2, .iconst 0, 3, [0]),
  (3, .istore 4, 5, []),
  (5, .iload 4, 7, []),
  (7, .bipush 64, 9, [64]),
  (9, .if_icmp .ge 63, 12, [72]),
  (12, .aload_n 0, 13, []),
  (13, .getfield 20, 16, [5, 3, 421]),
  (16, .bipush 64, 18, [64]),
  (18, .iload_n 2, 19, []),
  (19, .imul, 20, []),
  (20, .iload 4, 22, []),
  (22, .iadd, 23, []),
  (23, .iaload, 24, []),
  (24, .aload_n 0, 25, []),
  (25, .getfield 20, 28, [5, 3, 421]),
  (28, .bipush 64, 30, [64]),
  (30, .iload_n 1, 31, []),
  (31, .imul, 32, []),
  (32, .iload 4, 34, []),
  (34, .iadd, 35, []),
  (35, .iaload, 36, []),
  (36, .if_icmp .le 30, 39, [66]),
  (39, .aload_n 0, 40, []),
  (40, .getfield 20, 43, [5, 3, 421]),
  (43, .bipush 64, 45, [64]),
  (45, .iload_n 1, 46, []),
  (46, .imul, 47, []),
  (47, .iload 4, 49, []),
  (49, .iadd, 50, []),
  (50, .aload_n 0, 51, []),
  (51, .getfield 20, 54, [5, 3, 421]),
  (54, .bipush 64, 56, [64]),
  (56, .iload_n 2, 57, []),
  (57, .imul, 58, []),
  (58, .iload 4, 60, []),
  (60, .iadd, 61, []),
  (61, .iaload, 62, []),
  (62, .iastore, 63, []),
  (63, .iinc 3 1, 66, [1]),
  (66, .iinc 4 1, 69, [1]),
  (69, .goto (-64), 72, [5]),
  (72, .aload_n 0, 73, []),
  (73, .getfield 17, 76, [5, 2, 420]),
  (76, .iload_n 1, 77, []),
  (77, .dup2, 78, []),
  (78, .laload, 79, []),
  (79, .aload_n 0, 80, []),
  (80, .getfield 17, 83, [5, 2, 420]),
  (83, .iload_n 2, 84, []),
  (84, .laload, 85, []),
  (85, .lor, 86, []),
  (86, .lastore, 87, []),
  (87, .iload_n 3, 88, []),
  (88, .ireturn, 89, [])]
/-- 95: SpanStampsModel.hear -/
def tb95 : List (Nat × ab_E) := [(0, .aload_n 0, 1, []),
  (1, .iload_n 1, 2, []),
  (2, .invokevirtual 93, 5, [65, 1, 5, 479, 481, 6, 39]),
  (5, .ifCond .eq 11, 8, [16]),
  (8, .aload_n 0, 9, []),
  (9, .iload_n 2, 10, []),
  (10, .invokevirtual 93, 13, [65, 1, 5, 479, 481, 6, 39]),
  (13, .ifCond .ne 5, 16, [18]),
  (16, .iconst (-1), 17, [1, 1]),
  (17, .ireturn, 18, []),
  (18, .iload_n 1, 19, []),
  (19, .iload_n 2, 20, []),
  (20, .if_icmp .ne 8, 23, [28]),
  (23, .bipush (-2), 25, [2, 1]),
  (25, .goto 9, 28, [34]),
  (28, .aload_n 0, 29, []),
  (29, .iload_n 1, 30, []),
  (30, .iload_n 2, 31, []),
  (31, .invokevirtual 155, 34, [94, 2, 5, 584, 586, 21, 39]),
  (34, .ireturn, 35, [])]
/-- 96: SpanStampsModel.join -/
def tb96 : List (Nat × ab_E) := [(0, .aload_n 0, 1, []),
  (1, .iload_n 1, 2, []),
  (2, .invokevirtual 93, 5, [65, 1, 5, 479, 481, 6, 39]),
  (5, .ifCond .eq 11, 8, [16]),
  (8, .aload_n 0, 9, []),
  (9, .iload_n 2, 10, []),
  (10, .invokevirtual 93, 13, [65, 1, 5, 479, 481, 6, 39]),
  (13, .ifCond .ne 5, 16, [18]),
  (16, .iconst (-1), 17, [1, 1]),
  (17, .ireturn, 18, []),
  (18, .iload_n 1, 19, []),
  (19, .iload_n 2, 20, []),
  (20, .if_icmp .ne 6, 23, [26]),
  (23, .bipush (-2), 25, [2, 1]),
  (25, .ireturn, 26, []),
  (26, .aload_n 0, 27, []),
  (27, .iload_n 1, 28, []),
  (28, .iload_n 2, 29, []),
  (29, .invokevirtual 155, 32, [94, 2, 5, 584, 586, 21, 39]),
  (32, .pop, 33, []),
  (33, .aload_n 0, 34, []),
  (34, .getfield 13, 37, [5, 1, 419]),
  (37, .iload_n 1, 38, []),
  (38, .dup2, 39, []),
  (39, .laload, 40, []),
  (40, .aload_n 0, 41, []),
  (41, .getfield 13, 44, [5, 1, 419]),
  (44, .iload_n 2, 45, []),
  (45, .laload, 46, []),
  (46, .lor, 47, []),
  (47, .lastore, 48, []),
  (48, .aload_n 0, 49, []),
  (49, .getfield 7, 52, [5, 0, 418]),
  (52, .iload_n 2, 53, []),
  (53, .iconst 0, 54, [0]),
  (54, .bastore, 55, []),
  (55, .aload_n 0, 56, []),
  (56, .invokevirtual 158, 59, [68, 0, 5, 592, 594, 22, 39]),
  (59, .ireturn, 60, [])]
/-- 97: SpanStampsModel.share -/
def tb97 : List (Nat × ab_E) := [(0, .aload_n 0, 1, []),
  (1, .iload_n 1, 2, []),
  (2, .invokevirtual 93, 5, [65, 1, 5, 479, 481, 6, 39]),
  (5, .ifCond .eq 11, 8, [16]),
  (8, .aload_n 0, 9, []),
  (9, .iload_n 2, 10, []),
  (10, .invokevirtual 93, 13, [65, 1, 5, 479, 481, 6, 39]),
  (13, .ifCond .ne 5, 16, [18]),
  (16, .iconst (-1), 17, [1, 1]),
  (17, .ireturn, 18, []),
  (18, .iload_n 1, 19, []),
  (19, .iload_n 2, 20, []),
  (20, .if_icmp .ne 6, 23, [26]),
  (23, .bipush (-2), 25, [2, 1]),
  (25, .ireturn, 26, []),
  (26, .aload_n 0, 27, []),
  (27, .getfield 13, 30, [5, 1, 419]),
  (30, .iload_n 1, 31, []),
  (31, .laload, 32, []),
  (32, .aload_n 0, 33, []),
  (33, .getfield 13, 36, [5, 1, 419]),
  (36, .iload_n 2, 37, []),
  (37, .laload, 38, []),
  (38, .lor, 39, []),
  (39, .lstore_n 3, 40, []),
  (40, .lload_n 3, 41, []),
  (41, .lconst 0, 42, [0, 0]),
  (42, .lcmp, 43, []),
  (43, .ifCond .ne 6, 46, [49]),
  (46, .bipush (-3), 48, [3, 1]),
  (48, .ireturn, 49, []),
  (49, .lload_n 3, 50, []),
  (50, .invokestatic 97, 53, [0, 67, 1, 486, 487, 39]),
  (53, .iconst 1, 54, [1]),
  (54, .if_icmp .ne 6, 57, [60]),
  (57, .bipush (-5), 59, [5, 1]),
  (59, .ireturn, 60, []),
  (60, .aload_n 0, 61, []),
  (61, .iload_n 1, 62, []),
  (62, .iload_n 2, 63, []),
  (63, .invokevirtual 155, 66, [94, 2, 5, 584, 586, 21, 39]),
  (66, .pop, 67, []),
  (67, .aload_n 0, 68, []),
  (68, .iload_n 2, 69, []),
  (69, .iload_n 1, 70, []),
  (70, .invokevirtual 155, 73, [94, 2, 5, 584, 586, 21, 39]),
  (73, .pop, 74, []),
  (74, .aload_n 0, 75, []),
  (75, .lload_n 3, 76, []),
  (76, .iload_n 1, 77, []),
  (77, .iload_n 2, 78, []),
  (78, .invokevirtual 103, 81, [77, 3, 5, 504, 506, 10, 39]),
  (81, .aload_n 0, 82, []),
  (82, .getfield 13, 85, [5, 1, 419]),
  (85, .iload_n 1, 86, []),
  (86, .laload, 87, []),
  (87, .invokestatic 97, 90, [0, 67, 1, 486, 487, 39]),
  (90, .ireturn, 91, [])]
/-- 98: SpanStampsModel.drop -/
def tb98 : List (Nat × ab_E) := [(0, .aload_n 0, 1, []),
  (1, .iload_n 1, 2, []),
  (2, .invokevirtual 93, 5, [65, 1, 5, 479, 481, 6, 39]),
  (5, .ifCond .ne 5, 8, [10]),
  (8, .iconst (-1), 9, [1, 1]),
  (9, .ireturn, 10, []),
  (10, .aload_n 0, 11, []),
  (11, .getfield 13, 14, [5, 1, 419]),
  (14, .iload_n 1, 15, []),
  (15, .laload, 16, []),
  (16, .lconst 0, 17, [0, 0]),
  (17, .lcmp, 18, []),
  (18, .ifCond .eq 6, 21, [24]),
  (21, .bipush (-5), 23, [5, 1]),
  (23, .ireturn, 24, []),
  (24, .aload_n 0, 25, []),
  (25, .getfield 7, 28, [5, 0, 418]),
  (28, .iload_n 1, 29, []),
  (29, .iconst 0, 30, [0]),
  (30, .bastore, 31, []),
  (31, .aload_n 0, 32, []),
  (32, .invokevirtual 158, 35, [68, 0, 5, 592, 594, 22, 39]),
  (35, .ireturn, 36, [])]
/-- 99: SpanStampsModel.orderOf -/
def tb99 : List (Nat × ab_E) := [(0, .iconst 0, 1, [0]),
  (1, .istore_n 3, 2, []),
  (2, .iconst 0, 3, [0]),
  (3, .istore 4, 5, []),
  (5, .iconst 0, 6, [0]),
  (6, .istore 5, 8, []),
  (8, .iload 5, 10, []),
  (10, .bipush 64, 12, [64]),
  (12, .if_icmp .ge 85, 15, [97]),
  (15, .iload_n 3, 16, []),
  (16, .ifCond .ne 30, 19, [46]),
  (19, .aload_n 0, 20, []),
  (20, .getfield 20, 23, [5, 3, 421]),
  (23, .bipush 64, 25, [64]),
  (25, .iload_n 1, 26, []),
  (26, .imul, 27, []),
  (27, .iload 5, 29, []),
  (29, .iadd, 30, []),
  (30, .iaload, 31, []),
  (31, .aload_n 0, 32, []),
  (32, .getfield 20, 35, [5, 3, 421]),
  (35, .bipush 64, 37, [64]),
  (37, .iload_n 2, 38, []),
  (38, .imul, 39, []),
  (39, .iload 5, 41, []),
  (41, .iadd, 42, []),
  (42, .iaload, 43, []),
  (43, .if_icmp .ge 7, 46, [50]),
  (46, .iconst 1, 47, [1]),
  (47, .goto 4, 50, [51]),
  (50, .iconst 0, 51, [0]),
  (51, .istore_n 3, 52, []),
  (52, .iload 4, 54, []),
  (54, .ifCond .ne 30, 57, [84]),
  (57, .aload_n 0, 58, []),
  (58, .getfield 20, 61, [5, 3, 421]),
  (61, .bipush 64, 63, [64]),
  (63, .iload_n 1, 64, []),
  (64, .imul, 65, []),
  (65, .iload 5, 67, []),
  (67, .iadd, 68, []),
  (68, .iaload, 69, []),
  (69, .aload_n 0, 70, []),
  (70, .getfield 20, 73, [5, 3, 421]),
  (73, .bipush 64, 75, [64]),
  (75, .iload_n 2, 76, []),
  (76, .imul, 77, []),
  (77, .iload 5, 79, []),
  (79, .iadd, 80, []),
  (80, .iaload, 81, []),
  (81, .if_icmp .le 7, 84, [88]),
  (84, .iconst 1, 85, [1]),
  (85, .goto 4, 88, [89]),
  (88, .iconst 0, 89, [0]),
  (89, .istore 4, 91, []),
  (91, .iinc 5 1, 94, [1]),
  (94, .goto (-86), 97, [8]),
  (97, .iload_n 3, 98, []),
  (98, .ifCond .eq 16, 101, [114]),
  (101, .iload 4, 103, []),
  (103, .ifCond .eq 7, 106, [110]),
  (106, .iconst 3, 107, [3]),
  (107, .goto 17, 110, [124]),
  (110, .iconst 1, 111, [1]),
  (111, .goto 13, 114, [124]),
  (114, .iload 4, 116, []),
  (116, .ifCond .eq 7, 119, [123]),
  (119, .iconst 2, 120, [2]),
  (120, .goto 4, 123, [124]),
  (123, .iconst 0, 124, [0]),
  (124, .ireturn, 125, [])]
/-- 100: SpanStampsModel.order -/
def tb100 : List (Nat × ab_E) := [(0, .aload_n 0, 1, []),
  (1, .iload_n 1, 2, []),
  (2, .invokevirtual 93, 5, [65, 1, 5, 479, 481, 6, 39]),
  (5, .ifCond .eq 20, 8, [25]),
  (8, .aload_n 0, 9, []),
  (9, .iload_n 2, 10, []),
  (10, .invokevirtual 93, 13, [65, 1, 5, 479, 481, 6, 39]),
  (13, .ifCond .eq 12, 16, [25]),
  (16, .aload_n 0, 17, []),
  (17, .iload_n 1, 18, []),
  (18, .iload_n 2, 19, []),
  (19, .invokevirtual 161, 22, [99, 2, 5, 608, 610, 23, 39]),
  (22, .goto 4, 25, [26]),
  (25, .iconst (-1), 26, [1, 1]),
  (26, .ireturn, 27, [])]
/-- 101: SpanStampsModel.knows -/
def tb101 : List (Nat × ab_E) := [(0, .aload_n 0, 1, []),
  (1, .iload_n 1, 2, []),
  (2, .invokevirtual 93, 5, [65, 1, 5, 479, 481, 6, 39]),
  (5, .ifCond .ne 5, 8, [10]),
  (8, .iconst (-1), 9, [1, 1]),
  (9, .ireturn, 10, []),
  (10, .iload_n 2, 11, []),
  (11, .iconst (-1), 12, [1, 1]),
  (12, .aload_n 0, 13, []),
  (13, .getfield 137, 16, [5, 4, 422]),
  (16, .iconst 1, 17, [1]),
  (17, .isub, 18, []),
  (18, .invokestatic 59, 21, [0, 64, 3, 483, 484, 39]),
  (21, .ifCond .ne 6, 24, [27]),
  (24, .bipush (-2), 26, [2, 1]),
  (26, .ireturn, 27, []),
  (27, .iload_n 2, 28, []),
  (28, .ifCond .ge 15, 31, [43]),
  (31, .aload_n 0, 32, []),
  (32, .getfield 17, 35, [5, 2, 420]),
  (35, .iload_n 1, 36, []),
  (36, .laload, 37, []),
  (37, .invokestatic 97, 40, [0, 67, 1, 486, 487, 39]),
  (40, .goto 21, 43, [61]),
  (43, .aload_n 0, 44, []),
  (44, .getfield 17, 47, [5, 2, 420]),
  (47, .iload_n 1, 48, []),
  (48, .laload, 49, []),
  (49, .iload_n 2, 50, []),
  (50, .invokestatic 63, 53, [0, 66, 2, 489, 490, 39]),
  (53, .ifCond .eq 7, 56, [60]),
  (56, .iconst 1, 57, [1]),
  (57, .goto 4, 60, [61]),
  (60, .iconst 0, 61, [0]),
  (61, .ireturn, 62, [])]
/-- 102: SpanStampsModel.height -/
def tb102 : List (Nat × ab_E) := [(0, .aload_n 0, 1, []),
  (1, .iload_n 1, 2, []),
  (2, .invokevirtual 93, 5, [65, 1, 5, 479, 481, 6, 39]),
  (5, .ifCond .ne 5, 8, [10]),
  (8, .iconst (-1), 9, [1, 1]),
  (9, .ireturn, 10, []),
  (10, .iload_n 2, 11, []),
  (11, .iconst 0, 12, [0]),
  (12, .bipush 63, 14, [63]),
  (14, .invokestatic 59, 17, [0, 64, 3, 483, 484, 39]),
  (17, .ifCond .eq 17, 20, [34]),
  (20, .aload_n 0, 21, []),
  (21, .getfield 20, 24, [5, 3, 421]),
  (24, .bipush 64, 26, [64]),
  (26, .iload_n 1, 27, []),
  (27, .imul, 28, []),
  (28, .iload_n 2, 29, []),
  (29, .iadd, 30, []),
  (30, .iaload, 31, []),
  (31, .goto 5, 34, [36]),
  (34, .bipush (-2), 36, [2, 1]),
  (36, .ireturn, 37, [])]
/-- 103: SpanStampsModel.owner -/
def tb103 : List (Nat × ab_E) := [(0, .iload_n 1, 1, []),
  (1, .iconst 0, 2, [0]),
  (2, .bipush 63, 4, [63]),
  (4, .invokestatic 59, 7, [0, 64, 3, 483, 484, 39]),
  (7, .ifCond .ne 6, 10, [13]),
  (10, .bipush (-2), 12, [2, 1]),
  (12, .ireturn, 13, []),
  (13, .bipush (-6), 15, [6, 1]),
  (15, .istore_n 2, 16, []),
  (16, .iconst 0, 17, [0]),
  (17, .istore_n 3, 18, []),
  (18, .iload_n 3, 19, []),
  (19, .bipush 12, 21, [12]),
  (21, .if_icmp .ge 37, 24, [58]),
  (24, .aload_n 0, 25, []),
  (25, .getfield 7, 28, [5, 0, 418]),
  (28, .iload_n 3, 29, []),
  (29, .baload, 30, []),
  (30, .ifCond .eq 20, 33, [50]),
  (33, .aload_n 0, 34, []),
  (34, .getfield 13, 37, [5, 1, 419]),
  (37, .iload_n 3, 38, []),
  (38, .laload, 39, []),
  (39, .iload_n 1, 40, []),
  (40, .invokestatic 63, 43, [0, 66, 2, 489, 490, 39]),
  (43, .ifCond .eq 7, 46, [50]),
  (46, .iload_n 3, 47, []),
  (47, .goto 4, 50, [51]),
  (50, .iload_n 2, 51, []),
  (51, .istore_n 2, 52, []),
  (52, .iinc 3 1, 55, [1]),
  (55, .goto (-37), 58, [18]),
  (58, .iload_n 2, 59, []),
  (59, .ireturn, 60, [])]
/-- 104: SpanStampsModel.tell -/
def tb104 : List (Nat × ab_E) := [(0, .aload_n 0, 1, []),
  (1, .getfield 30, 4, [5, 7, 425]),
  (4, .aload_n 0, 5, []),
  (5, .getfield 164, 8, [5, 10, 428]),
  (8, .iload_n 1, 9, []),
  (9, .iastore, 10, []),
  (10, .aload_n 0, 11, []),
  (11, .dup, 12, []),
  (12, .getfield 164, 15, [5, 10, 428]),
  (15, .iconst 1, 16, [1]),
  (16, .iadd, 17, []),
  (17, .putfield 164, 20, [5, 10, 0, 0, 428]),
  (20, .return_, 21, [])]
/-- 105: SpanStampsModel.await -/
def tb105 : List (Nat × ab_E) := [(0, .aload_n 0, 1, []),
  (1, .getfield 33, 4, [5, 8, 426]),
  (4, .aload_n 0, 5, []),
  (5, .getfield 167, 8, [5, 11, 429]),
  (8, .iload_n 1, 9, []),
  (9, .iastore, 10, []),
  (10, .aload_n 0, 11, []),
  (11, .getfield 36, 14, [5, 9, 427]),
  (14, .aload_n 0, 15, []),
  (15, .getfield 167, 18, [5, 11, 429]),
  (18, .iload_n 2, 19, []),
  (19, .iastore, 20, []),
  (20, .aload_n 0, 21, []),
  (21, .dup, 22, []),
  (22, .getfield 167, 25, [5, 11, 429]),
  (25, .iconst 1, 26, [1]),
  (26, .iadd, 27, []),
  (27, .putfield 167, 30, [5, 11, 0, 0, 429]),
  (30, .return_, 31, [])]
/-- 106: SpanStampsModel.layName -/
def tb106 : List (Nat × ab_E) := [(0, .aload_n 0, 1, []),
  (1, .iconst 0, 2, [0]),
  (2, .putfield 164, 5, [5, 10, 0, 0, 428]),
  (5, .aload_n 0, 6, []),
  (6, .iconst 0, 7, [0]),
  (7, .putfield 167, 10, [5, 11, 0, 0, 429]),
  (10, .aload_n 0, 11, []),
  (11, .iconst 1, 12, [1]),
  (12, .iconst 0, 13, [0]),
  (13, .invokevirtual 170, 16, [105, 2, 5, 632, 634, 25, 39]),
  (16, .aload_n 0, 17, []),
  (17, .getfield 167, 20, [5, 11, 429]),
  (20, .ifCond .le 102, 23, [122]),
  (23, .aload_n 0, 24, []),
  (24, .dup, 25, []),
  (25, .getfield 167, 28, [5, 11, 429]),
  (28, .iconst 1, 29, [1]),
  (29, .isub, 30, []),
  (30, .putfield 167, 33, [5, 11, 0, 0, 429]),
  (33, .aload_n 0, 34, []),
  (34, .getfield 33, 37, [5, 8, 426]),
  (37, .aload_n 0, 38, []),
  (38, .getfield 167, 41, [5, 11, 429]),
  (41, .iaload, 42, []),
  (42, .istore_n 3, 43, []),
  (43, .iload_n 3, 44, []),
  (44, .invokestatic 77, 47, [0, 73, 1, 511, 512, 39]),
  (47, .lload_n 1, 48, []),
  (48, .land, 49, []),
  (49, .lconst 0, 50, [0, 0]),
  (50, .lcmp, 51, []),
  (51, .ifCond .ne 7, 54, [58]),
  (54, .iconst 1, 55, [1]),
  (55, .goto 4, 58, [59]),
  (58, .iconst 0, 59, [0]),
  (59, .istore 4, 61, []),
  (61, .iload_n 3, 62, []),
  (62, .lload_n 1, 63, []),
  (63, .invokestatic 116, 66, [0, 74, 2, 555, 556, 39]),
  (66, .istore 5, 68, []),
  (68, .aload_n 0, 69, []),
  (69, .iload 4, 71, []),
  (71, .ifCond .eq 7, 74, [78]),
  (74, .iconst 0, 75, [0]),
  (75, .goto 13, 78, [88]),
  (78, .iload 5, 80, []),
  (80, .ifCond .eq 7, 83, [87]),
  (83, .iconst 1, 84, [1]),
  (84, .goto 4, 87, [88]),
  (87, .iconst 2, 88, [2]),
  (88, .invokevirtual 173, 91, [104, 1, 5, 636, 638, 26, 39]),
  (91, .iload 4, 93, []),
  (93, .ifCond .ne 26, 96, [119]),
  (96, .iload 5, 98, []),
  (98, .ifCond .ne 21, 101, [119]),
  (101, .aload_n 0, 102, []),
  (102, .iconst 2, 103, [2]),
  (103, .iload_n 3, 104, []),
  (104, .imul, 105, []),
  (105, .iconst 1, 106, [1]),
  (106, .iadd, 107, []),
  (107, .iconst 0, 108, [0]),
  (108, .invokevirtual 170, 111, [105, 2, 5, 632, 634, 25, 39]),
  (111, .aload_n 0, 112, []),
  (112, .iconst 2, 113, [2]),
  (113, .iload_n 3, 114, []),
  (114, .imul, 115, []),
  (115, .iconst 0, 116, [0]),
  (116, .invokevirtual 170, 119, [105, 2, 5, 632, 634, 25, 39]),
  (119, .goto (-103), 122, [16]),
  (122, .return_, 123, [])]
/-- 107: SpanStampsModel.layTree -/
def tb107 : List (Nat × ab_E) := [(0, .aload_n 0, 1, []),
  (1, .iload_n 1, 2, []),
  (2, .invokevirtual 141, 5, [85, 1, 5, 531, 533, 11, 39]),
  (5, .aload_n 0, 6, []),
  (6, .iconst 0, 7, [0]),
  (7, .putfield 164, 10, [5, 10, 0, 0, 428]),
  (10, .aload_n 0, 11, []),
  (11, .iconst 0, 12, [0]),
  (12, .putfield 167, 15, [5, 11, 0, 0, 429]),
  (15, .aload_n 0, 16, []),
  (16, .iconst 1, 17, [1]),
  (17, .iconst 0, 18, [0]),
  (18, .invokevirtual 170, 21, [105, 2, 5, 632, 634, 25, 39]),
  (21, .aload_n 0, 22, []),
  (22, .getfield 167, 25, [5, 11, 429]),
  (25, .ifCond .le 95, 28, [120]),
  (28, .aload_n 0, 29, []),
  (29, .dup, 30, []),
  (30, .getfield 167, 33, [5, 11, 429]),
  (33, .iconst 1, 34, [1]),
  (34, .isub, 35, []),
  (35, .putfield 167, 38, [5, 11, 0, 0, 429]),
  (38, .aload_n 0, 39, []),
  (39, .getfield 33, 42, [5, 8, 426]),
  (42, .aload_n 0, 43, []),
  (43, .getfield 167, 46, [5, 11, 429]),
  (46, .iaload, 47, []),
  (47, .istore_n 2, 48, []),
  (48, .aload_n 0, 49, []),
  (49, .getfield 36, 52, [5, 9, 427]),
  (52, .aload_n 0, 53, []),
  (53, .getfield 167, 56, [5, 11, 429]),
  (56, .iaload, 57, []),
  (57, .istore_n 3, 58, []),
  (58, .aload_n 0, 59, []),
  (59, .iload_n 2, 60, []),
  (60, .invokevirtual 107, 63, [81, 1, 5, 547, 549, 15, 39]),
  (63, .istore 4, 65, []),
  (65, .aload_n 0, 66, []),
  (66, .iload_n 2, 67, []),
  (67, .invokevirtual 113, 70, [83, 1, 5, 543, 545, 14, 39]),
  (70, .istore 5, 72, []),
  (72, .iload 5, 74, []),
  (74, .ifCond .ne 10, 77, [84]),
  (77, .aload_n 0, 78, []),
  (78, .sipush 1000, 81, [1000]),
  (81, .invokevirtual 173, 84, [104, 1, 5, 636, 638, 26, 39]),
  (84, .aload_n 0, 85, []),
  (85, .iload 4, 87, []),
  (87, .iload_n 3, 88, []),
  (88, .isub, 89, []),
  (89, .invokevirtual 173, 92, [104, 1, 5, 636, 638, 26, 39]),
  (92, .iload 5, 94, []),
  (94, .ifCond .ne 23, 97, [117]),
  (97, .aload_n 0, 98, []),
  (98, .iconst 2, 99, [2]),
  (99, .iload_n 2, 100, []),
  (100, .imul, 101, []),
  (101, .iconst 1, 102, [1]),
  (102, .iadd, 103, []),
  (103, .iload 4, 105, []),
  (105, .invokevirtual 170, 108, [105, 2, 5, 632, 634, 25, 39]),
  (108, .aload_n 0, 109, []),
  (109, .iconst 2, 110, [2]),
  (110, .iload_n 2, 111, []),
  (111, .imul, 112, []),
  (112, .iload 4, 114, []),
  (114, .invokevirtual 170, 117, [105, 2, 5, 632, 634, 25, 39]),
  (117, .goto (-96), 120, [21]),
  (120, .return_, 121, [])]
/-- 108: SpanStampsModel.told -/
def tb108 : List (Nat × ab_E) := [(0, .iload_n 1, 1, []),
  (1, .iconst (-1), 2, [1, 1]),
  (2, .if_icmp .ne 10, 5, [12]),
  (5, .aload_n 0, 6, []),
  (6, .getfield 164, 9, [5, 10, 428]),
  (9, .goto 22, 12, [31]),
  (12, .iload_n 1, 13, []),
  (13, .aload_n 0, 14, []),
  (14, .getfield 164, 17, [5, 10, 428]),
  (17, .if_icmp .ge 12, 20, [29]),
  (20, .aload_n 0, 21, []),
  (21, .getfield 30, 24, [5, 7, 425]),
  (24, .iload_n 1, 25, []),
  (25, .iaload, 26, []),
  (26, .goto 5, 29, [31]),
  (29, .bipush (-6), 31, [6, 1]),
  (31, .ireturn, 32, [])]
/-- 109: SpanStampsModel.name -/
def tb109 : List (Nat × ab_E) := [(0, .aload_n 0, 1, []),
  (1, .iload_n 1, 2, []),
  (2, .invokevirtual 93, 5, [65, 1, 5, 479, 481, 6, 39]),
  (5, .ifCond .ne 5, 8, [10]),
  (8, .iconst (-1), 9, [1, 1]),
  (9, .ireturn, 10, []),
  (10, .iload_n 2, 11, []),
  (11, .iconst (-1), 12, [1, 1]),
  (12, .if_icmp .ge 6, 15, [18]),
  (15, .bipush (-2), 17, [2, 1]),
  (17, .ireturn, 18, []),
  (18, .aload_n 0, 19, []),
  (19, .aload_n 0, 20, []),
  (20, .getfield 13, 23, [5, 1, 419]),
  (23, .iload_n 1, 24, []),
  (24, .laload, 25, []),
  (25, .invokevirtual 176, 28, [106, 1, 5, 628, 630, 24, 39]),
  (28, .aload_n 0, 29, []),
  (29, .iload_n 2, 30, []),
  (30, .invokevirtual 179, 33, [108, 1, 5, 640, 642, 27, 39]),
  (33, .ireturn, 34, [])]
/-- 110: SpanStampsModel.tree -/
def tb110 : List (Nat × ab_E) := [(0, .aload_n 0, 1, []),
  (1, .iload_n 1, 2, []),
  (2, .invokevirtual 93, 5, [65, 1, 5, 479, 481, 6, 39]),
  (5, .ifCond .ne 5, 8, [10]),
  (8, .iconst (-1), 9, [1, 1]),
  (9, .ireturn, 10, []),
  (10, .iload_n 2, 11, []),
  (11, .iconst (-1), 12, [1, 1]),
  (12, .if_icmp .ge 6, 15, [18]),
  (15, .bipush (-2), 17, [2, 1]),
  (17, .ireturn, 18, []),
  (18, .aload_n 0, 19, []),
  (19, .iload_n 1, 20, []),
  (20, .invokevirtual 182, 23, [107, 1, 5, 648, 650, 28, 39]),
  (23, .aload_n 0, 24, []),
  (24, .iload_n 2, 25, []),
  (25, .invokevirtual 179, 28, [108, 1, 5, 640, 642, 27, 39]),
  (28, .ireturn, 29, [])]
/-- 111: SpanStampsModel.pieces -/
def tb111 : List (Nat × ab_E) := [(0, .iconst 0, 1, [0]),
  (1, .istore_n 2, 2, []),
  (2, .iconst 1, 3, [1]),
  (3, .istore_n 3, 4, []),
  (4, .iload_n 3, 5, []),
  (5, .sipush 128, 8, [128]),
  (8, .if_icmp .ge 25, 11, [33]),
  (11, .iload_n 2, 12, []),
  (12, .iload_n 3, 13, []),
  (13, .lload_n 0, 14, []),
  (14, .invokestatic 131, 17, [0, 90, 2, 573, 574, 39]),
  (17, .ifCond .eq 7, 20, [24]),
  (20, .iconst 1, 21, [1]),
  (21, .goto 4, 24, [25]),
  (24, .iconst 0, 25, [0]),
  (25, .iadd, 26, []),
  (26, .istore_n 2, 27, []),
  (27, .iinc 3 1, 30, [1]),
  (30, .goto (-26), 33, [4]),
  (33, .iload_n 2, 34, []),
  (34, .ireturn, 35, [])]
/-- 112: SpanStampsModel.about -/
def tb112 : List (Nat × ab_E) := [(0, .aload_n 0, 1, []),
  (1, .iload_n 1, 2, []),
  (2, .invokevirtual 93, 5, [65, 1, 5, 479, 481, 6, 39]),
  (5, .ifCond .ne 5, 8, [10]),
  (8, .iconst (-1), 9, [1, 1]),
  (9, .ireturn, 10, []),
  (10, .aload_n 0, 11, []),
  (11, .iload_n 1, 12, []),
  (12, .invokevirtual 141, 15, [85, 1, 5, 531, 533, 11, 39]),
  (15, .iload_n 2, 16, []),
  (16, .tableswitch 97 0 4 #[36, 46, 56, 62, 68], 52, [113, 52, 62, 72, 78, 84]),
  (52, .aload_n 0, 53, []),
  (53, .getfield 13, 56, [5, 1, 419]),
  (56, .iload_n 1, 57, []),
  (57, .laload, 58, []),
  (58, .invokestatic 97, 61, [0, 67, 1, 486, 487, 39]),
  (61, .ireturn, 62, []),
  (62, .aload_n 0, 63, []),
  (63, .getfield 13, 66, [5, 1, 419]),
  (66, .iload_n 1, 67, []),
  (67, .laload, 68, []),
  (68, .invokestatic 185, 71, [0, 111, 1, 656, 657, 39]),
  (71, .ireturn, 72, []),
  (72, .aload_n 0, 73, []),
  (73, .iconst 1, 74, [1]),
  (74, .invokevirtual 110, 77, [82, 1, 5, 551, 553, 16, 39]),
  (77, .ireturn, 78, []),
  (78, .aload_n 0, 79, []),
  (79, .iconst 1, 80, [1]),
  (80, .invokevirtual 107, 83, [81, 1, 5, 547, 549, 15, 39]),
  (83, .ireturn, 84, []),
  (84, .aload_n 0, 85, []),
  (85, .getfield 13, 88, [5, 1, 419]),
  (88, .iload_n 1, 89, []),
  (89, .laload, 90, []),
  (90, .lconst 0, 91, [0, 0]),
  (91, .lcmp, 92, []),
  (92, .ifCond .ne 8, 95, [100]),
  (95, .bipush (-6), 97, [6, 1]),
  (97, .goto 15, 100, [112]),
  (100, .aload_n 0, 101, []),
  (101, .getfield 13, 104, [5, 1, 419]),
  (104, .iload_n 1, 105, []),
  (105, .laload, 106, []),
  (106, .invokestatic 81, 109, [0, 75, 1, 508, 509, 39]),
  (109, .invokestatic 67, 112, [0, 70, 1, 517, 518, 39]),
  (112, .ireturn, 113, []),
  (113, .bipush (-2), 115, [2, 1]),
  (115, .ireturn, 116, [])]
/-- 113: SpanStampsModel.growth -/
def tb113 : List (Nat × ab_E) := [(0, .aload_n 0, 1, []),
  (1, .iload_n 1, 2, []),
  (2, .invokevirtual 93, 5, [65, 1, 5, 479, 481, 6, 39]),
  (5, .ifCond .ne 5, 8, [10]),
  (8, .iconst (-1), 9, [1, 1]),
  (9, .ireturn, 10, []),
  (10, .iload_n 2, 11, []),
  (11, .iconst 0, 12, [0]),
  (12, .iconst 4, 13, [4]),
  (13, .invokestatic 59, 16, [0, 64, 3, 483, 484, 39]),
  (16, .ifCond .ne 6, 19, [22]),
  (19, .bipush (-2), 21, [2, 1]),
  (21, .ireturn, 22, []),
  (22, .aload_n 0, 23, []),
  (23, .getfield 13, 26, [5, 1, 419]),
  (26, .iload_n 1, 27, []),
  (27, .laload, 28, []),
  (28, .lconst 0, 29, [0, 0]),
  (29, .lcmp, 30, []),
  (30, .ifCond .ne 6, 33, [36]),
  (33, .bipush (-3), 35, [3, 1]),
  (35, .ireturn, 36, []),
  (36, .aload_n 0, 37, []),
  (37, .iload_n 1, 38, []),
  (38, .invokevirtual 141, 41, [85, 1, 5, 531, 533, 11, 39]),
  (41, .aload_n 0, 42, []),
  (42, .aload_n 0, 43, []),
  (43, .getfield 13, 46, [5, 1, 419]),
  (46, .iload_n 1, 47, []),
  (47, .laload, 48, []),
  (48, .invokevirtual 145, 51, [88, 1, 5, 535, 537, 12, 39]),
  (51, .aload_n 0, 52, []),
  (52, .iload_n 1, 53, []),
  (53, .invokevirtual 149, 56, [89, 1, 5, 565, 567, 18, 39]),
  (56, .istore_n 3, 57, []),
  (57, .iload_n 3, 58, []),
  (58, .ifCond .le 23, 61, [81]),
  (61, .iload_n 2, 62, []),
  (62, .ifCond .ne 7, 65, [69]),
  (65, .iconst 1, 66, [1]),
  (66, .goto 14, 69, [80]),
  (69, .iload_n 2, 70, []),
  (70, .iconst 1, 71, [1]),
  (71, .if_icmp .ne 7, 74, [78]),
  (74, .iload_n 3, 75, []),
  (75, .goto 5, 78, [80]),
  (78, .bipush (-6), 80, [6, 1]),
  (80, .ireturn, 81, []),
  (81, .aload_n 0, 82, []),
  (82, .aload_n 0, 83, []),
  (83, .getfield 13, 86, [5, 1, 419]),
  (86, .iload_n 1, 87, []),
  (87, .laload, 88, []),
  (88, .invokevirtual 152, 91, [92, 1, 5, 569, 571, 19, 39]),
  (91, .istore 4, 93, []),
  (93, .iload_n 2, 94, []),
  (94, .ifCond .ne 7, 97, [101]),
  (97, .iconst 0, 98, [0]),
  (98, .goto 48, 101, [146]),
  (101, .iload_n 2, 102, []),
  (102, .iconst 1, 103, [1]),
  (103, .if_icmp .ne 11, 106, [114]),
  (106, .iload 4, 108, []),
  (108, .invokestatic 71, 111, [0, 71, 1, 514, 515, 39]),
  (111, .goto 35, 114, [146]),
  (114, .iload_n 2, 115, []),
  (115, .iconst 2, 116, [2]),
  (116, .if_icmp .ne 12, 119, [128]),
  (119, .aload_n 0, 120, []),
  (120, .iload 4, 122, []),
  (122, .invokevirtual 134, 125, [91, 1, 5, 576, 578, 20, 39]),
  (125, .goto 21, 128, [146]),
  (128, .iload_n 2, 129, []),
  (129, .iconst 3, 130, [3]),
  (130, .if_icmp .ne 11, 133, [141]),
  (133, .iload 4, 135, []),
  (135, .invokestatic 74, 138, [0, 72, 1, 520, 521, 39]),
  (138, .goto 8, 141, [146]),
  (141, .iload 4, 143, []),
  (143, .invokestatic 67, 146, [0, 70, 1, 517, 518, 39]),
  (146, .ireturn, 147, [])]
/-- 114: SpanStampsModel.isFirst -/
def tb114 : List (Nat × ab_E) := [(0, .iconst 1, 1, [1]),
  (1, .istore_n 3, 2, []),
  (2, .iconst 0, 3, [0]),
  (3, .istore 4, 5, []),
  (5, .iload 4, 7, []),
  (7, .iload_n 1, 8, []),
  (8, .if_icmp .ge 63, 11, [71]),
  (11, .iload_n 3, 12, []),
  (12, .ifCond .eq 51, 15, [63]),
  (15, .aload_n 0, 16, []),
  (16, .getfield 7, 19, [5, 0, 418]),
  (19, .iload 4, 21, []),
  (21, .baload, 22, []),
  (22, .ifCond .eq 37, 25, [59]),
  (25, .iload_n 2, 26, []),
  (26, .ifCond .eq 23, 29, [49]),
  (29, .aload_n 0, 30, []),
  (30, .getfield 13, 33, [5, 1, 419]),
  (33, .iload 4, 35, []),
  (35, .laload, 36, []),
  (36, .aload_n 0, 37, []),
  (37, .getfield 13, 40, [5, 1, 419]),
  (40, .iload_n 1, 41, []),
  (41, .laload, 42, []),
  (42, .lcmp, 43, []),
  (43, .ifCond .ne 16, 46, [59]),
  (46, .goto 17, 49, [63]),
  (49, .aload_n 0, 50, []),
  (50, .iload_n 1, 51, []),
  (51, .iload 4, 53, []),
  (53, .invokevirtual 161, 56, [99, 2, 5, 608, 610, 23, 39]),
  (56, .ifCond .eq 7, 59, [63]),
  (59, .iconst 1, 60, [1]),
  (60, .goto 4, 63, [64]),
  (63, .iconst 0, 64, [0]),
  (64, .istore_n 3, 65, []),
  (65, .iinc 4 1, 68, [1]),
  (68, .goto (-63), 71, [5]),
  (71, .iload_n 3, 72, []),
  (72, .ireturn, 73, [])]
/-- 115: SpanStampsModel.isBeforeNone -/
def tb115 : List (Nat × ab_E) := [(0, .iconst 1, 1, [1]),
  (1, .istore_n 2, 2, []),
  (2, .iconst 0, 3, [0]),
  (3, .istore_n 3, 4, []),
  (4, .iload_n 3, 5, []),
  (5, .bipush 12, 7, [12]),
  (7, .if_icmp .ge 38, 10, [45]),
  (10, .iload_n 2, 11, []),
  (11, .ifCond .eq 26, 14, [37]),
  (14, .aload_n 0, 15, []),
  (15, .getfield 7, 18, [5, 0, 418]),
  (18, .iload_n 3, 19, []),
  (19, .baload, 20, []),
  (20, .ifCond .eq 13, 23, [33]),
  (23, .aload_n 0, 24, []),
  (24, .iload_n 1, 25, []),
  (25, .iload_n 3, 26, []),
  (26, .invokevirtual 161, 29, [99, 2, 5, 608, 610, 23, 39]),
  (29, .iconst 1, 30, [1]),
  (30, .if_icmp .eq 7, 33, [37]),
  (33, .iconst 1, 34, [1]),
  (34, .goto 4, 37, [38]),
  (37, .iconst 0, 38, [0]),
  (38, .istore_n 2, 39, []),
  (39, .iinc 3 1, 42, [1]),
  (42, .goto (-38), 45, [4]),
  (45, .iload_n 2, 46, []),
  (46, .ireturn, 47, [])]
/-- 116: SpanStampsModel.unlike -/
def tb116 : List (Nat × ab_E) := [(0, .iload_n 1, 1, []),
  (1, .iconst 0, 2, [0]),
  (2, .iconst 2, 3, [2]),
  (3, .invokestatic 59, 6, [0, 64, 3, 483, 484, 39]),
  (6, .ifCond .ne 6, 9, [12]),
  (9, .bipush (-2), 11, [2, 1]),
  (11, .ireturn, 12, []),
  (12, .iconst 0, 13, [0]),
  (13, .istore_n 2, 14, []),
  (14, .iconst 0, 15, [0]),
  (15, .istore_n 3, 16, []),
  (16, .iload_n 3, 17, []),
  (17, .bipush 12, 19, [12]),
  (19, .if_icmp .ge 60, 22, [79]),
  (22, .iload_n 2, 23, []),
  (23, .aload_n 0, 24, []),
  (24, .getfield 7, 27, [5, 0, 418]),
  (27, .iload_n 3, 28, []),
  (28, .baload, 29, []),
  (29, .ifCond .eq 41, 32, [70]),
  (32, .iload_n 1, 33, []),
  (33, .iconst 2, 34, [2]),
  (34, .if_icmp .ne 14, 37, [48]),
  (37, .aload_n 0, 38, []),
  (38, .iload_n 3, 39, []),
  (39, .invokevirtual 188, 42, [115, 1, 5, 667, 669, 29, 39]),
  (42, .ifCond .eq 28, 45, [70]),
  (45, .goto 21, 48, [66]),
  (48, .aload_n 0, 49, []),
  (49, .iload_n 3, 50, []),
  (50, .iload_n 1, 51, []),
  (51, .iconst 1, 52, [1]),
  (52, .if_icmp .ne 7, 55, [59]),
  (55, .iconst 1, 56, [1]),
  (56, .goto 4, 59, [60]),
  (59, .iconst 0, 60, [0]),
  (60, .invokevirtual 191, 63, [114, 2, 5, 671, 673, 30, 39]),
  (63, .ifCond .eq 7, 66, [70]),
  (66, .iconst 1, 67, [1]),
  (67, .goto 4, 70, [71]),
  (70, .iconst 0, 71, [0]),
  (71, .iadd, 72, []),
  (72, .istore_n 2, 73, []),
  (73, .iinc 3 1, 76, [1]),
  (76, .goto (-60), 79, [16]),
  (79, .iload_n 2, 80, []),
  (80, .ireturn, 81, [])]
/-- 117: SpanStampsModel.image -/
def tb117 : List (Nat × ab_E) := [(0, .iload_n 1, 1, []),
  (1, .iconst 0, 2, [0]),
  (2, .iconst 1, 3, [1]),
  (3, .invokestatic 59, 6, [0, 64, 3, 483, 484, 39]),
  (6, .ifCond .ne 6, 9, [12]),
  (9, .bipush (-2), 11, [2, 1]),
  (11, .ireturn, 12, []),
  (12, .iconst 0, 13, [0]),
  (13, .istore_n 2, 14, []),
  (14, .iload_n 2, 15, []),
  (15, .bipush 12, 17, [12]),
  (17, .if_icmp .ge 60, 20, [77]),
  (20, .aload_n 0, 21, []),
  (21, .getfield 42, 24, [5, 13, 431]),
  (24, .bipush 12, 26, [12]),
  (26, .iload_n 1, 27, []),
  (27, .imul, 28, []),
  (28, .iload_n 2, 29, []),
  (29, .iadd, 30, []),
  (30, .aload_n 0, 31, []),
  (31, .getfield 7, 34, [5, 0, 418]),
  (34, .iload_n 2, 35, []),
  (35, .baload, 36, []),
  (36, .bastore, 37, []),
  (37, .aload_n 0, 38, []),
  (38, .getfield 45, 41, [5, 14, 432]),
  (41, .bipush 12, 43, [12]),
  (43, .iload_n 1, 44, []),
  (44, .imul, 45, []),
  (45, .iload_n 2, 46, []),
  (46, .iadd, 47, []),
  (47, .aload_n 0, 48, []),
  (48, .getfield 13, 51, [5, 1, 419]),
  (51, .iload_n 2, 52, []),
  (52, .laload, 53, []),
  (53, .lastore, 54, []),
  (54, .aload_n 0, 55, []),
  (55, .getfield 48, 58, [5, 15, 433]),
  (58, .bipush 12, 60, [12]),
  (60, .iload_n 1, 61, []),
  (61, .imul, 62, []),
  (62, .iload_n 2, 63, []),
  (63, .iadd, 64, []),
  (64, .aload_n 0, 65, []),
  (65, .getfield 17, 68, [5, 2, 420]),
  (68, .iload_n 2, 69, []),
  (69, .laload, 70, []),
  (70, .lastore, 71, []),
  (71, .iinc 2 1, 74, [1]),
  (74, .goto (-60), 77, [14]),
  (77, .iconst 0, 78, [0]),
  (78, .istore_n 2, 79, []),
  (79, .iload_n 2, 80, []),
  (80, .sipush 768, 83, [768]),
  (83, .if_icmp .ge 27, 86, [110]),
  (86, .aload_n 0, 87, []),
  (87, .getfield 51, 90, [5, 16, 434]),
  (90, .sipush 768, 93, [768]),
  (93, .iload_n 1, 94, []),
  (94, .imul, 95, []),
  (95, .iload_n 2, 96, []),
  (96, .iadd, 97, []),
  (97, .aload_n 0, 98, []),
  (98, .getfield 20, 101, [5, 3, 421]),
  (101, .iload_n 2, 102, []),
  (102, .iaload, 103, []),
  (103, .iastore, 104, []),
  (104, .iinc 2 1, 107, [1]),
  (107, .goto (-28), 110, [79]),
  (110, .aload_n 0, 111, []),
  (111, .getfield 54, 114, [5, 17, 435]),
  (114, .iload_n 1, 115, []),
  (115, .aload_n 0, 116, []),
  (116, .getfield 137, 119, [5, 4, 422]),
  (119, .iastore, 120, []),
  (120, .aload_n 0, 121, []),
  (121, .getfield 39, 124, [5, 12, 430]),
  (124, .iload_n 1, 125, []),
  (125, .iconst 1, 126, [1]),
  (126, .bastore, 127, []),
  (127, .iconst 1, 128, [1]),
  (128, .ireturn, 129, [])]
/-- 118: SpanStampsModel.restore -/
def tb118 : List (Nat × ab_E) := [(0, .iload_n 1, 1, []),
  (1, .iconst 0, 2, [0]),
  (2, .iconst 1, 3, [1]),
  (3, .invokestatic 59, 6, [0, 64, 3, 483, 484, 39]),
  (6, .ifCond .ne 6, 9, [12]),
  (9, .bipush (-2), 11, [2, 1]),
  (11, .ireturn, 12, []),
  (12, .aload_n 0, 13, []),
  (13, .getfield 39, 16, [5, 12, 430]),
  (16, .iload_n 1, 17, []),
  (17, .baload, 18, []),
  (18, .ifCond .ne 6, 21, [24]),
  (21, .bipush (-3), 23, [3, 1]),
  (23, .ireturn, 24, []),
  (24, .iconst 0, 25, [0]),
  (25, .istore_n 2, 26, []),
  (26, .iload_n 2, 27, []),
  (27, .bipush 12, 29, [12]),
  (29, .if_icmp .ge 60, 32, [89]),
  (32, .aload_n 0, 33, []),
  (33, .getfield 7, 36, [5, 0, 418]),
  (36, .iload_n 2, 37, []),
  (37, .aload_n 0, 38, []),
  (38, .getfield 42, 41, [5, 13, 431]),
  (41, .bipush 12, 43, [12]),
  (43, .iload_n 1, 44, []),
  (44, .imul, 45, []),
  (45, .iload_n 2, 46, []),
  (46, .iadd, 47, []),
  (47, .baload, 48, []),
  (48, .bastore, 49, []),
  (49, .aload_n 0, 50, []),
  (50, .getfield 13, 53, [5, 1, 419]),
  (53, .iload_n 2, 54, []),
  (54, .aload_n 0, 55, []),
  (55, .getfield 45, 58, [5, 14, 432]),
  (58, .bipush 12, 60, [12]),
  (60, .iload_n 1, 61, []),
  (61, .imul, 62, []),
  (62, .iload_n 2, 63, []),
  (63, .iadd, 64, []),
  (64, .laload, 65, []),
  (65, .lastore, 66, []),
  (66, .aload_n 0, 67, []),
  (67, .getfield 17, 70, [5, 2, 420]),
  (70, .iload_n 2, 71, []),
  (71, .aload_n 0, 72, []),
  (72, .getfield 48, 75, [5, 15, 433]),
  (75, .bipush 12, 77, [12]),
  (77, .iload_n 1, 78, []),
  (78, .imul, 79, []),
  (79, .iload_n 2, 80, []),
  (80, .iadd, 81, []),
  (81, .laload, 82, []),
  (82, .lastore, 83, []),
  (83, .iinc 2 1, 86, [1]),
  (86, .goto (-60), 89, [26]),
  (89, .iconst 0, 90, [0]),
  (90, .istore_n 2, 91, []),
  (91, .iload_n 2, 92, []),
  (92, .sipush 768, 95, [768]),
  (95, .if_icmp .ge 27, 98, [122]),
  (98, .aload_n 0, 99, []),
  (99, .getfield 20, 102, [5, 3, 421]),
  (102, .iload_n 2, 103, []),
  (103, .aload_n 0, 104, []),
  (104, .getfield 51, 107, [5, 16, 434]),
  (107, .sipush 768, 110, [768]),
  (110, .iload_n 1, 111, []),
  (111, .imul, 112, []),
  (112, .iload_n 2, 113, []),
  (113, .iadd, 114, []),
  (114, .iaload, 115, []),
  (115, .iastore, 116, []),
  (116, .iinc 2 1, 119, [1]),
  (119, .goto (-28), 122, [91]),
  (122, .aload_n 0, 123, []),
  (123, .aload_n 0, 124, []),
  (124, .getfield 54, 127, [5, 17, 435]),
  (127, .iload_n 1, 128, []),
  (128, .iaload, 129, []),
  (129, .putfield 137, 132, [5, 4, 0, 0, 422]),
  (132, .iconst 1, 133, [1]),
  (133, .ireturn, 134, [])]
/-- 119: SpanStampsModel.numbers -/
def tb119 : List (Nat × ab_E) := [(0, .iconst 0, 1, [0]),
  (1, .istore_n 1, 2, []),
  (2, .iconst 0, 3, [0]),
  (3, .istore_n 2, 4, []),
  (4, .iload_n 2, 5, []),
  (5, .bipush 12, 7, [12]),
  (7, .if_icmp .ge 28, 10, [35]),
  (10, .iload_n 1, 11, []),
  (11, .aload_n 0, 12, []),
  (12, .getfield 7, 15, [5, 0, 418]),
  (15, .iload_n 2, 16, []),
  (16, .baload, 17, []),
  (17, .ifCond .eq 9, 20, [26]),
  (20, .iconst 1, 21, [1]),
  (21, .iload_n 2, 22, []),
  (22, .ishl, 23, []),
  (23, .goto 4, 26, [27]),
  (26, .iconst 0, 27, [0]),
  (27, .ior, 28, []),
  (28, .istore_n 1, 29, []),
  (29, .iinc 2 1, 32, [1]),
  (32, .goto (-28), 35, [4]),
  (35, .iload_n 1, 36, []),
  (36, .ireturn, 37, [])]
/-- 120: SpanStampsModel.count -/
def tb120 : List (Nat × ab_E) := [(0, .iload_n 1, 1, []),
  (1, .tableswitch 76 0 3 #[31, 36, 41, 46], 32, [77, 32, 37, 42, 47]),
  (32, .aload_n 0, 33, []),
  (33, .invokevirtual 158, 36, [68, 0, 5, 592, 594, 22, 39]),
  (36, .ireturn, 37, []),
  (37, .aload_n 0, 38, []),
  (38, .invokevirtual 195, 41, [119, 0, 5, 687, 689, 31, 39]),
  (41, .ireturn, 42, []),
  (42, .aload_n 0, 43, []),
  (43, .getfield 137, 46, [5, 4, 422]),
  (46, .ireturn, 47, []),
  (47, .aload_n 0, 48, []),
  (48, .getfield 39, 51, [5, 12, 430]),
  (51, .iconst 0, 52, [0]),
  (52, .baload, 53, []),
  (53, .ifCond .eq 7, 56, [60]),
  (56, .iconst 1, 57, [1]),
  (57, .goto 4, 60, [61]),
  (60, .iconst 0, 61, [0]),
  (61, .aload_n 0, 62, []),
  (62, .getfield 39, 65, [5, 12, 430]),
  (65, .iconst 1, 66, [1]),
  (66, .baload, 67, []),
  (67, .ifCond .eq 7, 70, [74]),
  (70, .iconst 2, 71, [2]),
  (71, .goto 4, 74, [75]),
  (74, .iconst 0, 75, [0]),
  (75, .iadd, 76, []),
  (76, .ireturn, 77, []),
  (77, .bipush (-2), 79, [2, 1]),
  (79, .ireturn, 80, [])]
/-- 121: java/lang/Integer.bitCount -/
def tb121 : List (Nat × ab_E) := [(0, .iload_n 0, 1, []),
  (1, .iload_n 0, 2, []),
  (2, .iconst 1, 3, [1]),
  (3, .iushr, 4, []),
  (4, .ldc_w 265, 7, [1431655765, 295]),
  (7, .iand, 8, []),
  (8, .isub, 9, []),
  (9, .istore_n 0, 10, []),
  (10, .iload_n 0, 11, []),
  (11, .ldc_w 266, 14, [858993459, 296]),
  (14, .iand, 15, []),
  (15, .iload_n 0, 16, []),
  (16, .iconst 2, 17, [2]),
  (17, .iushr, 18, []),
  (18, .ldc_w 266, 21, [858993459, 296]),
  (21, .iand, 22, []),
  (22, .iadd, 23, []),
  (23, .istore_n 0, 24, []),
  (24, .iload_n 0, 25, []),
  (25, .iload_n 0, 26, []),
  (26, .iconst 4, 27, [4]),
  (27, .iushr, 28, []),
  (28, .iadd, 29, []),
  (29, .ldc_w 267, 32, [252645135, 297]),
  (32, .iand, 33, []),
  (33, .istore_n 0, 34, []),
  (34, .iload_n 0, 35, []),
  (35, .iload_n 0, 36, []),
  (36, .bipush 8, 38, [8]),
  (38, .iushr, 39, []),
  (39, .iadd, 40, []),
  (40, .istore_n 0, 41, []),
  (41, .iload_n 0, 42, []),
  (42, .iload_n 0, 43, []),
  (43, .bipush 16, 45, [16]),
  (45, .iushr, 46, []),
  (46, .iadd, 47, []),
  (47, .istore_n 0, 48, []),
  (48, .iload_n 0, 49, []),
  (49, .bipush 63, 51, [63]),
  (51, .iand, 52, []),
  (52, .ireturn, 53, [])]
/-- 122: java/lang/Long.bitCount -/
def tb122 : List (Nat × ab_E) := [(0, .lload_n 0, 1, []),
  (1, .lload_n 0, 2, []),
  (2, .iconst 1, 3, [1]),
  (3, .lushr, 4, []),
  (4, .ldc2_w 314, 7, [6148914691236517205, 0, 176]),
  (7, .land, 8, []),
  (8, .lsub, 9, []),
  (9, .lstore_n 0, 10, []),
  (10, .lload_n 0, 11, []),
  (11, .ldc2_w 316, 14, [3689348814741910323, 0, 177]),
  (14, .land, 15, []),
  (15, .lload_n 0, 16, []),
  (16, .iconst 2, 17, [2]),
  (17, .lushr, 18, []),
  (18, .ldc2_w 316, 21, [3689348814741910323, 0, 177]),
  (21, .land, 22, []),
  (22, .ladd, 23, []),
  (23, .lstore_n 0, 24, []),
  (24, .lload_n 0, 25, []),
  (25, .lload_n 0, 26, []),
  (26, .iconst 4, 27, [4]),
  (27, .lushr, 28, []),
  (28, .ladd, 29, []),
  (29, .ldc2_w 318, 32, [1085102592571150095, 0, 178]),
  (32, .land, 33, []),
  (33, .lstore_n 0, 34, []),
  (34, .lload_n 0, 35, []),
  (35, .lload_n 0, 36, []),
  (36, .bipush 8, 38, [8]),
  (38, .lushr, 39, []),
  (39, .ladd, 40, []),
  (40, .lstore_n 0, 41, []),
  (41, .lload_n 0, 42, []),
  (42, .lload_n 0, 43, []),
  (43, .bipush 16, 45, [16]),
  (45, .lushr, 46, []),
  (46, .ladd, 47, []),
  (47, .lstore_n 0, 48, []),
  (48, .lload_n 0, 49, []),
  (49, .lload_n 0, 50, []),
  (50, .bipush 32, 52, [32]),
  (52, .lushr, 53, []),
  (53, .ladd, 54, []),
  (54, .lstore_n 0, 55, []),
  (55, .lload_n 0, 56, []),
  (56, .l2i, 57, []),
  (57, .bipush 127, 59, [127]),
  (59, .iand, 60, []),
  (60, .ireturn, 61, [])]
/-- 123: SpanStampsLaw.law -/
def tb123 : List (Nat × ab_E) := [(0, .new 7, 3, [4, 5, 44, 45, 33]),
  (3, .dup, 4, []),
  (4, .invokespecial 9, 7, [0, 41, 0, 0, 46, 47, 33]),
  (7, .astore_n 1, 8, []),
  (8, .new 10, 11, [5, 18, 411, 412, 39]),
  (11, .dup, 12, []),
  (12, .invokespecial 12, 15, [0, 63, 0, 0, 413, 414, 39]),
  (15, .astore_n 2, 16, []),
  (16, .iconst 0, 17, [0]),
  (17, .istore_n 3, 18, []),
  (18, .iload_n 3, 19, []),
  (19, .aload_n 0, 20, []),
  (20, .arraylength, 21, []),
  (21, .iconst 3, 22, [3]),
  (22, .isub, 23, []),
  (23, .if_icmp .gt 644, 26, [667]),
  (26, .aload_n 0, 27, []),
  (27, .iload_n 3, 28, []),
  (28, .iaload, 29, []),
  (29, .bipush 31, 31, [31]),
  (31, .iand, 32, []),
  (32, .tableswitch 629 0 18 #[92, 115, 138, 161, 194, 227, 260, 283, 316, 349, 382, 405, 438, 471, 504, 537, 560, 583, 606], 124, [661, 124, 147, 170, 193, 226, 259, 292, 315, 348, 381, 414, 437, 470, 503, 536, 569, 592, 615, 638]),
  (124, .aload_n 1, 125, []),
  (125, .aload_n 0, 126, []),
  (126, .iload_n 3, 127, []),
  (127, .iconst 1, 128, [1]),
  (128, .iadd, 129, []),
  (129, .iaload, 130, []),
  (130, .invokevirtual 13, 133, [42, 1, 4, 165, 166, 167, 33]),
  (133, .aload_n 2, 134, []),
  (134, .aload_n 0, 135, []),
  (135, .iload_n 3, 136, []),
  (136, .iconst 1, 137, [1]),
  (137, .iadd, 138, []),
  (138, .iaload, 139, []),
  (139, .invokevirtual 17, 142, [79, 1, 5, 475, 476, 477, 39]),
  (142, .if_icmp .eq 519, 145, [661]),
  (145, .iconst 0, 146, [0]),
  (146, .ireturn, 147, []),
  (147, .aload_n 1, 148, []),
  (148, .aload_n 0, 149, []),
  (149, .iload_n 3, 150, []),
  (150, .iconst 1, 151, [1]),
  (151, .iadd, 152, []),
  (152, .iaload, 153, []),
  (153, .invokevirtual 18, 156, [43, 1, 4, 205, 206, 207, 33]),
  (156, .aload_n 2, 157, []),
  (157, .aload_n 0, 158, []),
  (158, .iload_n 3, 159, []),
  (159, .iconst 1, 160, [1]),
  (160, .iadd, 161, []),
  (161, .iaload, 162, []),
  (162, .invokevirtual 21, 165, [80, 1, 5, 523, 524, 525, 39]),
  (165, .if_icmp .eq 496, 168, [661]),
  (168, .iconst 0, 169, [0]),
  (169, .ireturn, 170, []),
  (170, .aload_n 1, 171, []),
  (171, .aload_n 0, 172, []),
  (172, .iload_n 3, 173, []),
  (173, .iconst 1, 174, [1]),
  (174, .iadd, 175, []),
  (175, .iaload, 176, []),
  (176, .invokevirtual 22, 179, [44, 1, 4, 209, 210, 211, 33]),
  (179, .aload_n 2, 180, []),
  (180, .aload_n 0, 181, []),
  (181, .iload_n 3, 182, []),
  (182, .iconst 1, 183, [1]),
  (183, .iadd, 184, []),
  (184, .iaload, 185, []),
  (185, .invokevirtual 25, 188, [93, 1, 5, 527, 528, 529, 39]),
  (188, .if_icmp .eq 473, 191, [661]),
  (191, .iconst 0, 192, [0]),
  (192, .ireturn, 193, []),
  (193, .aload_n 1, 194, []),
  (194, .aload_n 0, 195, []),
  (195, .iload_n 3, 196, []),
  (196, .iconst 1, 197, [1]),
  (197, .iadd, 198, []),
  (198, .iaload, 199, []),
  (199, .aload_n 0, 200, []),
  (200, .iload_n 3, 201, []),
  (201, .iconst 2, 202, [2]),
  (202, .iadd, 203, []),
  (203, .iaload, 204, []),
  (204, .invokevirtual 26, 207, [45, 2, 4, 272, 273, 274, 33]),
  (207, .aload_n 2, 208, []),
  (208, .aload_n 0, 209, []),
  (209, .iload_n 3, 210, []),
  (210, .iconst 1, 211, [1]),
  (211, .iadd, 212, []),
  (212, .iaload, 213, []),
  (213, .aload_n 0, 214, []),
  (214, .iload_n 3, 215, []),
  (215, .iconst 2, 216, [2]),
  (216, .iadd, 217, []),
  (217, .iaload, 218, []),
  (218, .invokevirtual 30, 221, [95, 2, 5, 580, 581, 582, 39]),
  (221, .if_icmp .eq 440, 224, [661]),
  (224, .iconst 0, 225, [0]),
  (225, .ireturn, 226, []),
  (226, .aload_n 1, 227, []),
  (227, .aload_n 0, 228, []),
  (228, .iload_n 3, 229, []),
  (229, .iconst 1, 230, [1]),
  (230, .iadd, 231, []),
  (231, .iaload, 232, []),
  (232, .aload_n 0, 233, []),
  (233, .iload_n 3, 234, []),
  (234, .iconst 2, 235, [2]),
  (235, .iadd, 236, []),
  (236, .iaload, 237, []),
  (237, .invokevirtual 31, 240, [46, 2, 4, 280, 281, 282, 33]),
  (240, .aload_n 2, 241, []),
  (241, .aload_n 0, 242, []),
  (242, .iload_n 3, 243, []),
  (243, .iconst 1, 244, [1]),
  (244, .iadd, 245, []),
  (245, .iaload, 246, []),
  (246, .aload_n 0, 247, []),
  (247, .iload_n 3, 248, []),
  (248, .iconst 2, 249, [2]),
  (249, .iadd, 250, []),
  (250, .iaload, 251, []),
  (251, .invokevirtual 34, 254, [96, 2, 5, 588, 589, 590, 39]),
  (254, .if_icmp .eq 407, 257, [661]),
  (257, .iconst 0, 258, [0]),
  (258, .ireturn, 259, []),
  (259, .aload_n 1, 260, []),
  (260, .aload_n 0, 261, []),
  (261, .iload_n 3, 262, []),
  (262, .iconst 1, 263, [1]),
  (263, .iadd, 264, []),
  (264, .iaload, 265, []),
  (265, .aload_n 0, 266, []),
  (266, .iload_n 3, 267, []),
  (267, .iconst 2, 268, [2]),
  (268, .iadd, 269, []),
  (269, .iaload, 270, []),
  (270, .invokevirtual 35, 273, [47, 2, 4, 298, 299, 300, 33]),
  (273, .aload_n 2, 274, []),
  (274, .aload_n 0, 275, []),
  (275, .iload_n 3, 276, []),
  (276, .iconst 1, 277, [1]),
  (277, .iadd, 278, []),
  (278, .iaload, 279, []),
  (279, .aload_n 0, 280, []),
  (280, .iload_n 3, 281, []),
  (281, .iconst 2, 282, [2]),
  (282, .iadd, 283, []),
  (283, .iaload, 284, []),
  (284, .invokevirtual 38, 287, [97, 2, 5, 596, 597, 598, 39]),
  (287, .if_icmp .eq 374, 290, [661]),
  (290, .iconst 0, 291, [0]),
  (291, .ireturn, 292, []),
  (292, .aload_n 1, 293, []),
  (293, .aload_n 0, 294, []),
  (294, .iload_n 3, 295, []),
  (295, .iconst 1, 296, [1]),
  (296, .iadd, 297, []),
  (297, .iaload, 298, []),
  (298, .invokevirtual 39, 301, [48, 1, 4, 302, 303, 304, 33]),
  (301, .aload_n 2, 302, []),
  (302, .aload_n 0, 303, []),
  (303, .iload_n 3, 304, []),
  (304, .iconst 1, 305, [1]),
  (305, .iadd, 306, []),
  (306, .iaload, 307, []),
  (307, .invokevirtual 42, 310, [98, 1, 5, 600, 601, 602, 39]),
  (310, .if_icmp .eq 351, 313, [661]),
  (313, .iconst 0, 314, [0]),
  (314, .ireturn, 315, []),
  (315, .aload_n 1, 316, []),
  (316, .aload_n 0, 317, []),
  (317, .iload_n 3, 318, []),
  (318, .iconst 1, 319, [1]),
  (319, .iadd, 320, []),
  (320, .iaload, 321, []),
  (321, .aload_n 0, 322, []),
  (322, .iload_n 3, 323, []),
  (323, .iconst 2, 324, [2]),
  (324, .iadd, 325, []),
  (325, .iaload, 326, []),
  (326, .invokevirtual 43, 329, [49, 2, 4, 306, 307, 308, 33]),
  (329, .aload_n 2, 330, []),
  (330, .aload_n 0, 331, []),
  (331, .iload_n 3, 332, []),
  (332, .iconst 1, 333, [1]),
  (333, .iadd, 334, []),
  (334, .iaload, 335, []),
  (335, .aload_n 0, 336, []),
  (336, .iload_n 3, 337, []),
  (337, .iconst 2, 338, [2]),
  (338, .iadd, 339, []),
  (339, .iaload, 340, []),
  (340, .invokevirtual 46, 343, [100, 2, 5, 604, 605, 606, 39]),
  (343, .if_icmp .eq 318, 346, [661]),
  (346, .iconst 0, 347, [0]),
  (347, .ireturn, 348, []),
  (348, .aload_n 1, 349, []),
  (349, .aload_n 0, 350, []),
  (350, .iload_n 3, 351, []),
  (351, .iconst 1, 352, [1]),
  (352, .iadd, 353, []),
  (353, .iaload, 354, []),
  (354, .aload_n 0, 355, []),
  (355, .iload_n 3, 356, []),
  (356, .iconst 2, 357, [2]),
  (357, .iadd, 358, []),
  (358, .iaload, 359, []),
  (359, .invokevirtual 47, 362, [50, 2, 4, 314, 315, 316, 33]),
  (362, .aload_n 2, 363, []),
  (363, .aload_n 0, 364, []),
  (364, .iload_n 3, 365, []),
  (365, .iconst 1, 366, [1]),
  (366, .iadd, 367, []),
  (367, .iaload, 368, []),
  (368, .aload_n 0, 369, []),
  (369, .iload_n 3, 370, []),
  (370, .iconst 2, 371, [2]),
  (371, .iadd, 372, []),
  (372, .iaload, 373, []),
  (373, .invokevirtual 50, 376, [101, 2, 5, 612, 613, 614, 39]),
  (376, .if_icmp .eq 285, 379, [661]),
  (379, .iconst 0, 380, [0]),
  (380, .ireturn, 381, []),
  (381, .aload_n 1, 382, []),
  (382, .aload_n 0, 383, []),
  (383, .iload_n 3, 384, []),
  (384, .iconst 1, 385, [1]),
  (385, .iadd, 386, []),
  (386, .iaload, 387, []),
  (387, .aload_n 0, 388, []),
  (388, .iload_n 3, 389, []),
  (389, .iconst 2, 390, [2]),
  (390, .iadd, 391, []),
  (391, .iaload, 392, []),
  (392, .invokevirtual 51, 395, [51, 2, 4, 318, 319, 320, 33]),
  (395, .aload_n 2, 396, []),
  (396, .aload_n 0, 397, []),
  (397, .iload_n 3, 398, []),
  (398, .iconst 1, 399, [1]),
  (399, .iadd, 400, []),
  (400, .iaload, 401, []),
  (401, .aload_n 0, 402, []),
  (402, .iload_n 3, 403, []),
  (403, .iconst 2, 404, [2]),
  (404, .iadd, 405, []),
  (405, .iaload, 406, []),
  (406, .invokevirtual 54, 409, [102, 2, 5, 616, 617, 618, 39]),
  (409, .if_icmp .eq 252, 412, [661]),
  (412, .iconst 0, 413, [0]),
  (413, .ireturn, 414, []),
  (414, .aload_n 1, 415, []),
  (415, .aload_n 0, 416, []),
  (416, .iload_n 3, 417, []),
  (417, .iconst 1, 418, [1]),
  (418, .iadd, 419, []),
  (419, .iaload, 420, []),
  (420, .invokevirtual 55, 423, [52, 1, 4, 322, 323, 324, 33]),
  (423, .aload_n 2, 424, []),
  (424, .aload_n 0, 425, []),
  (425, .iload_n 3, 426, []),
  (426, .iconst 1, 427, [1]),
  (427, .iadd, 428, []),
  (428, .iaload, 429, []),
  (429, .invokevirtual 58, 432, [103, 1, 5, 620, 621, 622, 39]),
  (432, .if_icmp .eq 229, 435, [661]),
  (435, .iconst 0, 436, [0]),
  (436, .ireturn, 437, []),
  (437, .aload_n 1, 438, []),
  (438, .aload_n 0, 439, []),
  (439, .iload_n 3, 440, []),
  (440, .iconst 1, 441, [1]),
  (441, .iadd, 442, []),
  (442, .iaload, 443, []),
  (443, .aload_n 0, 444, []),
  (444, .iload_n 3, 445, []),
  (445, .iconst 2, 446, [2]),
  (446, .iadd, 447, []),
  (447, .iaload, 448, []),
  (448, .invokevirtual 59, 451, [53, 2, 4, 326, 327, 328, 33]),
  (451, .aload_n 2, 452, []),
  (452, .aload_n 0, 453, []),
  (453, .iload_n 3, 454, []),
  (454, .iconst 1, 455, [1]),
  (455, .iadd, 456, []),
  (456, .iaload, 457, []),
  (457, .aload_n 0, 458, []),
  (458, .iload_n 3, 459, []),
  (459, .iconst 2, 460, [2]),
  (460, .iadd, 461, []),
  (461, .iaload, 462, []),
  (462, .invokevirtual 62, 465, [109, 2, 5, 624, 625, 626, 39]),
  (465, .if_icmp .eq 196, 468, [661]),
  (468, .iconst 0, 469, [0]),
  (469, .ireturn, 470, []),
  (470, .aload_n 1, 471, []),
  (471, .aload_n 0, 472, []),
  (472, .iload_n 3, 473, []),
  (473, .iconst 1, 474, [1]),
  (474, .iadd, 475, []),
  (475, .iaload, 476, []),
  (476, .aload_n 0, 477, []),
  (477, .iload_n 3, 478, []),
  (478, .iconst 2, 479, [2]),
  (479, .iadd, 480, []),
  (480, .iaload, 481, []),
  (481, .invokevirtual 63, 484, [54, 2, 4, 342, 343, 344, 33]),
  (484, .aload_n 2, 485, []),
  (485, .aload_n 0, 486, []),
  (486, .iload_n 3, 487, []),
  (487, .iconst 1, 488, [1]),
  (488, .iadd, 489, []),
  (489, .iaload, 490, []),
  (490, .aload_n 0, 491, []),
  (491, .iload_n 3, 492, []),
  (492, .iconst 2, 493, [2]),
  (493, .iadd, 494, []),
  (494, .iaload, 495, []),
  (495, .invokevirtual 66, 498, [110, 2, 5, 644, 645, 646, 39]),
  (498, .if_icmp .eq 163, 501, [661]),
  (501, .iconst 0, 502, [0]),
  (502, .ireturn, 503, []),
  (503, .aload_n 1, 504, []),
  (504, .aload_n 0, 505, []),
  (505, .iload_n 3, 506, []),
  (506, .iconst 1, 507, [1]),
  (507, .iadd, 508, []),
  (508, .iaload, 509, []),
  (509, .aload_n 0, 510, []),
  (510, .iload_n 3, 511, []),
  (511, .iconst 2, 512, [2]),
  (512, .iadd, 513, []),
  (513, .iaload, 514, []),
  (514, .invokevirtual 67, 517, [55, 2, 4, 351, 352, 353, 33]),
  (517, .aload_n 2, 518, []),
  (518, .aload_n 0, 519, []),
  (519, .iload_n 3, 520, []),
  (520, .iconst 1, 521, [1]),
  (521, .iadd, 522, []),
  (522, .iaload, 523, []),
  (523, .aload_n 0, 524, []),
  (524, .iload_n 3, 525, []),
  (525, .iconst 2, 526, [2]),
  (526, .iadd, 527, []),
  (527, .iaload, 528, []),
  (528, .invokevirtual 70, 531, [112, 2, 5, 652, 653, 654, 39]),
  (531, .if_icmp .eq 130, 534, [661]),
  (534, .iconst 0, 535, [0]),
  (535, .ireturn, 536, []),
  (536, .aload_n 1, 537, []),
  (537, .aload_n 0, 538, []),
  (538, .iload_n 3, 539, []),
  (539, .iconst 1, 540, [1]),
  (540, .iadd, 541, []),
  (541, .iaload, 542, []),
  (542, .aload_n 0, 543, []),
  (543, .iload_n 3, 544, []),
  (544, .iconst 2, 545, [2]),
  (545, .iadd, 546, []),
  (546, .iaload, 547, []),
  (547, .invokevirtual 71, 550, [56, 2, 4, 361, 362, 363, 33]),
  (550, .aload_n 2, 551, []),
  (551, .aload_n 0, 552, []),
  (552, .iload_n 3, 553, []),
  (553, .iconst 1, 554, [1]),
  (554, .iadd, 555, []),
  (555, .iaload, 556, []),
  (556, .aload_n 0, 557, []),
  (557, .iload_n 3, 558, []),
  (558, .iconst 2, 559, [2]),
  (559, .iadd, 560, []),
  (560, .iaload, 561, []),
  (561, .invokevirtual 74, 564, [113, 2, 5, 659, 660, 661, 39]),
  (564, .if_icmp .eq 97, 567, [661]),
  (567, .iconst 0, 568, [0]),
  (568, .ireturn, 569, []),
  (569, .aload_n 1, 570, []),
  (570, .aload_n 0, 571, []),
  (571, .iload_n 3, 572, []),
  (572, .iconst 1, 573, [1]),
  (573, .iadd, 574, []),
  (574, .iaload, 575, []),
  (575, .invokevirtual 75, 578, [57, 1, 4, 365, 366, 367, 33]),
  (578, .aload_n 2, 579, []),
  (579, .aload_n 0, 580, []),
  (580, .iload_n 3, 581, []),
  (581, .iconst 1, 582, [1]),
  (582, .iadd, 583, []),
  (583, .iaload, 584, []),
  (584, .invokevirtual 78, 587, [116, 1, 5, 663, 664, 665, 39]),
  (587, .if_icmp .eq 74, 590, [661]),
  (590, .iconst 0, 591, [0]),
  (591, .ireturn, 592, []),
  (592, .aload_n 1, 593, []),
  (593, .aload_n 0, 594, []),
  (594, .iload_n 3, 595, []),
  (595, .iconst 1, 596, [1]),
  (596, .iadd, 597, []),
  (597, .iaload, 598, []),
  (598, .invokevirtual 79, 601, [58, 1, 4, 394, 395, 396, 33]),
  (601, .aload_n 2, 602, []),
  (602, .aload_n 0, 603, []),
  (603, .iload_n 3, 604, []),
  (604, .iconst 1, 605, [1]),
  (605, .iadd, 606, []),
  (606, .iaload, 607, []),
  (607, .invokevirtual 82, 610, [117, 1, 5, 675, 676, 677, 39]),
  (610, .if_icmp .eq 51, 613, [661]),
  (613, .iconst 0, 614, [0]),
  (614, .ireturn, 615, []),
  (615, .aload_n 1, 616, []),
  (616, .aload_n 0, 617, []),
  (617, .iload_n 3, 618, []),
  (618, .iconst 1, 619, [1]),
  (619, .iadd, 620, []),
  (620, .iaload, 621, []),
  (621, .invokevirtual 83, 624, [59, 1, 4, 402, 403, 404, 33]),
  (624, .aload_n 2, 625, []),
  (625, .aload_n 0, 626, []),
  (626, .iload_n 3, 627, []),
  (627, .iconst 1, 628, [1]),
  (628, .iadd, 629, []),
  (629, .iaload, 630, []),
  (630, .invokevirtual 86, 633, [118, 1, 5, 679, 680, 681, 39]),
  (633, .if_icmp .eq 28, 636, [661]),
  (636, .iconst 0, 637, [0]),
  (637, .ireturn, 638, []),
  (638, .aload_n 1, 639, []),
  (639, .aload_n 0, 640, []),
  (640, .iload_n 3, 641, []),
  (641, .iconst 1, 642, [1]),
  (642, .iadd, 643, []),
  (643, .iaload, 644, []),
  (644, .invokevirtual 87, 647, [60, 1, 4, 406, 407, 408, 33]),
  (647, .aload_n 2, 648, []),
  (648, .aload_n 0, 649, []),
  (649, .iload_n 3, 650, []),
  (650, .iconst 1, 651, [1]),
  (651, .iadd, 652, []),
  (652, .iaload, 653, []),
  (653, .invokevirtual 90, 656, [120, 1, 5, 683, 684, 685, 39]),
  (656, .if_icmp .eq 5, 659, [661]),
  (659, .iconst 0, 660, [0]),
  (660, .ireturn, 661, []),
  (661, .iinc 3 3, 664, [3]),
  (664, .goto (-646), 667, [18]),
  (667, .iconst 1, 668, [1]),
  (668, .ireturn, 669, [])]
def mTab : List (List (Nat × ab_E)) := [tb0, tb1, tb2, tb3, tb4, tb5, tb6, tb7, tb8, tb9, tb10, tb11, tb12, tb13, tb14, tb15, tb16, tb17, tb18, tb19, tb20, tb21, tb22, tb23, tb24, tb25, tb26, tb27, tb28, tb29, tb30, tb31, tb32, tb33, tb34, tb35, tb36, tb37, tb38, tb39, tb40, tb41, tb42, tb43, tb44, tb45, tb46, tb47, tb48, tb49, tb50, tb51, tb52, tb53, tb54, tb55, tb56, tb57, tb58, tb59, tb60, tb61, tb62, tb63, tb64, tb65, tb66, tb67, tb68, tb69, tb70, tb71, tb72, tb73, tb74, tb75, tb76, tb77, tb78, tb79, tb80, tb81, tb82, tb83, tb84, tb85, tb86, tb87, tb88, tb89, tb90, tb91, tb92, tb93, tb94, tb95, tb96, tb97, tb98, tb99, tb100, tb101, tb102, tb103, tb104, tb105, tb106, tb107, tb108, tb109, tb110, tb111, tb112, tb113, tb114, tb115, tb116, tb117, tb118, tb119, tb120, tb121, tb122, tb123]
def mInf : List (MethodName × ByteArray × Nat × Option FieldType × (Nat × Nat) × Nat) := [(⟨"SpanStamps$Circle", "<init>", "()V"⟩, prog_2_method_1_code, 2, none, (25, 828), 56),
  (⟨"SpanStamps$Circle", "find", "(I)LSpanStamps$Stamp;"⟩, prog_2_method_2_code, 2, (some (.object "SpanStamps$Stamp")), (0, 0), 172),
  (⟨"SpanStamps$Circle", "addLike", "(LSpanStamps$Stamp;J)I"⟩, prog_2_method_3_code, 5, (some (.int)), (0, 0), 197),
  (⟨"SpanStamps$Circle", "numbersInUse", "()I"⟩, prog_2_method_4_code, 3, (some (.int)), (0, 0), 291),
  (⟨"SpanStamps$Circle", "howMany", "()I"⟩, prog_2_method_5_code, 1, (some (.int)), (0, 0), 287),
  (⟨"SpanStamps$Circle", "copyFrom", "(LSpanStamps$Circle;)V"⟩, prog_2_method_6_code, 3, none, (0, 0), 401),
  (⟨"SpanStamps$Circle", "countUnevenStamps", "()I"⟩, prog_2_method_7_code, 3, (some (.int)), (0, 0), 372),
  (⟨"SpanStamps$Circle", "isEvenWithEarlier", "(I)Z"⟩, prog_2_method_8_code, 3, (some (.boolean)), (0, 0), 376),
  (⟨"SpanStamps$Circle", "countUnlikeNames", "()I"⟩, prog_2_method_9_code, 3, (some (.int)), (0, 0), 381),
  (⟨"SpanStamps$Circle", "isNamedAsEarlier", "(I)Z"⟩, prog_2_method_10_code, 3, (some (.boolean)), (0, 0), 385),
  (⟨"SpanStamps$Circle", "countBeforeNone", "()I"⟩, prog_2_method_11_code, 3, (some (.int)), (0, 0), 389),
  (⟨"SpanStamps$Circle", "isBeforeAny", "(I)Z"⟩, prog_2_method_12_code, 3, (some (.boolean)), (0, 0), 393),
  (⟨"SpanStamps$Forecast", "<init>", "()V"⟩, prog_3_method_1_code, 1, none, (1, 64), 101),
  (⟨"SpanStamps$Forecast", "lookAt", "(LSpanStamps$Stamp;)V"⟩, prog_3_method_2_code, 2, none, (0, 0), 216),
  (⟨"SpanStamps$Forecast", "fill", "([IJII)V"⟩, prog_3_method_3_code, 7, none, (0, 0), 220),
  (⟨"SpanStamps$Forecast", "lift", "([IIII)V"⟩, prog_3_method_4_code, 5, none, (0, 0), 242),
  (⟨"SpanStamps$Forecast", "countChanges", "([I)I"⟩, prog_3_method_5_code, 4, (some (.int)), (0, 0), 253),
  (⟨"SpanStamps$Forecast", "choosePiece", "(J)V"⟩, prog_3_method_6_code, 7, none, (0, 0), 257),
  (⟨"SpanStamps$Forecast", "raisePiece", "()V"⟩, prog_3_method_7_code, 3, none, (0, 0), 269),
  (⟨"SpanStamps$Row", "<init>", "()V"⟩, prog_4_method_1_code, 1, none, (1, 190), 132),
  (⟨"SpanStamps$Row", "add", "(I)V"⟩, prog_4_method_2_code, 2, none, (0, 0), 336),
  (⟨"SpanStamps$Row", "tell", "(I)I"⟩, prog_4_method_3_code, 2, (some (.int)), (0, 0), 341),
  (⟨"SpanStamps$Span", "sizeOf", "(I)I"⟩, prog_5_method_2_code, 1, (some (.int)), (0, 0), 148),
  (⟨"SpanStamps$Span", "cellsOf", "(II)J"⟩, prog_5_method_3_code, 2, (some (.long)), (0, 0), 144),
  (⟨"SpanStamps$Span", "upperFirst", "(II)I"⟩, prog_5_method_4_code, 2, (some (.int)), (0, 0), 227),
  (⟨"SpanStamps$Span", "firstAround", "(II)I"⟩, prog_5_method_5_code, 2, (some (.int)), (0, 0), 191),
  (⟨"SpanStamps$Span", "liesIn", "(JII)Z"⟩, prog_5_method_6_code, 4, (some (.boolean)), (0, 0), 230),
  (⟨"SpanStamps$Span", "depthAround", "(J)I"⟩, prog_5_method_7_code, 4, (some (.int)), (0, 0), 184),
  (⟨"SpanStamps$Span", "lowerPart", "(J)J"⟩, prog_5_method_8_code, 3, (some (.long)), (0, 0), 181),
  (⟨"SpanStamps$Span", "lowestCell", "(J)I"⟩, prog_5_method_9_code, 2, (some (.int)), (0, 0), 187),
  (⟨"SpanStamps$Span", "countPieces", "(J)I"⟩, prog_5_method_10_code, 4, (some (.int)), (0, 0), 357),
  (⟨"SpanStamps$Span", "pieceDepth", "(JI)I"⟩, prog_5_method_11_code, 5, (some (.int)), (0, 0), 260),
  (⟨"SpanStamps$Span", "isAlike", "([III)Z"⟩, prog_5_method_12_code, 5, (some (.boolean)), (0, 0), 224),
  (⟨"SpanStamps$Span", "greatestOf", "([III)I"⟩, prog_5_method_13_code, 6, (some (.int)), (0, 0), 233),
  (⟨"SpanStamps$Span", "leastOf", "([III)I"⟩, prog_5_method_14_code, 6, (some (.int)), (0, 0), 245),
  (⟨"SpanStamps$Span", "level", "([IIII)V"⟩, prog_5_method_15_code, 6, none, (0, 0), 239),
  (⟨"SpanStamps$Span", "alikeDepth", "([III)I"⟩, prog_5_method_16_code, 4, (some (.int)), (0, 0), 264),
  (⟨"SpanStamps$Stamp", "<init>", "()V"⟩, prog_6_method_1_code, 1, none, (1, 64), 63),
  (⟨"SpanStamps$Stamp", "copyFrom", "(LSpanStamps$Stamp;)V"⟩, prog_6_method_2_code, 2, none, (0, 0), 201),
  (⟨"SpanStamps$Stamp", "learnFrom", "(LSpanStamps$Stamp;)I"⟩, prog_6_method_3_code, 4, (some (.int)), (0, 0), 279),
  (⟨"SpanStamps$Stamp", "compareWith", "(LSpanStamps$Stamp;)I"⟩, prog_6_method_4_code, 5, (some (.int)), (0, 0), 313),
  (⟨"SpanStamps", "<init>", "()V"⟩, prog_1_method_1_code, 2, none, (83, 2754), 48),
  (⟨"SpanStamps", "fork", "(I)I"⟩, prog_1_method_2_code, 6, (some (.int)), (0, 0), 168),
  (⟨"SpanStamps", "peek", "(I)I"⟩, prog_1_method_3_code, 3, (some (.int)), (0, 0), 208),
  (⟨"SpanStamps", "happen", "(I)I"⟩, prog_1_method_4_code, 4, (some (.int)), (0, 0), 212),
  (⟨"SpanStamps", "hear", "(II)I"⟩, prog_1_method_5_code, 5, (some (.int)), (0, 0), 275),
  (⟨"SpanStamps", "join", "(II)I"⟩, prog_1_method_6_code, 5, (some (.int)), (0, 0), 283),
  (⟨"SpanStamps", "share", "(II)I"⟩, prog_1_method_7_code, 7, (some (.int)), (0, 0), 301),
  (⟨"SpanStamps", "drop", "(I)I"⟩, prog_1_method_8_code, 3, (some (.int)), (0, 0), 305),
  (⟨"SpanStamps", "order", "(II)I"⟩, prog_1_method_9_code, 5, (some (.int)), (0, 0), 309),
  (⟨"SpanStamps", "knows", "(II)I"⟩, prog_1_method_10_code, 4, (some (.int)), (0, 0), 317),
  (⟨"SpanStamps", "height", "(II)I"⟩, prog_1_method_11_code, 4, (some (.int)), (0, 0), 321),
  (⟨"SpanStamps", "owner", "(I)I"⟩, prog_1_method_12_code, 4, (some (.int)), (0, 0), 325),
  (⟨"SpanStamps", "name", "(II)I"⟩, prog_1_method_13_code, 4, (some (.int)), (0, 0), 329),
  (⟨"SpanStamps", "tree", "(II)I"⟩, prog_1_method_14_code, 4, (some (.int)), (0, 0), 345),
  (⟨"SpanStamps", "about", "(II)I"⟩, prog_1_method_15_code, 4, (some (.int)), (0, 0), 354),
  (⟨"SpanStamps", "growth", "(II)I"⟩, prog_1_method_16_code, 4, (some (.int)), (0, 0), 364),
  (⟨"SpanStamps", "unlike", "(I)I"⟩, prog_1_method_17_code, 2, (some (.int)), (0, 0), 368),
  (⟨"SpanStamps", "image", "(I)I"⟩, prog_1_method_18_code, 2, (some (.int)), (0, 0), 397),
  (⟨"SpanStamps", "restore", "(I)I"⟩, prog_1_method_19_code, 2, (some (.int)), (0, 0), 405),
  (⟨"SpanStamps", "count", "(I)I"⟩, prog_1_method_20_code, 2, (some (.int)), (0, 0), 409),
  (⟨"SpanStamps", "writeName", "(LSpanStamps$Row;JII)V"⟩, prog_1_method_21_code, 7, none, (0, 0), 332),
  (⟨"SpanStamps", "writeHeights", "(LSpanStamps$Row;[IIII)V"⟩, prog_1_method_22_code, 6, none, (0, 0), 348),
  (⟨"SpanStampsModel", "<init>", "()V"⟩, prog_8_method_1_code, 1, none, (15, 2896), 415),
  (⟨"SpanStampsModel", "in", "(III)Z"⟩, prog_8_method_2_code, 3, (some (.boolean)), (0, 0), 485),
  (⟨"SpanStampsModel", "isStamp", "(I)Z"⟩, prog_8_method_3_code, 2, (some (.boolean)), (0, 0), 482),
  (⟨"SpanStampsModel", "has", "(JI)Z"⟩, prog_8_method_4_code, 3, (some (.boolean)), (0, 0), 491),
  (⟨"SpanStampsModel", "bits", "(J)I"⟩, prog_8_method_5_code, 4, (some (.int)), (0, 0), 488),
  (⟨"SpanStampsModel", "many", "()I"⟩, prog_8_method_6_code, 3, (some (.int)), (0, 0), 595),
  (⟨"SpanStampsModel", "free", "()I"⟩, prog_8_method_7_code, 3, (some (.int)), (0, 0), 499),
  (⟨"SpanStampsModel", "depthOf", "(I)I"⟩, prog_8_method_8_code, 2, (some (.int)), (0, 0), 519),
  (⟨"SpanStampsModel", "sizeOf", "(I)I"⟩, prog_8_method_9_code, 1, (some (.int)), (0, 0), 516),
  (⟨"SpanStampsModel", "beginOf", "(I)I"⟩, prog_8_method_10_code, 1, (some (.int)), (0, 0), 522),
  (⟨"SpanStampsModel", "cellsOf", "(I)J"⟩, prog_8_method_11_code, 4, (some (.long)), (0, 0), 513),
  (⟨"SpanStampsModel", "liesIn", "(IJ)Z"⟩, prog_8_method_12_code, 3, (some (.boolean)), (0, 0), 557),
  (⟨"SpanStampsModel", "leastSpan", "(J)I"⟩, prog_8_method_13_code, 4, (some (.int)), (0, 0), 510),
  (⟨"SpanStampsModel", "copyHeights", "(II)V"⟩, prog_8_method_14_code, 4, none, (0, 0), 503),
  (⟨"SpanStampsModel", "part", "(JII)V"⟩, prog_8_method_15_code, 7, none, (0, 0), 507),
  (⟨"SpanStampsModel", "add", "(I)I"⟩, prog_8_method_16_code, 3, (some (.int)), (0, 0), 495),
  (⟨"SpanStampsModel", "fork", "(I)I"⟩, prog_8_method_17_code, 3, (some (.int)), (0, 0), 478),
  (⟨"SpanStampsModel", "peek", "(I)I"⟩, prog_8_method_18_code, 3, (some (.int)), (0, 0), 526),
  (⟨"SpanStampsModel", "leastIn", "(I)I"⟩, prog_8_method_19_code, 4, (some (.int)), (0, 0), 550),
  (⟨"SpanStampsModel", "greatestIn", "(I)I"⟩, prog_8_method_20_code, 4, (some (.int)), (0, 0), 554),
  (⟨"SpanStampsModel", "areAlike", "(I)Z"⟩, prog_8_method_21_code, 2, (some (.boolean)), (0, 0), 546),
  (⟨"SpanStampsModel", "level", "(II)V"⟩, prog_8_method_22_code, 4, none, (0, 0), 561),
  (⟨"SpanStampsModel", "look", "(I)V"⟩, prog_8_method_23_code, 3, none, (0, 0), 534),
  (⟨"SpanStampsModel", "wayOf", "(IJ)I"⟩, prog_8_method_24_code, 4, (some (.int)), (0, 0), 542),
  (⟨"SpanStampsModel", "greater", "(II)I"⟩, prog_8_method_25_code, 2, (some (.int)), (0, 0), 564),
  (⟨"SpanStampsModel", "fill", "(J)V"⟩, prog_8_method_26_code, 5, none, (0, 0), 538),
  (⟨"SpanStampsModel", "changed", "(I)I"⟩, prog_8_method_27_code, 4, (some (.int)), (0, 0), 568),
  (⟨"SpanStampsModel", "isPiece", "(IJ)Z"⟩, prog_8_method_28_code, 3, (some (.boolean)), (0, 0), 575),
  (⟨"SpanStampsModel", "costOf", "(I)I"⟩, prog_8_method_29_code, 4, (some (.int)), (0, 0), 579),
  (⟨"SpanStampsModel", "piece", "(J)I"⟩, prog_8_method_30_code, 5, (some (.int)), (0, 0), 572),
  (⟨"SpanStampsModel", "happen", "(I)I"⟩, prog_8_method_31_code, 3, (some (.int)), (0, 0), 530),
  (⟨"SpanStampsModel", "heard", "(II)I"⟩, prog_8_method_32_code, 5, (some (.int)), (0, 0), 587),
  (⟨"SpanStampsModel", "hear", "(II)I"⟩, prog_8_method_33_code, 3, (some (.int)), (0, 0), 583),
  (⟨"SpanStampsModel", "join", "(II)I"⟩, prog_8_method_34_code, 3, (some (.int)), (0, 0), 591),
  (⟨"SpanStampsModel", "share", "(II)I"⟩, prog_8_method_35_code, 5, (some (.int)), (0, 0), 599),
  (⟨"SpanStampsModel", "drop", "(I)I"⟩, prog_8_method_36_code, 2, (some (.int)), (0, 0), 603),
  (⟨"SpanStampsModel", "orderOf", "(II)I"⟩, prog_8_method_37_code, 6, (some (.int)), (0, 0), 611),
  (⟨"SpanStampsModel", "order", "(II)I"⟩, prog_8_method_38_code, 3, (some (.int)), (0, 0), 607),
  (⟨"SpanStampsModel", "knows", "(II)I"⟩, prog_8_method_39_code, 3, (some (.int)), (0, 0), 615),
  (⟨"SpanStampsModel", "height", "(II)I"⟩, prog_8_method_40_code, 3, (some (.int)), (0, 0), 619),
  (⟨"SpanStampsModel", "owner", "(I)I"⟩, prog_8_method_41_code, 4, (some (.int)), (0, 0), 623),
  (⟨"SpanStampsModel", "tell", "(I)V"⟩, prog_8_method_42_code, 2, none, (0, 0), 639),
  (⟨"SpanStampsModel", "await", "(II)V"⟩, prog_8_method_43_code, 3, none, (0, 0), 635),
  (⟨"SpanStampsModel", "layName", "(J)V"⟩, prog_8_method_44_code, 6, none, (0, 0), 631),
  (⟨"SpanStampsModel", "layTree", "(I)V"⟩, prog_8_method_45_code, 6, none, (0, 0), 651),
  (⟨"SpanStampsModel", "told", "(I)I"⟩, prog_8_method_46_code, 2, (some (.int)), (0, 0), 643),
  (⟨"SpanStampsModel", "name", "(II)I"⟩, prog_8_method_47_code, 3, (some (.int)), (0, 0), 627),
  (⟨"SpanStampsModel", "tree", "(II)I"⟩, prog_8_method_48_code, 3, (some (.int)), (0, 0), 647),
  (⟨"SpanStampsModel", "pieces", "(J)I"⟩, prog_8_method_49_code, 4, (some (.int)), (0, 0), 658),
  (⟨"SpanStampsModel", "about", "(II)I"⟩, prog_8_method_50_code, 3, (some (.int)), (0, 0), 655),
  (⟨"SpanStampsModel", "growth", "(II)I"⟩, prog_8_method_51_code, 5, (some (.int)), (0, 0), 662),
  (⟨"SpanStampsModel", "isFirst", "(IZ)Z"⟩, prog_8_method_52_code, 5, (some (.boolean)), (0, 0), 674),
  (⟨"SpanStampsModel", "isBeforeNone", "(I)Z"⟩, prog_8_method_53_code, 4, (some (.boolean)), (0, 0), 670),
  (⟨"SpanStampsModel", "unlike", "(I)I"⟩, prog_8_method_54_code, 4, (some (.int)), (0, 0), 666),
  (⟨"SpanStampsModel", "image", "(I)I"⟩, prog_8_method_55_code, 3, (some (.int)), (0, 0), 678),
  (⟨"SpanStampsModel", "restore", "(I)I"⟩, prog_8_method_56_code, 3, (some (.int)), (0, 0), 682),
  (⟨"SpanStampsModel", "numbers", "()I"⟩, prog_8_method_57_code, 3, (some (.int)), (0, 0), 690),
  (⟨"SpanStampsModel", "count", "(I)I"⟩, prog_8_method_58_code, 2, (some (.int)), (0, 0), 686),
  (⟨"java/lang/Integer", "bitCount", "(I)I"⟩, prog_9_method_49_code, 1, (some (.int)), (0, 0), 294),
  (⟨"java/lang/Long", "bitCount", "(J)I"⟩, prog_10_method_50_code, 2, (some (.int)), (0, 0), 175),
  (⟨"SpanStampsLaw", "law", "([I)Z"⟩, code, 4, some .boolean, (600000, 7302250), 0)]
def mD : MethodName × ByteArray × Nat × Option FieldType × (Nat × Nat) × Nat := (⟨"", "", ""⟩, ByteArray.empty, 0, none, (0, 0), 0)
def mG (k : Nat) : MethodName × ByteArray × Nat × Option FieldType × (Nat × Nat) × Nat := mInf.getD k mD
def mT (k : Nat) : Nat → Option ab_E := ab_fd (mTab.getD k [])
def mY (k : Nat) : MethodName := (mG k).1
def mC (k : Nat) : ByteArray := (mG k).2.1
def mL (k : Nat) : Nat := (mG k).2.2.1
def mR (k : Nat) : Option FieldType := (mG k).2.2.2.1
def mB (k : Nat) : Nat × Nat := (mG k).2.2.2.2.1
def mP (k : Nat) : Nat := (mG k).2.2.2.2.2
abbrev mN : Nat := 123
abbrev kCircle_init : Nat := 0
abbrev kCircle_find : Nat := 1
abbrev kCircle_addLike : Nat := 2
abbrev kCircle_numbersInUse : Nat := 3
abbrev kCircle_howMany : Nat := 4
abbrev kCircle_copyFrom : Nat := 5
abbrev kCircle_countUnevenStamps : Nat := 6
abbrev kCircle_isEvenWithEarlier : Nat := 7
abbrev kCircle_countUnlikeNames : Nat := 8
abbrev kCircle_isNamedAsEarlier : Nat := 9
abbrev kCircle_countBeforeNone : Nat := 10
abbrev kCircle_isBeforeAny : Nat := 11
abbrev kForecast_init : Nat := 12
abbrev kForecast_lookAt : Nat := 13
abbrev kForecast_fill : Nat := 14
abbrev kForecast_lift : Nat := 15
abbrev kForecast_countChanges : Nat := 16
abbrev kForecast_choosePiece : Nat := 17
abbrev kForecast_raisePiece : Nat := 18
abbrev kRow_init : Nat := 19
abbrev kRow_add : Nat := 20
abbrev kRow_tell : Nat := 21
abbrev kSpan_sizeOf : Nat := 22
abbrev kSpan_cellsOf : Nat := 23
abbrev kSpan_upperFirst : Nat := 24
abbrev kSpan_firstAround : Nat := 25
abbrev kSpan_liesIn : Nat := 26
abbrev kSpan_depthAround : Nat := 27
abbrev kSpan_lowerPart : Nat := 28
abbrev kSpan_lowestCell : Nat := 29
abbrev kSpan_countPieces : Nat := 30
abbrev kSpan_pieceDepth : Nat := 31
abbrev kSpan_isAlike : Nat := 32
abbrev kSpan_greatestOf : Nat := 33
abbrev kSpan_leastOf : Nat := 34
abbrev kSpan_level : Nat := 35
abbrev kSpan_alikeDepth : Nat := 36
abbrev kStamp_init : Nat := 37
abbrev kStamp_copyFrom : Nat := 38
abbrev kStamp_learnFrom : Nat := 39
abbrev kStamp_compareWith : Nat := 40
abbrev kSpanStamps_init : Nat := 41
abbrev kSpanStamps_fork : Nat := 42
abbrev kSpanStamps_peek : Nat := 43
abbrev kSpanStamps_happen : Nat := 44
abbrev kSpanStamps_hear : Nat := 45
abbrev kSpanStamps_join : Nat := 46
abbrev kSpanStamps_share : Nat := 47
abbrev kSpanStamps_drop : Nat := 48
abbrev kSpanStamps_order : Nat := 49
abbrev kSpanStamps_knows : Nat := 50
abbrev kSpanStamps_height : Nat := 51
abbrev kSpanStamps_owner : Nat := 52
abbrev kSpanStamps_name : Nat := 53
abbrev kSpanStamps_tree : Nat := 54
abbrev kSpanStamps_about : Nat := 55
abbrev kSpanStamps_growth : Nat := 56
abbrev kSpanStamps_unlike : Nat := 57
abbrev kSpanStamps_image : Nat := 58
abbrev kSpanStamps_restore : Nat := 59
abbrev kSpanStamps_count : Nat := 60
abbrev kSpanStamps_writeName : Nat := 61
abbrev kSpanStamps_writeHeights : Nat := 62
abbrev kSpanStampsModel_init : Nat := 63
abbrev kSpanStampsModel_in : Nat := 64
abbrev kSpanStampsModel_isStamp : Nat := 65
abbrev kSpanStampsModel_has : Nat := 66
abbrev kSpanStampsModel_bits : Nat := 67
abbrev kSpanStampsModel_many : Nat := 68
abbrev kSpanStampsModel_free : Nat := 69
abbrev kSpanStampsModel_depthOf : Nat := 70
abbrev kSpanStampsModel_sizeOf : Nat := 71
abbrev kSpanStampsModel_beginOf : Nat := 72
abbrev kSpanStampsModel_cellsOf : Nat := 73
abbrev kSpanStampsModel_liesIn : Nat := 74
abbrev kSpanStampsModel_leastSpan : Nat := 75
abbrev kSpanStampsModel_copyHeights : Nat := 76
abbrev kSpanStampsModel_part : Nat := 77
abbrev kSpanStampsModel_add : Nat := 78
abbrev kSpanStampsModel_fork : Nat := 79
abbrev kSpanStampsModel_peek : Nat := 80
abbrev kSpanStampsModel_leastIn : Nat := 81
abbrev kSpanStampsModel_greatestIn : Nat := 82
abbrev kSpanStampsModel_areAlike : Nat := 83
abbrev kSpanStampsModel_level : Nat := 84
abbrev kSpanStampsModel_look : Nat := 85
abbrev kSpanStampsModel_wayOf : Nat := 86
abbrev kSpanStampsModel_greater : Nat := 87
abbrev kSpanStampsModel_fill : Nat := 88
abbrev kSpanStampsModel_changed : Nat := 89
abbrev kSpanStampsModel_isPiece : Nat := 90
abbrev kSpanStampsModel_costOf : Nat := 91
abbrev kSpanStampsModel_piece : Nat := 92
abbrev kSpanStampsModel_happen : Nat := 93
abbrev kSpanStampsModel_heard : Nat := 94
abbrev kSpanStampsModel_hear : Nat := 95
abbrev kSpanStampsModel_join : Nat := 96
abbrev kSpanStampsModel_share : Nat := 97
abbrev kSpanStampsModel_drop : Nat := 98
abbrev kSpanStampsModel_orderOf : Nat := 99
abbrev kSpanStampsModel_order : Nat := 100
abbrev kSpanStampsModel_knows : Nat := 101
abbrev kSpanStampsModel_height : Nat := 102
abbrev kSpanStampsModel_owner : Nat := 103
abbrev kSpanStampsModel_tell : Nat := 104
abbrev kSpanStampsModel_await : Nat := 105
abbrev kSpanStampsModel_layName : Nat := 106
abbrev kSpanStampsModel_layTree : Nat := 107
abbrev kSpanStampsModel_told : Nat := 108
abbrev kSpanStampsModel_name : Nat := 109
abbrev kSpanStampsModel_tree : Nat := 110
abbrev kSpanStampsModel_pieces : Nat := 111
abbrev kSpanStampsModel_about : Nat := 112
abbrev kSpanStampsModel_growth : Nat := 113
abbrev kSpanStampsModel_isFirst : Nat := 114
abbrev kSpanStampsModel_isBeforeNone : Nat := 115
abbrev kSpanStampsModel_unlike : Nat := 116
abbrev kSpanStampsModel_image : Nat := 117
abbrev kSpanStampsModel_restore : Nat := 118
abbrev kSpanStampsModel_numbers : Nat := 119
abbrev kSpanStampsModel_count : Nat := 120
abbrev kInteger_bitCount : Nat := 121
abbrev kLong_bitCount : Nat := 122
abbrev kSpanStampsLaw_law : Nat := 123
end
section
/-! what the tables of code must keep, decided by program -/
def ok_at (p : Nat) (w : Cond) : Bool := decide (lw_tbl[p]? = some w)
theorem ok_at.mem {p : Nat} {w : Cond} (h : ok_at p w = true) : w ∈ lw_tbl := List.mem_of_getElem? (of_decide_eq_true h)
/-- the words that stay good on the way -/
def lw_good : List Cond := lw_tbl.filter goodWord
theorem ok_at.use {p : Nat} {w : Cond} {args : Array Value} {s : State} (h : ok_at p w = true) (hts : ∀ w ∈ lw_good, w.before args s = true) (hg : goodWord w = true) : w.before args s = true := hts w (List.mem_filter.mpr ⟨ok_at.mem h, hg⟩)
def ok_ft (t : Nat) (d : String) : Bool := match t with
  | 0 => decide (d = "I")
  | 1 => decide (d = "Z")
  | 2 => decide (d = "J")
  | 3 => match parseFieldDescriptor d with
    | some (.object _) => true
    | some (.array _) => true
    | _ => false
  | _ => false
def ok_tag (t : Nat) : Option String := match t with
  | 3 => some RX4
  | 4 => some RX0
  | _ => none
def ok_i (k pc : Nat) (i : Instr) (au : List Nat) : Bool := match i with
  | .iconst v => decide (Int32.ofInt v = ab_ki au)
  | .bipush v => decide ((Int8.ofInt v).toInt32 = ab_ki au)
  | .sipush v => decide ((Int16.ofInt v).toInt32 = ab_ki au)
  | .lconst v => decide (Int64.ofNat v = ab_kl au)
  | .iinc _ v => decide (Int32.ofInt v = ab_ki au)
  | .ldc_w ix => match au with
    | [c, p] => ok_at p (.constant (mY k).cls ix (ab_ki [c]))
    | _ => false
  | .ldc2_w ix => match au with
    | [c, z, p] => ok_at p (.constantLong (mY k).cls ix (ab_kl [c, z, p]))
    | _ => false
  | .goto o => match au with
    | [t] => decide ((pc : Int) + o = (t : Int))
    | _ => false
  | .ifnull o => match au with
    | [t] => decide ((pc : Int) + o = (t : Int))
    | _ => false
  | .ifnonnull o => match au with
    | [t] => decide ((pc : Int) + o = (t : Int))
    | _ => false
  | .ifCond _ o => match au with
    | [t] => decide ((pc : Int) + o = (t : Int))
    | _ => false
  | .if_icmp _ o => match au with
    | [t] => decide ((pc : Int) + o = (t : Int))
    | _ => false
  | .tableswitch d _ _ offs => match au with
    | t :: ts => decide ((pc : Int) + d = (t : Int)) && decide (offs.toList.map (fun o => (pc : Int) + o) = ts.map (fun (t : Nat) => (t : Int)))
    | _ => false
  | .getfield ix => match au with
    | [ci, f, p] => match vwCl[ci]? with
      | some r => Nat.blt f r.2.2 && ok_at p (.fieldLink (mY k).cls ix (r.2.1 f).1 (r.2.1 f).2.1 (r.2.1 f).2.2.1)
      | none => false
    | _ => false
  | .putfield ix => match au with
    | [ci, f, t, z, p] => match vwCl[ci]? with
      | some r => Nat.blt f r.2.2 && (ok_at p (.fieldLink (mY k).cls ix (r.2.1 f).1 (r.2.1 f).2.1 (r.2.1 f).2.2.1) && (ok_ft t (r.2.1 f).2.2.1 && (decide ((r.2.1 f).2.2.2 = Nat.beq z 1) && (!(Nat.beq z 1) || (decide ((mY k).name = "<init>") && decide ((r.2.1 f).1 = (mY k).cls))))))
      | none => false
    | _ => false
  | .new ix => match au with
    | [ci, n, p1, p2, p3] => match vwCl[ci]? with
      | some r => Nat.beq n r.2.2 && (ok_at p1 (.classLink (mY k).cls ix r.1) && (ok_at p2 (.instantiable r.1 n) && ok_at p3 (.initialized r.1)))
      | none => false
    | _ => false
  | .newarray t => match au with
    | [g, p] => ok_at p (.arrayClass (newarray.typeOf t)) && (match g with
      | 0 => decide (newarray.typeOf t = .int)
      | 1 => decide (newarray.typeOf t = .long)
      | 2 => decide (newarray.typeOf t = .boolean)
      | _ => false)
    | _ => false
  | .anewarray ix => match au with
    | [g, p1, p2] => match ok_tag g with
      | some C => ok_at p1 (.classLink (mY k).cls ix C) && ok_at p2 (.arrayOver (.object C))
      | none => false
    | _ => false
  | .invokestatic ix => match au with
    | [0, k', n, p1, p2, p3] => Nat.blt k' mN && (decide ((parseMethodDescriptor (mY k').desc).map (fun d => d.parameters.length) = some n) && (ok_at p1 (.methodLink (mY k).cls ix (mY k')) && (ok_at p2 (.static (mY k')) && ok_at p3 (.initialized (mY k').cls))))
    | [1, p1, p2, p3, p4] => ok_at p1 (.methodLink (mY k).cls ix arraycopyName) && (ok_at p2 (.native arraycopyName) && (ok_at p3 (.static arraycopyName) && ok_at p4 (.initialized "java/lang/System")))
    | [2, p1, p2, p3, p4] => ok_at p1 (.methodLink (mY k).cls ix Lib.Math.max.name) && (ok_at p2 (.static Lib.Math.max.name) && (ok_at p3 (.initialized "java/lang/Math") && ok_at p4 (.code Lib.Math.max.name Lib.Math.max.code 2 (some .int))))
    | [3, p1, p2, p3, p4] => ok_at p1 (.methodLink (mY k).cls ix Lib.Math.min.name) && (ok_at p2 (.static Lib.Math.min.name) && (ok_at p3 (.initialized "java/lang/Math") && ok_at p4 (.code Lib.Math.min.name Lib.Math.min.code 2 (some .int))))
    | _ => false
  | .invokevirtual ix => match au with
    | [k', n, ci, p1, p2, p3, p4] => match vwCl[ci]? with
      | some r => Nat.blt k' mN && (decide ((mY k').cls = r.1) && (decide ((parseMethodDescriptor (mY k').desc).map (fun d => d.parameters.length) = some n) && (ok_at p1 (.methodLink (mY k).cls ix (mY k')) && (ok_at p2 (.instanceMethod (mY k')) && (ok_at p3 (.selects r.1 (mY k') (mY k')) && ok_at p4 (.initialized (mY k').cls))))))
      | none => false
    | _ => false
  | .invokespecial ix => match au with
    | [0, k', n, z, p1, p2, p3] => Nat.blt k' mN && (decide ((mY k').name = "<init>" ∧ mR k' = none) && (decide ((parseMethodDescriptor (mY k').desc).map (fun d => d.parameters.length) = some n) && ((match z with
      | 0 => ok_at p1 (.methodLink (mY k).cls ix (mY k'))
      | _ => ok_at p1 (.methodLinkNest (mY k).cls ix (mY k') "SpanStamps")) && (ok_at p2 (.instanceMethod (mY k')) && ok_at p3 (.initialized (mY k').cls)))))
    | [1, p1, p2, p3] => ok_at p1 (.methodLink (mY k).cls ix objectInit) && (ok_at p2 (.instanceMethod objectInit) && ok_at p3 (.code objectInit ⟨#[0xb1]⟩ 1 none))
    | _ => false
  | .lreturn => decide (mR k = some .long)
  | .areturn => match mR k with
    | some (.object _) => true
    | _ => false
  | .return_ => decide (mR k = none)
  | _ => true
def ab_ln (i : Instr) (n : Nat) : Bool := match i with
  | .bipush _ => Nat.beq n 2
  | .iload _ => Nat.beq n 2
  | .lload _ => Nat.beq n 2
  | .aload _ => Nat.beq n 2
  | .istore _ => Nat.beq n 2
  | .lstore _ => Nat.beq n 2
  | .astore _ => Nat.beq n 2
  | .newarray _ => Nat.beq n 2
  | .sipush _ => Nat.beq n 3
  | .ldc_w _ => Nat.beq n 3
  | .ldc2_w _ => Nat.beq n 3
  | .iinc _ _ => Nat.beq n 3
  | .goto _ => Nat.beq n 3
  | .ifnull _ => Nat.beq n 3
  | .ifnonnull _ => Nat.beq n 3
  | .ifCond _ _ => Nat.beq n 3
  | .if_icmp _ _ => Nat.beq n 3
  | .getfield _ => Nat.beq n 3
  | .putfield _ => Nat.beq n 3
  | .new _ => Nat.beq n 3
  | .anewarray _ => Nat.beq n 3
  | .invokestatic _ => Nat.beq n 3
  | .invokevirtual _ => Nat.beq n 3
  | .invokespecial _ => Nat.beq n 3
  | .tableswitch _ _ _ _ => true
  | _ => Nat.beq n 1
def ok_e (k : Nat) (e : Nat × ab_E) : Bool := (match decode (mC k) e.1 with
  | .ok (i, n) => decide (i = e.2.1) && (Nat.beq (e.1 + n) e.2.2.1 && ab_ln i n)
  | _ => false) && ok_i k e.1 e.2.1 e.2.2.2
end
section
theorem ok0 : tb0.all (ok_e 0) = true := by decide +kernel
theorem ok1 : tb1.all (ok_e 1) = true := by decide +kernel
theorem ok2 : tb2.all (ok_e 2) = true := by decide +kernel
theorem ok3 : tb3.all (ok_e 3) = true := by decide +kernel
theorem ok4 : tb4.all (ok_e 4) = true := by decide +kernel
theorem ok5 : tb5.all (ok_e 5) = true := by decide +kernel
theorem ok6 : tb6.all (ok_e 6) = true := by decide +kernel
theorem ok7 : tb7.all (ok_e 7) = true := by decide +kernel
theorem ok8 : tb8.all (ok_e 8) = true := by decide +kernel
theorem ok9 : tb9.all (ok_e 9) = true := by decide +kernel
theorem ok10 : tb10.all (ok_e 10) = true := by decide +kernel
theorem ok11 : tb11.all (ok_e 11) = true := by decide +kernel
theorem ok12 : tb12.all (ok_e 12) = true := by decide +kernel
theorem ok13 : tb13.all (ok_e 13) = true := by decide +kernel
theorem ok14 : tb14.all (ok_e 14) = true := by decide +kernel
theorem ok15 : tb15.all (ok_e 15) = true := by decide +kernel
theorem ok16 : tb16.all (ok_e 16) = true := by decide +kernel
theorem ok17 : tb17.all (ok_e 17) = true := by decide +kernel
theorem ok18 : tb18.all (ok_e 18) = true := by decide +kernel
theorem ok19 : tb19.all (ok_e 19) = true := by decide +kernel
theorem ok20 : tb20.all (ok_e 20) = true := by decide +kernel
theorem ok21 : tb21.all (ok_e 21) = true := by decide +kernel
theorem ok22 : tb22.all (ok_e 22) = true := by decide +kernel
theorem ok23 : tb23.all (ok_e 23) = true := by decide +kernel
theorem ok24 : tb24.all (ok_e 24) = true := by decide +kernel
theorem ok25 : tb25.all (ok_e 25) = true := by decide +kernel
theorem ok26 : tb26.all (ok_e 26) = true := by decide +kernel
theorem ok27 : tb27.all (ok_e 27) = true := by decide +kernel
theorem ok28 : tb28.all (ok_e 28) = true := by decide +kernel
theorem ok29 : tb29.all (ok_e 29) = true := by decide +kernel
theorem ok30 : tb30.all (ok_e 30) = true := by decide +kernel
theorem ok31 : tb31.all (ok_e 31) = true := by decide +kernel
theorem ok32 : tb32.all (ok_e 32) = true := by decide +kernel
theorem ok33 : tb33.all (ok_e 33) = true := by decide +kernel
theorem ok34 : tb34.all (ok_e 34) = true := by decide +kernel
theorem ok35 : tb35.all (ok_e 35) = true := by decide +kernel
theorem ok36 : tb36.all (ok_e 36) = true := by decide +kernel
theorem ok37 : tb37.all (ok_e 37) = true := by decide +kernel
theorem ok38 : tb38.all (ok_e 38) = true := by decide +kernel
theorem ok39 : tb39.all (ok_e 39) = true := by decide +kernel
theorem ok40 : tb40.all (ok_e 40) = true := by decide +kernel
theorem ok41 : tb41.all (ok_e 41) = true := by decide +kernel
theorem ok42 : tb42.all (ok_e 42) = true := by decide +kernel
theorem ok43 : tb43.all (ok_e 43) = true := by decide +kernel
theorem ok44 : tb44.all (ok_e 44) = true := by decide +kernel
theorem ok45 : tb45.all (ok_e 45) = true := by decide +kernel
theorem ok46 : tb46.all (ok_e 46) = true := by decide +kernel
theorem ok47 : tb47.all (ok_e 47) = true := by decide +kernel
theorem ok48 : tb48.all (ok_e 48) = true := by decide +kernel
theorem ok49 : tb49.all (ok_e 49) = true := by decide +kernel
theorem ok50 : tb50.all (ok_e 50) = true := by decide +kernel
theorem ok51 : tb51.all (ok_e 51) = true := by decide +kernel
theorem ok52 : tb52.all (ok_e 52) = true := by decide +kernel
theorem ok53 : tb53.all (ok_e 53) = true := by decide +kernel
theorem ok54 : tb54.all (ok_e 54) = true := by decide +kernel
theorem ok55 : tb55.all (ok_e 55) = true := by decide +kernel
theorem ok56 : tb56.all (ok_e 56) = true := by decide +kernel
theorem ok57 : tb57.all (ok_e 57) = true := by decide +kernel
theorem ok58 : tb58.all (ok_e 58) = true := by decide +kernel
theorem ok59 : tb59.all (ok_e 59) = true := by decide +kernel
theorem ok60 : tb60.all (ok_e 60) = true := by decide +kernel
theorem ok61 : tb61.all (ok_e 61) = true := by decide +kernel
theorem ok62 : tb62.all (ok_e 62) = true := by decide +kernel
theorem ok63 : tb63.all (ok_e 63) = true := by decide +kernel
theorem ok64 : tb64.all (ok_e 64) = true := by decide +kernel
theorem ok65 : tb65.all (ok_e 65) = true := by decide +kernel
theorem ok66 : tb66.all (ok_e 66) = true := by decide +kernel
theorem ok67 : tb67.all (ok_e 67) = true := by decide +kernel
theorem ok68 : tb68.all (ok_e 68) = true := by decide +kernel
theorem ok69 : tb69.all (ok_e 69) = true := by decide +kernel
theorem ok70 : tb70.all (ok_e 70) = true := by decide +kernel
theorem ok71 : tb71.all (ok_e 71) = true := by decide +kernel
theorem ok72 : tb72.all (ok_e 72) = true := by decide +kernel
theorem ok73 : tb73.all (ok_e 73) = true := by decide +kernel
theorem ok74 : tb74.all (ok_e 74) = true := by decide +kernel
theorem ok75 : tb75.all (ok_e 75) = true := by decide +kernel
theorem ok76 : tb76.all (ok_e 76) = true := by decide +kernel
theorem ok77 : tb77.all (ok_e 77) = true := by decide +kernel
theorem ok78 : tb78.all (ok_e 78) = true := by decide +kernel
theorem ok79 : tb79.all (ok_e 79) = true := by decide +kernel
theorem ok80 : tb80.all (ok_e 80) = true := by decide +kernel
theorem ok81 : tb81.all (ok_e 81) = true := by decide +kernel
theorem ok82 : tb82.all (ok_e 82) = true := by decide +kernel
theorem ok83 : tb83.all (ok_e 83) = true := by decide +kernel
theorem ok84 : tb84.all (ok_e 84) = true := by decide +kernel
theorem ok85 : tb85.all (ok_e 85) = true := by decide +kernel
theorem ok86 : tb86.all (ok_e 86) = true := by decide +kernel
theorem ok87 : tb87.all (ok_e 87) = true := by decide +kernel
theorem ok88 : tb88.all (ok_e 88) = true := by decide +kernel
theorem ok89 : tb89.all (ok_e 89) = true := by decide +kernel
theorem ok90 : tb90.all (ok_e 90) = true := by decide +kernel
theorem ok91 : tb91.all (ok_e 91) = true := by decide +kernel
theorem ok92 : tb92.all (ok_e 92) = true := by decide +kernel
theorem ok93 : tb93.all (ok_e 93) = true := by decide +kernel
theorem ok94 : tb94.all (ok_e 94) = true := by decide +kernel
theorem ok95 : tb95.all (ok_e 95) = true := by decide +kernel
theorem ok96 : tb96.all (ok_e 96) = true := by decide +kernel
theorem ok97 : tb97.all (ok_e 97) = true := by decide +kernel
theorem ok98 : tb98.all (ok_e 98) = true := by decide +kernel
theorem ok99 : tb99.all (ok_e 99) = true := by decide +kernel
theorem ok100 : tb100.all (ok_e 100) = true := by decide +kernel
theorem ok101 : tb101.all (ok_e 101) = true := by decide +kernel
theorem ok102 : tb102.all (ok_e 102) = true := by decide +kernel
theorem ok103 : tb103.all (ok_e 103) = true := by decide +kernel
theorem ok104 : tb104.all (ok_e 104) = true := by decide +kernel
theorem ok105 : tb105.all (ok_e 105) = true := by decide +kernel
theorem ok106 : tb106.all (ok_e 106) = true := by decide +kernel
theorem ok107 : tb107.all (ok_e 107) = true := by decide +kernel
theorem ok108 : tb108.all (ok_e 108) = true := by decide +kernel
theorem ok109 : tb109.all (ok_e 109) = true := by decide +kernel
theorem ok110 : tb110.all (ok_e 110) = true := by decide +kernel
theorem ok111 : tb111.all (ok_e 111) = true := by decide +kernel
theorem ok112 : tb112.all (ok_e 112) = true := by decide +kernel
theorem ok113 : tb113.all (ok_e 113) = true := by decide +kernel
theorem ok114 : tb114.all (ok_e 114) = true := by decide +kernel
theorem ok115 : tb115.all (ok_e 115) = true := by decide +kernel
theorem ok116 : tb116.all (ok_e 116) = true := by decide +kernel
theorem ok117 : tb117.all (ok_e 117) = true := by decide +kernel
theorem ok118 : tb118.all (ok_e 118) = true := by decide +kernel
theorem ok119 : tb119.all (ok_e 119) = true := by decide +kernel
theorem ok120 : tb120.all (ok_e 120) = true := by decide +kernel
theorem ok121 : tb121.all (ok_e 121) = true := by decide +kernel
theorem ok122 : tb122.all (ok_e 122) = true := by decide +kernel
theorem ok123 : tb123.all (ok_e 123) = true := by decide +kernel
end
section
theorem ok_tab : ∀ k, (mTab.getD k []).all (ok_e k) = true := fun k => match k with
  | 0 => ok0
  | 1 => ok1
  | 2 => ok2
  | 3 => ok3
  | 4 => ok4
  | 5 => ok5
  | 6 => ok6
  | 7 => ok7
  | 8 => ok8
  | 9 => ok9
  | 10 => ok10
  | 11 => ok11
  | 12 => ok12
  | 13 => ok13
  | 14 => ok14
  | 15 => ok15
  | 16 => ok16
  | 17 => ok17
  | 18 => ok18
  | 19 => ok19
  | 20 => ok20
  | 21 => ok21
  | 22 => ok22
  | 23 => ok23
  | 24 => ok24
  | 25 => ok25
  | 26 => ok26
  | 27 => ok27
  | 28 => ok28
  | 29 => ok29
  | 30 => ok30
  | 31 => ok31
  | 32 => ok32
  | 33 => ok33
  | 34 => ok34
  | 35 => ok35
  | 36 => ok36
  | 37 => ok37
  | 38 => ok38
  | 39 => ok39
  | 40 => ok40
  | 41 => ok41
  | 42 => ok42
  | 43 => ok43
  | 44 => ok44
  | 45 => ok45
  | 46 => ok46
  | 47 => ok47
  | 48 => ok48
  | 49 => ok49
  | 50 => ok50
  | 51 => ok51
  | 52 => ok52
  | 53 => ok53
  | 54 => ok54
  | 55 => ok55
  | 56 => ok56
  | 57 => ok57
  | 58 => ok58
  | 59 => ok59
  | 60 => ok60
  | 61 => ok61
  | 62 => ok62
  | 63 => ok63
  | 64 => ok64
  | 65 => ok65
  | 66 => ok66
  | 67 => ok67
  | 68 => ok68
  | 69 => ok69
  | 70 => ok70
  | 71 => ok71
  | 72 => ok72
  | 73 => ok73
  | 74 => ok74
  | 75 => ok75
  | 76 => ok76
  | 77 => ok77
  | 78 => ok78
  | 79 => ok79
  | 80 => ok80
  | 81 => ok81
  | 82 => ok82
  | 83 => ok83
  | 84 => ok84
  | 85 => ok85
  | 86 => ok86
  | 87 => ok87
  | 88 => ok88
  | 89 => ok89
  | 90 => ok90
  | 91 => ok91
  | 92 => ok92
  | 93 => ok93
  | 94 => ok94
  | 95 => ok95
  | 96 => ok96
  | 97 => ok97
  | 98 => ok98
  | 99 => ok99
  | 100 => ok100
  | 101 => ok101
  | 102 => ok102
  | 103 => ok103
  | 104 => ok104
  | 105 => ok105
  | 106 => ok106
  | 107 => ok107
  | 108 => ok108
  | 109 => ok109
  | 110 => ok110
  | 111 => ok111
  | 112 => ok112
  | 113 => ok113
  | 114 => ok114
  | 115 => ok115
  | 116 => ok116
  | 117 => ok117
  | 118 => ok118
  | 119 => ok119
  | 120 => ok120
  | 121 => ok121
  | 122 => ok122
  | 123 => ok123
  | _ + 124 => rfl
set_option maxRecDepth 100000 in
theorem ok_code : ∀ k, k < mN → lw_tbl[mP k]? = some (.code (mY k) (mC k) (mL k) (mR k)) := fun k h => match k, h with
  | 0, _ => rfl
  | 1, _ => rfl
  | 2, _ => rfl
  | 3, _ => rfl
  | 4, _ => rfl
  | 5, _ => rfl
  | 6, _ => rfl
  | 7, _ => rfl
  | 8, _ => rfl
  | 9, _ => rfl
  | 10, _ => rfl
  | 11, _ => rfl
  | 12, _ => rfl
  | 13, _ => rfl
  | 14, _ => rfl
  | 15, _ => rfl
  | 16, _ => rfl
  | 17, _ => rfl
  | 18, _ => rfl
  | 19, _ => rfl
  | 20, _ => rfl
  | 21, _ => rfl
  | 22, _ => rfl
  | 23, _ => rfl
  | 24, _ => rfl
  | 25, _ => rfl
  | 26, _ => rfl
  | 27, _ => rfl
  | 28, _ => rfl
  | 29, _ => rfl
  | 30, _ => rfl
  | 31, _ => rfl
  | 32, _ => rfl
  | 33, _ => rfl
  | 34, _ => rfl
  | 35, _ => rfl
  | 36, _ => rfl
  | 37, _ => rfl
  | 38, _ => rfl
  | 39, _ => rfl
  | 40, _ => rfl
  | 41, _ => rfl
  | 42, _ => rfl
  | 43, _ => rfl
  | 44, _ => rfl
  | 45, _ => rfl
  | 46, _ => rfl
  | 47, _ => rfl
  | 48, _ => rfl
  | 49, _ => rfl
  | 50, _ => rfl
  | 51, _ => rfl
  | 52, _ => rfl
  | 53, _ => rfl
  | 54, _ => rfl
  | 55, _ => rfl
  | 56, _ => rfl
  | 57, _ => rfl
  | 58, _ => rfl
  | 59, _ => rfl
  | 60, _ => rfl
  | 61, _ => rfl
  | 62, _ => rfl
  | 63, _ => rfl
  | 64, _ => rfl
  | 65, _ => rfl
  | 66, _ => rfl
  | 67, _ => rfl
  | 68, _ => rfl
  | 69, _ => rfl
  | 70, _ => rfl
  | 71, _ => rfl
  | 72, _ => rfl
  | 73, _ => rfl
  | 74, _ => rfl
  | 75, _ => rfl
  | 76, _ => rfl
  | 77, _ => rfl
  | 78, _ => rfl
  | 79, _ => rfl
  | 80, _ => rfl
  | 81, _ => rfl
  | 82, _ => rfl
  | 83, _ => rfl
  | 84, _ => rfl
  | 85, _ => rfl
  | 86, _ => rfl
  | 87, _ => rfl
  | 88, _ => rfl
  | 89, _ => rfl
  | 90, _ => rfl
  | 91, _ => rfl
  | 92, _ => rfl
  | 93, _ => rfl
  | 94, _ => rfl
  | 95, _ => rfl
  | 96, _ => rfl
  | 97, _ => rfl
  | 98, _ => rfl
  | 99, _ => rfl
  | 100, _ => rfl
  | 101, _ => rfl
  | 102, _ => rfl
  | 103, _ => rfl
  | 104, _ => rfl
  | 105, _ => rfl
  | 106, _ => rfl
  | 107, _ => rfl
  | 108, _ => rfl
  | 109, _ => rfl
  | 110, _ => rfl
  | 111, _ => rfl
  | 112, _ => rfl
  | 113, _ => rfl
  | 114, _ => rfl
  | 115, _ => rfl
  | 116, _ => rfl
  | 117, _ => rfl
  | 118, _ => rfl
  | 119, _ => rfl
  | 120, _ => rfl
  | 121, _ => rfl
  | 122, _ => rfl
  | k + 123, h => absurd h (show ¬ k + 123 < 123 by omega)
theorem ok_cls : ∀ k, k < mN → (plainName (mY k).cls && (decide ((mY k).cls ≠ "java/lang/invoke/MethodHandle") && (decide ((mY k).cls ≠ "java/lang/invoke/VarHandle") && Nat.ble (mL k) 30))) = true := by decide +kernel
end
section
/-! THE ABSTRACT MACHINE IS SOUND, first part: what its words mean on the machine itself -/
theorem ab_fd.mem {l : List (Nat × ab_E)} {pc : Nat} {e : ab_E} (h : ab_fd l pc = some e) : (pc, e) ∈ l := by
  induction l with
  | nil => cases h
  | cons a r ih =>
    unfold ab_fd at h
    cases hb : Nat.beq a.1 pc with
    | true =>
      rw [hb] at h
      have h1 : a.2 = e := Option.some.inj h
      have h2 : a.1 = pc := Nat.eq_of_beq_eq_true hb
      rw [← h1, ← h2]
      exact List.mem_cons_self
    | false =>
      rw [hb] at h
      exact List.mem_cons_of_mem _ (ih h)
theorem ok_get {k pc nx : Nat} {i : Instr} {au : List Nat} (h : mT k pc = some (i, nx, au)) : ∃ n, decode (mC k) pc = .ok (i, n) ∧ nx = pc + n ∧ ab_ln i n = true ∧ ok_i k pc i au = true := by
  have h1 := List.all_eq_true.mp (ok_tab k) _ (ab_fd.mem h)
  unfold ok_e at h1
  rw [Bool.and_eq_true] at h1
  obtain ⟨h2, h3⟩ := h1
  revert h2
  cases hd : decode (mC k) pc with
  | error x => intro h2; cases h2
  | ok x =>
    obtain ⟨i', n⟩ := x
    intro h2
    simp only [Bool.and_eq_true, decide_eq_true_eq] at h2
    obtain ⟨e1, e2, e3⟩ := h2
    subst e1
    exact ⟨n, rfl, (Nat.eq_of_beq_eq_true e2).symm, e3, h3⟩
def ab_cv (ad : Nat → Nat) (sb : Nat) (v : Value) : Value := match v with
  | .ref a => .ref (ad a)
  | .retAddr 1 => .ref sb
  | v => v
def ab_me (ad : Nat → Nat) (sb : Nat) (dA : Nat → Nat) (e : va_E) : va_E := match e with
  | .inr (ci, fs) => .inr (ci, fs.map (ab_cv ad sb))
  | .inl (t, n, .inr (.inr (.inr (.inr g)))) => .inl (dA t, n, .inr (.inr (.inr (.inr (fun j => (g j).map ad)))))
  | .inl (t, x) => .inl (dA t, x)
def ab_cw (ad : Nat → Nat) (sb : Nat) (dA : Nat → Nat) (h : ab_H) : va_W := h.mapIdx (fun i e => (ad i, ab_me ad sb dA e))
theorem ab_cw_at {ad : Nat → Nat} {sb : Nat} {dA : Nat → Nat} {h : ab_H} {i : Nat} {e : va_E} (hi : h[i]? = some e) : (ab_cw ad sb dA h)[i]? = some (ad i, ab_me ad sb dA e) := by
  simp [ab_cw, List.getElem?_mapIdx, hi]
theorem ab_cw_inv {ad : Nat → Nat} {sb : Nat} {dA : Nat → Nat} {h : ab_H} {i : Nat} {q : Nat × va_E} (hi : (ab_cw ad sb dA h)[i]? = some q) : ∃ e, h[i]? = some e ∧ q = (ad i, ab_me ad sb dA e) := by
  unfold ab_cw at hi
  rw [List.getElem?_mapIdx] at hi
  cases he : h[i]? with
  | none => rw [he] at hi; cases hi
  | some e =>
    rw [he] at hi
    exact ⟨e, rfl, (Option.some.inj hi).symm⟩
theorem ab_cw_len {ad : Nat → Nat} {sb : Nat} {dA : Nat → Nat} {h : ab_H} : (ab_cw ad sb dA h).length = h.length := by simp [ab_cw]
theorem ab_cw_set {ad : Nat → Nat} {sb : Nat} {dA : Nat → Nat} {h : ab_H} {i : Nat} {e : va_E} : (ab_cw ad sb dA h).set i (ad i, ab_me ad sb dA e) = ab_cw ad sb dA (h.set i e) := by
  apply List.ext_getElem?
  intro j
  unfold ab_cw
  rw [List.getElem?_mapIdx, List.getElem?_set, List.getElem?_set]
  by_cases hj : i = j
  · subst hj
    simp only [List.length_mapIdx, if_true]
    by_cases hl : i < h.length
    · simp [hl]
    · simp [hl]
  · simp only [hj, if_false, List.getElem?_mapIdx]
theorem ab_cat (ad : Nat → Nat) (sb : Nat) (v : Value) (hv : v ≠ .retAddr 1) : (ab_cv ad sb v).category = v.category := by
  cases v <;> try rfl
  rename_i n
  match n, hv with
  | 0, _ => rfl
  | 1, h => exact absurd rfl h
  | n + 2, _ => rfl
theorem ab_cat1 (ad : Nat → Nat) (sb : Nat) (v : Value) : (ab_cv ad sb v).category = v.category := by
  by_cases hv : v = .retAddr 1
  · subst hv; rfl
  · exact ab_cat ad sb v hv
theorem ab_ws_map (ad : Nat → Nat) (sb : Nat) (st : List Value) : ((st.map (ab_cv ad sb)).map fun v => v.category).sum = ab_ws st := by
  unfold ab_ws
  rw [List.map_map]
  congr 1
  apply List.map_congr_left
  intro v _
  exact ab_cat1 ad sb v
theorem ab_c2_cat {v : Value} (h : ab_c2 v = false) : v.category = 1 := by
  cases v <;> first | rfl | cases h
/-- the locals -/
def ab_lr (ad : Nat → Nat) (sb : Nat) (lv : List Value) (ls : Array Slot) : Prop := ls.size = lv.length ∧ lv_wf ls ∧ ∀ i, ab_lg lv i ≠ .retAddr 0 → ls[i]? = some (.val (ab_cv ad sb (ab_lg lv i)))
def ab_lp (ad : Nat → Nat) (sb : Nat) (lv : List Value) : List (Nat × Value) := ((List.range lv.length).filter (fun j => decide (ab_lg lv j ≠ .retAddr 0))).map (fun j => (j, ab_cv ad sb (ab_lg lv j)))
theorem ab_lg_big {lv : List Value} : ∀ {i : Nat}, lv.length ≤ i → ab_lg lv i = .retAddr 0 := by
  induction lv with
  | nil => intro i _; cases i <;> rfl
  | cons a r ih =>
    intro i h
    cases i with
    | zero => simp at h
    | succ i => exact ih (Nat.le_of_succ_le_succ h)
theorem ab_lp_mem {ad : Nat → Nat} {sb : Nat} {lv : List Value} {j : Nat} (h : ab_lg lv j ≠ .retAddr 0) : (j, ab_cv ad sb (ab_lg lv j)) ∈ ab_lp ad sb lv := by
  refine List.mem_map.mpr ⟨j, List.mem_filter.mpr ⟨List.mem_range.mpr ?_, decide_eq_true h⟩, rfl⟩
  rcases Nat.lt_or_ge j lv.length with q | q
  · exact q
  · exact absurd (ab_lg_big q) h
theorem ab_lr.has {ad : Nat → Nat} {sb : Nat} {lv : List Value} {ls : Array Slot} (h : ab_lr ad sb lv ls) : lv_has ls lv.length (ab_lp ad sb lv) := by
  refine ⟨h.1, h.2.1, fun q hq => ?_⟩
  obtain ⟨j, hj, rfl⟩ := List.mem_map.mp hq
  exact h.2.2 j (of_decide_eq_true (List.mem_filter.mp hj).2)
theorem ab_ls_len {v : Value} : ∀ {lv : List Value} {i : Nat}, (ab_ls lv i v).length = lv.length := by
  intro lv
  induction lv with
  | nil => intro i; rfl
  | cons a r ih =>
    intro i
    cases i with
    | zero => rfl
    | succ i => simp [ab_ls, ih]
theorem ab_lg_ls {v : Value} : ∀ {lv : List Value} {i j : Nat}, i < lv.length → ab_lg (ab_ls lv i v) j = if j = i then v else ab_lg lv j := by
  intro lv
  induction lv with
  | nil => intro i j h; simp at h
  | cons a r ih =>
    intro i j h
    cases i with
    | zero =>
      cases j with
      | zero => rfl
      | succ j => rfl
    | succ i =>
      cases j with
      | zero => rfl
      | succ j =>
        show ab_lg (ab_ls r i v) j = _
        rw [ih (by simpa using h)]
        simp [ab_lg]
theorem ab_c2_iff {v : Value} : v.category = 2 → ab_c2 v = true := by
  cases v <;> intro h <;> first | rfl | (simp [Value.category] at h)
theorem ab_lr.s1 {ad : Nat → Nat} {sb : Nat} {lv : List Value} {ls' : Array Slot} {i : Nat} {v : Value} (hi : i < lv.length) (hok : ab_lok lv i = true)
    (h : lv_has ls' lv.length ((i, ab_cv ad sb v) :: (ab_lp ad sb lv).filter (fun q => !(q.1 == i) && !(q.1 + 1 == i && q.2.category == 2)))) : ab_lr ad sb (ab_ls lv i v) ls' := by
  refine ⟨by rw [ab_ls_len]; exact h.1, h.2.1, fun j hj => ?_⟩
  rw [ab_lg_ls hi] at hj ⊢
  by_cases hji : j = i
  · subst hji
    rw [if_pos rfl]
    exact h.2.2 _ List.mem_cons_self
  · rw [if_neg hji] at hj ⊢
    refine h.2.2 (j, ab_cv ad sb (ab_lg lv j)) (List.mem_cons_of_mem _ (List.mem_filter.mpr ⟨ab_lp_mem hj, ?_⟩))
    simp only [Bool.and_eq_true, Bool.not_eq_true', beq_eq_false_iff_ne, ne_eq, hji, not_false_eq_true, true_and, Bool.and_eq_false_imp, beq_iff_eq]
    intro h1 h2
    subst h1
    rw [ab_cat1] at h2
    have h3 := ab_c2_iff h2
    simp only [ab_lok, h3] at hok
    cases hok
theorem ab_lr.s2 {ad : Nat → Nat} {sb : Nat} {lv : List Value} {ls' : Array Slot} {i : Nat} {v : Value} (hi : i + 1 < lv.length) (hok : ab_lok lv i = true)
    (h : lv_has ls' lv.length ((i, ab_cv ad sb v) :: (ab_lp ad sb lv).filter (fun q => !(q.1 == i) && (!(q.1 == i + 1) && !(q.1 + 1 == i && q.2.category == 2))))) : ab_lr ad sb (ab_ls (ab_ls lv i v) (i + 1) (.retAddr 0)) ls' := by
  refine ⟨by rw [ab_ls_len, ab_ls_len]; exact h.1, h.2.1, fun j hj => ?_⟩
  rw [ab_lg_ls (by rw [ab_ls_len]; exact hi)] at hj ⊢
  by_cases hj1 : j = i + 1
  · rw [if_pos hj1] at hj
    exact absurd rfl hj
  · rw [if_neg hj1] at hj ⊢
    rw [ab_lg_ls (by omega)] at hj ⊢
    by_cases hji : j = i
    · subst hji
      rw [if_pos rfl]
      exact h.2.2 _ List.mem_cons_self
    · rw [if_neg hji] at hj ⊢
      refine h.2.2 (j, ab_cv ad sb (ab_lg lv j)) (List.mem_cons_of_mem _ (List.mem_filter.mpr ⟨ab_lp_mem hj, ?_⟩))
      simp only [Bool.and_eq_true, Bool.not_eq_true', beq_eq_false_iff_ne, ne_eq, hji, hj1, not_false_eq_true, true_and, Bool.and_eq_false_imp, beq_iff_eq]
      intro h1 h2
      subst h1
      rw [ab_cat1] at h2
      have h3 := ab_c2_iff h2
      simp only [ab_lok, h3] at hok
      cases hok
theorem ab_lg_nil (i : Nat) : ab_lg [] i = .retAddr 0 := by cases i <;> rfl
theorem ab_lg_rep : ∀ (n i : Nat), ab_lg (List.replicate n (.retAddr 0)) i = .retAddr 0 := by
  intro n
  induction n with
  | zero => exact ab_lg_nil
  | succ n ih =>
    intro i
    cases i with
    | zero => rfl
    | succ i => exact ih i
theorem ab_lv_args (ad : Nat → Nat) (sb : Nat) : ∀ (av : List Value) (n o j : Nat), ab_lg (ab_lv n av) j ≠ .retAddr 0 → (o + j, ab_cv ad sb (ab_lg (ab_lv n av) j)) ∈ lv_args o (av.map (ab_cv ad sb)) := by
  intro av
  induction av with
  | nil =>
    intro n o j h
    exact absurd (ab_lg_rep n j) h
  | cons v vs ih =>
    intro n o j h
    unfold ab_lv at h ⊢
    cases hc : ab_c2 v with
    | true =>
      rw [hc] at h
      have hcat : (ab_cv ad sb v).category = 2 := by rw [ab_cat1]; cases v <;> first | rfl | cases hc
      show _ ∈ (o, ab_cv ad sb v) :: lv_args (if (ab_cv ad sb v).category = 2 then o + 2 else o + 1) (vs.map (ab_cv ad sb))
      rw [if_pos hcat]
      match j, h with
      | 0, _ => exact List.mem_cons_self
      | 1, h => exact absurd rfl h
      | j + 2, h =>
        have h1 := ih (n - 2) (o + 2) j h
        rw [show o + 2 + j = o + (j + 2) by omega] at h1
        exact List.mem_cons_of_mem _ h1
    | false =>
      rw [hc] at h
      have hcat : ¬ (ab_cv ad sb v).category = 2 := by rw [ab_cat1, ab_c2_cat hc]; decide
      show _ ∈ (o, ab_cv ad sb v) :: lv_args (if (ab_cv ad sb v).category = 2 then o + 2 else o + 1) (vs.map (ab_cv ad sb))
      rw [if_neg hcat]
      match j, h with
      | 0, _ => exact List.mem_cons_self
      | j + 1, h =>
        have h1 := ih (n - 1) (o + 1) j h
        rw [show o + 1 + j = o + (j + 1) by omega] at h1
        exact List.mem_cons_of_mem _ h1
theorem ab_lv_len : ∀ (av : List Value) (n : Nat), ab_ws av ≤ n → (ab_lv n av).length = n := by
  intro av
  induction av with
  | nil => intro n _; simp [ab_lv]
  | cons v vs ih =>
    intro n h
    have h2 : v.category + ab_ws vs ≤ n := by simpa [ab_ws] using h
    unfold ab_lv
    cases hc : ab_c2 v with
    | true =>
      have hcat : v.category = 2 := by cases v <;> first | rfl | cases hc
      have := ih (n - 2) (by omega)
      show (ab_lv (n - 2) vs).length + 1 + 1 = n
      omega
    | false =>
      have hcat := ab_c2_cat hc
      have := ih (n - 1) (by omega)
      show (ab_lv (n - 1) vs).length + 1 = n
      omega
theorem ab_sl_len (vs : List Value) : (lg_sl vs).length = ab_ws vs := by
  induction vs with
  | nil => rfl
  | cons v vs ih =>
    have e : lg_sl (v :: vs) = (if v.category = 2 then [.val v, .second] else [.val v]) ++ lg_sl vs := rfl
    rw [e, List.length_append, ih]
    have e2 : ab_ws (v :: vs) = v.category + ab_ws vs := by simp [ab_ws]
    rw [e2]
    rcases lv_cat v with h | h
    · rw [if_neg (by omega), h]; rfl
    · rw [if_pos h, h]; rfl
theorem ab_lr.entry (ad : Nat → Nat) (sb : Nat) {av : List Value} {n : Nat} (h : ab_ws av ≤ n) :
    ab_lr ad sb (ab_lv n av) ((lg_sl (av.map (ab_cv ad sb)) ++ List.replicate (n - (lg_sl (av.map (ab_cv ad sb))).length) Slot.unset).toArray) := by
  have hw : ab_ws (av.map (ab_cv ad sb)) = ab_ws av := ab_ws_map ad sb av
  have h1 := lv_entry (av.map (ab_cv ad sb)) (n := n) (by rw [ab_sl_len, hw]; exact h)
  refine ⟨by rw [ab_lv_len av n h]; exact h1.1, h1.2.1, fun j hj => ?_⟩
  have h2 := ab_lv_args ad sb av n 0 j hj
  rw [Nat.zero_add] at h2
  exact h1.2.2 _ h2
/-- the world -/
def ab_tys (dA : Nat → Nat) : List (ClassId × FieldType) := [(dA 0, .int), (dA 1, .long), (dA 2, .boolean), (dA 3, .object RX4), (dA 4, .object RX0)]
def ab_wd (D : va_G) (dA : Nat → Nat) (sb : Nat) (A : Nat → Prop) (ad : Nat → Nat) (h : ab_H) (H : Heap) : Prop := va_P D vwCl (ab_cw ad sb dA h) H ∧ va_D A (ab_cw ad sb dA h)
theorem ab_cv_ra (ad ad' : Nat → Nat) (sb : Nat) : ∀ n : Nat, ab_cv ad' sb (.retAddr n) = ab_cv ad sb (.retAddr n)
  | 0 => rfl
  | 1 => rfl
  | _ + 2 => rfl
theorem ab_cv_ext {ad ad' : Nat → Nat} {sb n : Nat} (he : ∀ i, i < n → ad' i = ad i) {v : Value} (h : ab_cl n v = true) : ab_cv ad' sb v = ab_cv ad sb v := by
  cases v with
  | ref a =>
    show Value.ref (ad' a) = Value.ref (ad a)
    rw [he a (Nat.le_of_ble_eq_true h)]
  | retAddr k => exact ab_cv_ra ad ad' sb k
  | _ => rfl
theorem ab_map_ext {ad ad' : Nat → Nat} {sb n : Nat} (he : ∀ i, i < n → ad' i = ad i) {st : List Value} (h : st.all (ab_cl n) = true) : st.map (ab_cv ad' sb) = st.map (ab_cv ad sb) :=
  List.map_congr_left fun v hv => ab_cv_ext he (List.all_eq_true.mp h v hv)
theorem ab_lg_cl {n : Nat} {lv : List Value} (h : lv.all (ab_cl n) = true) (i : Nat) : ab_cl n (ab_lg lv i) = true := by
  induction lv generalizing i with
  | nil => rw [ab_lg_nil]; rfl
  | cons a r ih =>
    rw [List.all_cons, Bool.and_eq_true] at h
    cases i with
    | zero => exact h.1
    | succ i => exact ih h.2 i
theorem ab_lr.ext {ad ad' : Nat → Nat} {sb n : Nat} (he : ∀ i, i < n → ad' i = ad i) {lv : List Value} {ls : Array Slot} (hc : lv.all (ab_cl n) = true) (h : ab_lr ad sb lv ls) : ab_lr ad' sb lv ls :=
  ⟨h.1, h.2.1, fun i hi => by rw [ab_cv_ext he (ab_lg_cl hc i)]; exact h.2.2 i hi⟩
theorem ab_arrV_congr {cA : ClassId} {n : Nat} {f g : Nat → Value} (h : ∀ j, j < n → f j = g j) : arrV cA n f = arrV cA n g := by
  unfold arrV
  congr 1
  congr 1
  funext j
  exact h j.val j.isLt
theorem ab_at_ext {D : va_G} {cl : List vw_C} {dA : Nat → Nat} {ad ad' : Nat → Nat} {sb n a : Nat} {H : Heap} (he : ∀ i, i < n → ad' i = ad i) {e : va_E} (hc : ab_ce n e = true) (h : va_at D cl (a, ab_me ad sb dA e) H) : va_at D cl (a, ab_me ad' sb dA e) H := by
  rcases e with ⟨t, m, x⟩ | ⟨ci, fs⟩
  · rcases x with g | g | g | g | g
    · exact h
    · exact h
    · exact h
    · exact h
    · have h1 : H[a]? = some (vp_cell (dA t) (m, .inr (.inr (.inr (.inr (fun j => (g j).map ad)))))) := h
      show H[a]? = some (vp_cell (dA t) (m, .inr (.inr (.inr (.inr (fun j => (g j).map ad'))))))
      rw [h1, vp_cell_q, vp_cell_q]
      congr 1
      apply ab_arrV_congr
      intro j hj
      have h2 := List.all_eq_true.mp hc j (List.mem_range.mpr hj)
      cases hg : g j with
      | none => rfl
      | some y =>
        simp only [hg] at h2
        show Value.ref (ad y) = Value.ref (ad' y)
        rw [he y (Nat.le_of_ble_eq_true h2)]
  · have h1 : va_at D cl (a, .inr (ci, fs.map (ab_cv ad sb))) H := h
    show va_at D cl (a, .inr (ci, fs.map (ab_cv ad' sb))) H
    rw [ab_map_ext he hc]
    exact h1
/-- a new cell -/
theorem ab_wd.push {D : va_G} {dA : Nat → Nat} {ad : Nat → Nat} {sb q : Nat} {A : Nat → Prop} {h : ab_H} {H : Heap} {e x : va_E} (hc : h.all (ab_ce h.length) = true) (hP : va_P D vwCl (ab_cw ad sb dA h ++ [(q, x)]) H) (hD : va_D A (ab_cw ad sb dA h ++ [(q, x)])) (hx : ab_me (va_up ad h.length q) sb dA e = x) :
    ab_wd D dA sb A (va_up ad h.length q) (h ++ [e]) H := by
  have he : ∀ i, i < h.length → va_up ad h.length q i = ad i := fun i hi => va_up_ne ad q (Nat.ne_of_lt hi)
  have key : ∀ (i : Nat) (z : Nat × va_E), (ab_cw (va_up ad h.length q) sb dA (h ++ [e]))[i]? = some z → ∃ w, (ab_cw ad sb dA h ++ [(q, x)])[i]? = some w ∧ w.1 = z.1 ∧ (va_at D vwCl w H → va_at D vwCl z H) := by
    intro i z hz
    obtain ⟨e1, h1, rfl⟩ := ab_cw_inv hz
    rcases Nat.lt_or_ge i h.length with hl | hl
    · rw [List.getElem?_append_left hl] at h1
      refine ⟨(ad i, ab_me ad sb dA e1), ?_, (he i hl).symm, fun hw => ?_⟩
      · rw [List.getElem?_append_left (by rw [ab_cw_len]; exact hl)]
        exact ab_cw_at h1
      · have := ab_at_ext he (List.all_eq_true.mp hc e1 (List.mem_of_getElem? h1)) hw
        rw [he i hl]
        exact this
    · rw [List.getElem?_append_right hl] at h1
      have hz0 : i - h.length < 1 := (List.getElem?_eq_some_iff.mp h1).1
      have hi : i = h.length := by omega
      subst hi
      rw [Nat.sub_self] at h1
      cases h1
      refine ⟨(q, x), ?_, (va_up_self ad h.length q).symm, fun hw => ?_⟩
      · rw [List.getElem?_append_right (by rw [ab_cw_len]; exact Nat.le_refl _), ab_cw_len, Nat.sub_self]
        rfl
      · rw [va_up_self, hx]
        exact hw
  refine ⟨fun i z hz => ?_, fun i j z w hz hw hzw => ?_, fun i z hz => ?_⟩
  · obtain ⟨w, h1, h2, h3⟩ := key i z hz
    exact h3 (hP i w h1)
  · obtain ⟨z1, a1, a2, -⟩ := key i z hz
    obtain ⟨w1, b1, b2, -⟩ := key j w hw
    exact hD.1 i j z1 w1 a1 b1 (a2.trans (hzw.trans b2.symm))
  · obtain ⟨w, h1, h2, h3⟩ := key i z hz
    rw [← h2]
    exact hD.2 i w h1
theorem ab_wd.set {D : va_G} {dA : Nat → Nat} {ad : Nat → Nat} {sb a : Nat} {A : Nat → Prop} {h : ab_H} {H : Heap} {e x : va_E} (hP : va_P D vwCl ((ab_cw ad sb dA h).set a (ad a, x)) H) (hD : va_D A ((ab_cw ad sb dA h).set a (ad a, x))) (hx : ab_me ad sb dA e = x) : ab_wd D dA sb A ad (h.set a e) H := by
  subst hx
  rw [ab_cw_set] at hP hD
  exact ⟨hP, hD⟩
/-- a method's words, its room, its end -/
abbrev mCC (d : Nat) : ab_C := ab_CC mT mB mF mR mL d
def mW (k : Nat) : List Cond := .code (mY k) (mC k) (mL k) (mR k) :: lw_good
def mRm (d k : Nat) : Room := { frames := d, cells := (mB k).1, slots := (mB k).2, locals := 60 * d }
theorem lw_good.ok {w : Cond} (h : w ∈ lw_good) : (w.onTables && w.keeps) = true ∨ ∃ ty, w = .arrayClass ty := good_of_word (List.mem_filter.mp h).2
theorem mW_good {k : Nat} (hk : k < mN) : GoodIn lw_good (mW k) := by
  intro w hw
  rcases List.mem_cons.mp hw with rfl | h
  · have hm : Cond.code (mY k) (mC k) (mL k) (mR k) ∈ lw_good := List.mem_filter.mpr ⟨List.mem_of_getElem? (ok_code k hk), rfl⟩
    exact ⟨hm, lw_good.ok hm⟩
  · exact ⟨h, lw_good.ok h⟩
/-- what the tables say beyond the good words -/
def ab_ex (U : State) : Prop := va_AO RX4 U ∧ va_AO RX0 U ∧ ∀ (own : String) (ix : Nat) (y : MethodName) (host : String), Cond.methodLinkNest own ix y host ∈ lw_tbl → va_Nw (.methodLinkNest own ix y host) U
theorem ab_ex.warm {s U : State} (hW : s.WarmedH U.vm) (h : ab_ex s) : ab_ex U := ⟨h.1.moved hW.alike, h.2.1.moved hW.alike, fun own ix y host hm => va_Nw.warmM hW (h.2.2 own ix y host hm)⟩
theorem ab_ex.same {s U : State} (hv : s.vm = U.vm) (h : ab_ex s) : ab_ex U := by
  have ha : s.vm.Alike U.vm := by rw [← hv]; exact Vm.Alike.refl s.vm
  exact ⟨h.1.moved ha, h.2.1.moved ha, fun own ix y host hm => va_Nw.same rfl hv (h.2.2 own ix y host hm)⟩
def ab_Q (D : va_G) (dA : Nat → Nat) (sb : Nat) (ad : Nat → Nat) (n z : Nat) (A : Nat → Prop) (post : ab_P) : Array Value → State → Outcome → State → Prop := fun _ st oc t =>
  (∃ (r : Option Value) (h' : ab_H) (ad' : Nat → Nat), oc = .returned (r.map (ab_cv ad' sb)) ∧ post r h' ∧ (∀ i, i < n → ad' i = ad i) ∧ (z = 0 → ad' = ad) ∧ n ≤ h'.length ∧ ab_wd D dA sb A ad' h' t.heap) ∧ va_F A st t
def ab_met (l : Launch) (d k : Nat) : Prop := ∀ (D : va_G) (dA : Nat → Nat) (sb : Nat) (ad : Nat → Nat) (av : List Value) (h : ab_H) (post : ab_P) (sz : Nat), mCC d k av h post →
  Met l (mY k) (mW k) (mRm d k) (va_Pc (av.map (ab_cv ad sb)) (fun U => U.heap.size = sz ∧ ab_wd D dA sb (fun _ => True) ad h U.heap ∧ va_K D vwCl (ab_tys dA) U ∧ ab_ex U)) (ab_Q D dA sb ad h.length (mB k).1 (va_A (ab_cw ad sb dA h) sz) post) (mB k).1 (mB k).2 (va_A (ab_cw ad sb dA h) sz)
section ABA
variable {p : Program} {l : Launch} {e : Env} {R : Room} {s : State} {m : MethodId} {args : Array Value} {below : List Frame} {meth : Method} {c : Code} {H : Heap} {locs : List Loc} {cells slots : Nat} {Q : State → Prop}
theorem ab_after {D : va_G} {dA : Nat → Nat} {sb : Nat} {ad : Nat → Nat} {n z mc ms pc : Nat} {A0 A1 : Nat → Prop} {post : ab_P} {ls : Array Slot} {st0 rest : List Value} {a : Array Value} (hr : va_Run p l e R s m args below meth c H locs cells slots mc ms (F0 m pc ls st0) rest (ab_Q D dA sb ad n z A1 post a) A1) (hS : va_S A0 s.heap H locs) (hA : ∀ q, A1 q → A0 q)
    (kk : ∀ (r : Option Value) (h' : ab_H) (ad' : Nat → Nat) (H1 : Heap) (locs1 : List Loc), post r h' → (∀ i, i < n → ad' i = ad i) → (z = 0 → ad' = ad) → n ≤ h'.length → ab_wd D dA sb A0 ad' h' H1 → va_S A0 s.heap H1 locs1 → W p l e R s m args below meth c H1 locs1 (cells + mc) (slots + ms) Q (F0 m (pc + 3) ls ((r.map (ab_cv ad' sb)).toList ++ rest))) :
    W p l e R s m args below meth c H locs cells slots Q (F0 m pc ls st0) := by
  intro T hT X
  obtain ⟨v, st₀, t, T', L, h0, X', hL, e1, e2, ⟨⟨r, h', ad', hv, hp, q1, q2, q3, q4⟩, hz, hk⟩, st⟩ := hr T hT X
  cases hv
  rw [h0] at hz hk
  obtain ⟨t2, a1, b1⟩ := kk r h' ad' T'.heap (locs ++ L) hp q1 q2 q3 ⟨by rw [e1]; exact q4.1, q4.2.weaken (fun _ _ _ h => hA _ h)⟩
    ⟨Nat.le_trans hS.1 (by rw [e1]; exact hz), fun q h1 h2 => by rw [e1, hk q (Nat.lt_of_lt_of_le h1 hS.1) (fun z => h2 (hA q z))]; exact hS.2.1 q h1 h2, fun q hq => by
      rcases List.mem_append.mp hq with h | h
      · exact hS.2.2 q h
      · exact hA _ (hL q h)⟩ T' rfl X'
  exact ⟨t2, st t2 a1, b1⟩
end ABA
end
section
/-! THE ABSTRACT MACHINE IS SOUND, second part: instruction by instruction -/
def ab_cx (p : Program) (l : Launch) (R : Room) (s : State) (m : MethodId) (args : Array Value) (meth : Method) (c : Code) (D : va_G) (dA : Nat → Nat) (sb : Nat) (A : Nat → Prop) (k d : Nat) (X : ab_X) : Prop :=
  p.tables.exec = Jvm.exec ∧ c.code = mC k ∧ c.maxLocals = mL k ∧ s.vm.findClass (mY k).cls = some m.cls ∧ (∀ w ∈ lw_good, w.before args s = true) ∧ va_K D vwCl (ab_tys dA) s ∧ ab_ex s ∧ (∀ q, s.heap.size ≤ q → A q) ∧ ((mY k).name = "<init>" → meth.name = "<init>") ∧ (R.cells = (mB k).1 ∧ R.slots = (mB k).2 ∧ d + 1 ≤ R.frames ∧ 60 * (d + 1) ≤ R.locals) ∧ (∀ x, X = some x → va_X sb x.1 x.2 s s.heap ∧ sb < s.heap.size ∧ ¬ A sb) ∧ ∀ k', k' < mN → ab_met l d k'
def ab_I (p : Program) (l : Launch) (e : Env) (R : Room) (s : State) (m : MethodId) (args : Array Value) (below : List Frame) (meth : Method) (c : Code) (Q : State → Prop) (D : va_G) (dA : Nat → Nat) (sb : Nat) (A : Nat → Prop) (ad0 : Nat → Nat) (n0 k : Nat) (q : ab_S) : Prop :=
  ∀ (ad : Nat → Nat) (H : Heap) (locs : List Loc) (ls : Array Slot), n0 ≤ q.2.2.2.2.length → (∀ i, i < n0 → ad i = ad0 i) → ((mB k).1 = 0 → ad = ad0) → ab_lr ad sb q.2.1 ls → q.2.1.length = mL k → ab_wd D dA sb A ad q.2.2.2.2 H → va_S A s.heap H locs → q.2.2.2.1.1 ≤ (mB k).1 → q.2.2.2.1.2 ≤ (mB k).2 →
    W p l e R s m args below meth c H locs ((mB k).1 - q.2.2.2.1.1) ((mB k).2 - q.2.2.2.1.2) Q (F0 m q.1 ls (q.2.2.1.map (ab_cv ad sb)))
section ABI
variable {C : ab_C} {post : ab_P} {P : ab_S → Prop} {h : ab_H}
theorem ab_i.inv {st : List Value} {f : Int32 → List Value → ab_R} (w : ab_rs C post P h (ab_i st f)) : ∃ x r, st = .int x :: r ∧ ab_rs C post P h (f x r) := by
  unfold ab_i at w
  split at w
  · exact ⟨_, _, rfl, w⟩
  · cases w
theorem ab_l.inv {st : List Value} {f : Int64 → List Value → ab_R} (w : ab_rs C post P h (ab_l st f)) : ∃ x r, st = .long x :: r ∧ ab_rs C post P h (f x r) := by
  unfold ab_l at w
  split at w
  · exact ⟨_, _, rfl, w⟩
  · cases w
theorem ab_r.inv {st : List Value} {f : Nat → List Value → ab_R} (w : ab_rs C post P h (ab_r st f)) : ∃ x r, st = .ref x :: r ∧ ab_rs C post P h (f x r) := by
  unfold ab_r at w
  split at w
  · exact ⟨_, _, rfl, w⟩
  · cases w
theorem ab_v.inv {st : List Value} {f : Value → List Value → ab_R} (w : ab_rs C post P h (ab_v st f)) : ∃ x r, st = x :: r ∧ ab_rs C post P h (f x r) := by
  unfold ab_v at w
  split at w
  · exact ⟨_, _, rfl, w⟩
  · cases w
theorem ab_gd.inv {b : Bool} {r : ab_R} (w : ab_rs C post P h (ab_gd b r)) : b = true ∧ ab_rs C post P h r := by
  cases b with
  | true => exact ⟨rfl, w⟩
  | false => cases w
theorem ab_s1.inv {lv : List Value} {i : Nat} {v : Value} {f : List Value → ab_R} (w : ab_rs C post P h (ab_s1 lv i v f)) : ab_lok lv i = true ∧ i < lv.length ∧ ab_rs C post P h (f (ab_ls lv i v)) := by
  obtain ⟨h1, h2⟩ := ab_gd.inv w
  rw [Bool.and_eq_true] at h1
  exact ⟨h1.1, Nat.le_of_ble_eq_true h1.2, h2⟩
theorem ab_s2.inv {lv : List Value} {i : Nat} {v : Value} {f : List Value → ab_R} (w : ab_rs C post P h (ab_s2 lv i v f)) : ab_lok lv i = true ∧ i + 1 < lv.length ∧ ab_rs C post P h (f (ab_ls (ab_ls lv i v) (i + 1) (.retAddr 0))) := by
  obtain ⟨h1, h2⟩ := ab_gd.inv w
  rw [Bool.and_eq_true] at h1
  exact ⟨h1.1, Nat.le_of_ble_eq_true h1.2, h2⟩
theorem ab_jp.inv {au : List Nat} {f : Nat → ab_R} (w : ab_rs C post P h (ab_jp au f)) : ∃ t r, au = t :: r ∧ ab_rs C post P h (f t) := by
  unfold ab_jp at w
  split at w
  · exact ⟨_, _, rfl, w⟩
  · cases w
theorem ab_o.inv {h1 : ab_H} {a : Nat} {f : Nat → List Value → ab_R} (w : ab_rs C post P h (ab_o h1 a f)) : ∃ ci fs, h1[a]? = some (.inr (ci, fs)) ∧ ab_rs C post P h (f ci fs) := by
  unfold ab_o at w
  split at w
  · rename_i ci fs e
    exact ⟨ci, fs, e, w⟩
  · cases w
theorem ab_ai.inv {h1 : ab_H} {a : Nat} {f : Nat → Nat → (Nat → Int32) → ab_R} (w : ab_rs C post P h (ab_ai h1 a f)) : ∃ t n g, h1[a]? = some (.inl (t, n, .inl g)) ∧ ab_rs C post P h (f t n g) := by
  unfold ab_ai at w
  split at w
  · rename_i t n g e
    exact ⟨t, n, g, e, w⟩
  · cases w
theorem ab_al.inv {h1 : ab_H} {a : Nat} {f : Nat → Nat → (Nat → Int64) → ab_R} (w : ab_rs C post P h (ab_al h1 a f)) : ∃ t n g, h1[a]? = some (.inl (t, n, .inr (.inl g))) ∧ ab_rs C post P h (f t n g) := by
  unfold ab_al at w
  split at w
  · rename_i t n g e
    exact ⟨t, n, g, e, w⟩
  · cases w
theorem ab_aq.inv {h1 : ab_H} {a : Nat} {f : Nat → Nat → (Nat → Option Nat) → ab_R} (w : ab_rs C post P h (ab_aq h1 a f)) : ∃ t n g, h1[a]? = some (.inl (t, n, .inr (.inr (.inr (.inr g))))) ∧ ab_rs C post P h (f t n g) := by
  unfold ab_aq at w
  split at w
  · rename_i t n g e
    exact ⟨t, n, g, e, w⟩
  · cases w
theorem ab_call.inv {B : Nat → Nat × Nat} {k : Nat} {av lv rest : List Value} {nx : Nat} {b : Nat × Nat} {h1 : ab_H} (w : ab_rs C post P h (ab_call B k av lv rest nx b h1)) :
    ab_ws rest ≤ 8 ∧ (B k).1 ≤ b.1 ∧ (B k).2 ≤ b.2 ∧ ((B k).1 = 0 ∨ ab_clo lv rest h1 = true) ∧ C k av h1 (fun v h' => P (nx, lv, v.toList ++ rest, (b.1 - (B k).1, b.2 - (B k).2), h')) := by
  obtain ⟨g, w⟩ := ab_gd.inv w
  simp only [Bool.and_eq_true, Bool.or_eq_true] at g
  obtain ⟨g1, g2, g3, g4⟩ := g
  exact ⟨Nat.le_of_ble_eq_true g1, Nat.le_of_ble_eq_true g2, Nat.le_of_ble_eq_true g3, g4.imp Nat.eq_of_beq_eq_true id, w⟩
theorem ab_ite.inv {p : Prop} [Decidable p] {x y : ab_R} (w : ab_rs C post P h (if p then x else y)) : (p → ab_rs C post P h x) ∧ (¬ p → ab_rs C post P h y) := by
  by_cases hp : p
  · rw [if_pos hp] at w
    exact ⟨fun _ => w, fun q => absurd hp q⟩
  · rw [if_neg hp] at w
    exact ⟨fun q => absurd q hp, fun _ => w⟩
end ABI
theorem ab_in.vp {i : Int32} {n : Nat} (h : ab_in i n = true) : vp_in i n := by
  unfold ab_in at h
  rw [Bool.and_eq_true, Bool.not_eq_true', decide_eq_false_iff_not] at h
  rintro (q | q)
  · exact h.1 q
  · have := Nat.le_of_ble_eq_true h.2
    omega
theorem ab_pop.inv : ∀ {n : Nat} {acc st av r : List Value}, ab_pop n acc st = some (av, r) → ∃ as, as.length = n ∧ st = as.reverse ++ r ∧ av = as ++ acc := by
  intro n
  induction n with
  | zero =>
    intro acc st av r h
    cases h
    exact ⟨[], rfl, rfl, rfl⟩
  | succ n ih =>
    intro acc st av r h
    cases st with
    | nil => cases h
    | cons v st =>
      obtain ⟨as, h1, h2, h3⟩ := ih (show ab_pop n (v :: acc) st = some (av, r) from h)
      refine ⟨as ++ [v], by simp [h1], by simp [h2], by simp [h3]⟩
section ABJ
variable {p : Program} {l : Launch} {e : Env} {R : Room} {s : State} {m : MethodId} {args : Array Value} {below : List Frame} {meth : Method} {c : Code} {Q : State → Prop} {D : va_G} {dA : Nat → Nat} {sb : Nat} {A : Nat → Prop} {ad0 : Nat → Nat} {n0 k d : Nat} {X : ab_X} {post : ab_P}
variable {pc nx n : Nat} {au : List Nat} {lv st : List Value} {b : Nat × Nat} {h : ab_H}
theorem ab_j_iconst (cx : ab_cx p l R s m args meth c D dA sb A k d X) (v : Int) (hd : decode (mC k) pc = .ok (.iconst v, n)) (hn : nx = pc + n) (hln : ab_ln (.iconst v) n = true) (hok : ok_i k pc (.iconst v) au = true) (w : ab_rs (mCC d) post (ab_I p l e R s m args below meth c Q D dA sb A ad0 n0 k) h (ab_do mB mF (mR k) X (.iconst v) nx au lv st b h)) : ab_I p l e R s m args below meth c Q D dA sb A ad0 n0 k (pc, lv, st, b, h) := by
  obtain rfl := Nat.eq_of_beq_eq_true hln
  subst hn
  intro ad H locs ls h1 h2 h3 hl hlen hw hS hb1 hb2
  obtain ⟨hx, hb, hml, hown, hts, hK, hex, hA, hin, hR, hX, hM⟩ := cx
  exact lv_iconst hx hb hd (of_decide_eq_true hok) (w ad H locs ls h1 h2 h3 hl hlen hw hS hb1 hb2)
theorem ab_j_bipush (cx : ab_cx p l R s m args meth c D dA sb A k d X) (v : Int) (hd : decode (mC k) pc = .ok (.bipush v, n)) (hn : nx = pc + n) (hln : ab_ln (.bipush v) n = true) (hok : ok_i k pc (.bipush v) au = true) (w : ab_rs (mCC d) post (ab_I p l e R s m args below meth c Q D dA sb A ad0 n0 k) h (ab_do mB mF (mR k) X (.bipush v) nx au lv st b h)) : ab_I p l e R s m args below meth c Q D dA sb A ad0 n0 k (pc, lv, st, b, h) := by
  obtain rfl := Nat.eq_of_beq_eq_true hln
  subst hn
  intro ad H locs ls h1 h2 h3 hl hlen hw hS hb1 hb2
  obtain ⟨hx, hb, hml, hown, hts, hK, hex, hA, hin, hR, hX, hM⟩ := cx
  exact lv_bipush hx hb hd (of_decide_eq_true hok) (w ad H locs ls h1 h2 h3 hl hlen hw hS hb1 hb2)
theorem ab_j_sipush (cx : ab_cx p l R s m args meth c D dA sb A k d X) (v : Int) (hd : decode (mC k) pc = .ok (.sipush v, n)) (hn : nx = pc + n) (hln : ab_ln (.sipush v) n = true) (hok : ok_i k pc (.sipush v) au = true) (w : ab_rs (mCC d) post (ab_I p l e R s m args below meth c Q D dA sb A ad0 n0 k) h (ab_do mB mF (mR k) X (.sipush v) nx au lv st b h)) : ab_I p l e R s m args below meth c Q D dA sb A ad0 n0 k (pc, lv, st, b, h) := by
  obtain rfl := Nat.eq_of_beq_eq_true hln
  subst hn
  intro ad H locs ls h1 h2 h3 hl hlen hw hS hb1 hb2
  obtain ⟨hx, hb, hml, hown, hts, hK, hex, hA, hin, hR, hX, hM⟩ := cx
  exact lv_sipush hx hb hd (of_decide_eq_true hok) (w ad H locs ls h1 h2 h3 hl hlen hw hS hb1 hb2)
theorem ab_j_lconst (cx : ab_cx p l R s m args meth c D dA sb A k d X) (v : Fin 2) (hd : decode (mC k) pc = .ok (.lconst v, n)) (hn : nx = pc + n) (hln : ab_ln (.lconst v) n = true) (hok : ok_i k pc (.lconst v) au = true) (w : ab_rs (mCC d) post (ab_I p l e R s m args below meth c Q D dA sb A ad0 n0 k) h (ab_do mB mF (mR k) X (.lconst v) nx au lv st b h)) : ab_I p l e R s m args below meth c Q D dA sb A ad0 n0 k (pc, lv, st, b, h) := by
  obtain rfl := Nat.eq_of_beq_eq_true hln
  subst hn
  intro ad H locs ls h1 h2 h3 hl hlen hw hS hb1 hb2
  obtain ⟨hx, hb, hml, hown, hts, hK, hex, hA, hin, hR, hX, hM⟩ := cx
  exact lv_lconst hx hb hd (of_decide_eq_true hok) (w ad H locs ls h1 h2 h3 hl hlen hw hS hb1 hb2)
theorem ab_j_ldc_w (cx : ab_cx p l R s m args meth c D dA sb A k d X) (ix : Nat) (hd : decode (mC k) pc = .ok (.ldc_w ix, n)) (hn : nx = pc + n) (hln : ab_ln (.ldc_w ix) n = true) (hok : ok_i k pc (.ldc_w ix) au = true) (w : ab_rs (mCC d) post (ab_I p l e R s m args below meth c Q D dA sb A ad0 n0 k) h (ab_do mB mF (mR k) X (.ldc_w ix) nx au lv st b h)) : ab_I p l e R s m args below meth c Q D dA sb A ad0 n0 k (pc, lv, st, b, h) := by
  obtain rfl := Nat.eq_of_beq_eq_true hln
  subst hn
  intro ad H locs ls h1 h2 h3 hl hlen hw hS hb1 hb2
  obtain ⟨hx, hb, hml, hown, hts, hK, hex, hA, hin, hR, hX, hM⟩ := cx
  dsimp only [ok_i] at hok
  split at hok
  · exact lv_ldcw hx hb hown (ok_at.use hok hts rfl) hd (w ad H locs ls h1 h2 h3 hl hlen hw hS hb1 hb2)
  · cases hok
theorem ab_j_ldc2_w (cx : ab_cx p l R s m args meth c D dA sb A k d X) (ix : Nat) (hd : decode (mC k) pc = .ok (.ldc2_w ix, n)) (hn : nx = pc + n) (hln : ab_ln (.ldc2_w ix) n = true) (hok : ok_i k pc (.ldc2_w ix) au = true) (w : ab_rs (mCC d) post (ab_I p l e R s m args below meth c Q D dA sb A ad0 n0 k) h (ab_do mB mF (mR k) X (.ldc2_w ix) nx au lv st b h)) : ab_I p l e R s m args below meth c Q D dA sb A ad0 n0 k (pc, lv, st, b, h) := by
  obtain rfl := Nat.eq_of_beq_eq_true hln
  subst hn
  intro ad H locs ls h1 h2 h3 hl hlen hw hS hb1 hb2
  obtain ⟨hx, hb, hml, hown, hts, hK, hex, hA, hin, hR, hX, hM⟩ := cx
  dsimp only [ok_i] at hok
  split at hok
  · exact lv_ldc2 hx hb hown (ok_at.use hok hts rfl) hd (w ad H locs ls h1 h2 h3 hl hlen hw hS hb1 hb2)
  · cases hok
theorem ab_j_aconst_null (cx : ab_cx p l R s m args meth c D dA sb A k d X)  (hd : decode (mC k) pc = .ok (.aconst_null, n)) (hn : nx = pc + n) (hln : ab_ln (.aconst_null) n = true) (hok : ok_i k pc (.aconst_null) au = true) (w : ab_rs (mCC d) post (ab_I p l e R s m args below meth c Q D dA sb A ad0 n0 k) h (ab_do mB mF (mR k) X (.aconst_null) nx au lv st b h)) : ab_I p l e R s m args below meth c Q D dA sb A ad0 n0 k (pc, lv, st, b, h) := by
  obtain rfl := Nat.eq_of_beq_eq_true hln
  subst hn
  intro ad H locs ls h1 h2 h3 hl hlen hw hS hb1 hb2
  obtain ⟨hx, hb, hml, hown, hts, hK, hex, hA, hin, hR, hX, hM⟩ := cx
  exact lv_null hx hb hd (w ad H locs ls h1 h2 h3 hl hlen hw hS hb1 hb2)
theorem ab_j_iload_n (cx : ab_cx p l R s m args meth c D dA sb A k d X) (j : Fin 4) (hd : decode (mC k) pc = .ok (.iload_n j, n)) (hn : nx = pc + n) (hln : ab_ln (.iload_n j) n = true) (hok : ok_i k pc (.iload_n j) au = true) (w : ab_rs (mCC d) post (ab_I p l e R s m args below meth c Q D dA sb A ad0 n0 k) h (ab_do mB mF (mR k) X (.iload_n j) nx au lv st b h)) : ab_I p l e R s m args below meth c Q D dA sb A ad0 n0 k (pc, lv, st, b, h) := by
  obtain rfl := Nat.eq_of_beq_eq_true hln
  subst hn
  intro ad H locs ls h1 h2 h3 hl hlen hw hS hb1 hb2
  obtain ⟨hx, hb, hml, hown, hts, hK, hex, hA, hin, hR, hX, hM⟩ := cx
  obtain ⟨x, r, hg, w⟩ := ab_i.inv w
  have hg : ab_lg lv j = .int x := (List.cons.inj hg).1
  have hv := hl.2.2 j (by show ab_lg lv j ≠ _; rw [hg]; exact fun q => by cases q)
  have hv : ls[(j : Nat)]? = some (.val (ab_cv ad sb (ab_lg lv j))) := hv
  rw [hg] at hv
  exact lv_iload_n hx hb hd rfl hv (w ad H locs ls h1 h2 h3 hl hlen hw hS hb1 hb2)
theorem ab_j_iload (cx : ab_cx p l R s m args meth c D dA sb A k d X) (j : Nat) (hd : decode (mC k) pc = .ok (.iload j, n)) (hn : nx = pc + n) (hln : ab_ln (.iload j) n = true) (hok : ok_i k pc (.iload j) au = true) (w : ab_rs (mCC d) post (ab_I p l e R s m args below meth c Q D dA sb A ad0 n0 k) h (ab_do mB mF (mR k) X (.iload j) nx au lv st b h)) : ab_I p l e R s m args below meth c Q D dA sb A ad0 n0 k (pc, lv, st, b, h) := by
  obtain rfl := Nat.eq_of_beq_eq_true hln
  subst hn
  intro ad H locs ls h1 h2 h3 hl hlen hw hS hb1 hb2
  obtain ⟨hx, hb, hml, hown, hts, hK, hex, hA, hin, hR, hX, hM⟩ := cx
  obtain ⟨x, r, hg, w⟩ := ab_i.inv w
  have hg : ab_lg lv j = .int x := (List.cons.inj hg).1
  have hv := hl.2.2 j (by show ab_lg lv j ≠ _; rw [hg]; exact fun q => by cases q)
  have hv : ls[(j : Nat)]? = some (.val (ab_cv ad sb (ab_lg lv j))) := hv
  rw [hg] at hv
  exact lv_iload hx hb hd hv (w ad H locs ls h1 h2 h3 hl hlen hw hS hb1 hb2)
theorem ab_j_lload_n (cx : ab_cx p l R s m args meth c D dA sb A k d X) (j : Fin 4) (hd : decode (mC k) pc = .ok (.lload_n j, n)) (hn : nx = pc + n) (hln : ab_ln (.lload_n j) n = true) (hok : ok_i k pc (.lload_n j) au = true) (w : ab_rs (mCC d) post (ab_I p l e R s m args below meth c Q D dA sb A ad0 n0 k) h (ab_do mB mF (mR k) X (.lload_n j) nx au lv st b h)) : ab_I p l e R s m args below meth c Q D dA sb A ad0 n0 k (pc, lv, st, b, h) := by
  obtain rfl := Nat.eq_of_beq_eq_true hln
  subst hn
  intro ad H locs ls h1 h2 h3 hl hlen hw hS hb1 hb2
  obtain ⟨hx, hb, hml, hown, hts, hK, hex, hA, hin, hR, hX, hM⟩ := cx
  obtain ⟨x, r, hg, w⟩ := ab_l.inv w
  have hg : ab_lg lv j = .long x := (List.cons.inj hg).1
  have hv := hl.2.2 j (by show ab_lg lv j ≠ _; rw [hg]; exact fun q => by cases q)
  have hv : ls[(j : Nat)]? = some (.val (ab_cv ad sb (ab_lg lv j))) := hv
  rw [hg] at hv
  exact lv_lload_n hx hb hd rfl hv (w ad H locs ls h1 h2 h3 hl hlen hw hS hb1 hb2)
theorem ab_j_lload (cx : ab_cx p l R s m args meth c D dA sb A k d X) (j : Nat) (hd : decode (mC k) pc = .ok (.lload j, n)) (hn : nx = pc + n) (hln : ab_ln (.lload j) n = true) (hok : ok_i k pc (.lload j) au = true) (w : ab_rs (mCC d) post (ab_I p l e R s m args below meth c Q D dA sb A ad0 n0 k) h (ab_do mB mF (mR k) X (.lload j) nx au lv st b h)) : ab_I p l e R s m args below meth c Q D dA sb A ad0 n0 k (pc, lv, st, b, h) := by
  obtain rfl := Nat.eq_of_beq_eq_true hln
  subst hn
  intro ad H locs ls h1 h2 h3 hl hlen hw hS hb1 hb2
  obtain ⟨hx, hb, hml, hown, hts, hK, hex, hA, hin, hR, hX, hM⟩ := cx
  obtain ⟨x, r, hg, w⟩ := ab_l.inv w
  have hg : ab_lg lv j = .long x := (List.cons.inj hg).1
  have hv := hl.2.2 j (by show ab_lg lv j ≠ _; rw [hg]; exact fun q => by cases q)
  have hv : ls[(j : Nat)]? = some (.val (ab_cv ad sb (ab_lg lv j))) := hv
  rw [hg] at hv
  exact lv_lload hx hb hd hv (w ad H locs ls h1 h2 h3 hl hlen hw hS hb1 hb2)
theorem ab_j_aload_n (cx : ab_cx p l R s m args meth c D dA sb A k d X) (j : Fin 4) (hd : decode (mC k) pc = .ok (.aload_n j, n)) (hn : nx = pc + n) (hln : ab_ln (.aload_n j) n = true) (hok : ok_i k pc (.aload_n j) au = true) (w : ab_rs (mCC d) post (ab_I p l e R s m args below meth c Q D dA sb A ad0 n0 k) h (ab_do mB mF (mR k) X (.aload_n j) nx au lv st b h)) : ab_I p l e R s m args below meth c Q D dA sb A ad0 n0 k (pc, lv, st, b, h) := by
  obtain rfl := Nat.eq_of_beq_eq_true hln
  subst hn
  intro ad H locs ls h1 h2 h3 hl hlen hw hS hb1 hb2
  obtain ⟨hx, hb, hml, hown, hts, hK, hex, hA, hin, hR, hX, hM⟩ := cx
  have key : ∀ v, ab_lg lv j = v → v ≠ .retAddr 0 → ls[(j : Nat)]? = some (.val (ab_cv ad sb v)) := fun v hv h0 => by
    have := hl.2.2 j (by show ab_lg lv j ≠ _; rw [hv]; exact h0)
    have this : ls[(j : Nat)]? = some (.val (ab_cv ad sb (ab_lg lv j))) := this
    rw [hv] at this
    exact this
  dsimp only [ab_do] at w
  split at w
  · rename_i a hg
    exact lv_aload_n hx hb hd rfl (key _ hg (fun q => by cases q)) (w ad H locs ls h1 h2 h3 hl hlen hw hS hb1 hb2)
  · rename_i hg
    exact lv_aload_nN hx hb hd rfl (key _ hg (fun q => by cases q)) (w ad H locs ls h1 h2 h3 hl hlen hw hS hb1 hb2)
  · rename_i hg
    exact lv_aload_n hx hb hd rfl (key _ hg (fun q => by cases q)) (w ad H locs ls h1 h2 h3 hl hlen hw hS hb1 hb2)
  · cases w
theorem ab_j_aload (cx : ab_cx p l R s m args meth c D dA sb A k d X) (j : Nat) (hd : decode (mC k) pc = .ok (.aload j, n)) (hn : nx = pc + n) (hln : ab_ln (.aload j) n = true) (hok : ok_i k pc (.aload j) au = true) (w : ab_rs (mCC d) post (ab_I p l e R s m args below meth c Q D dA sb A ad0 n0 k) h (ab_do mB mF (mR k) X (.aload j) nx au lv st b h)) : ab_I p l e R s m args below meth c Q D dA sb A ad0 n0 k (pc, lv, st, b, h) := by
  obtain rfl := Nat.eq_of_beq_eq_true hln
  subst hn
  intro ad H locs ls h1 h2 h3 hl hlen hw hS hb1 hb2
  obtain ⟨hx, hb, hml, hown, hts, hK, hex, hA, hin, hR, hX, hM⟩ := cx
  have key : ∀ v, ab_lg lv j = v → v ≠ .retAddr 0 → ls[(j : Nat)]? = some (.val (ab_cv ad sb v)) := fun v hv h0 => by
    have := hl.2.2 j (by show ab_lg lv j ≠ _; rw [hv]; exact h0)
    have this : ls[(j : Nat)]? = some (.val (ab_cv ad sb (ab_lg lv j))) := this
    rw [hv] at this
    exact this
  dsimp only [ab_do] at w
  split at w
  · rename_i a hg
    exact lv_aload hx hb hd (key _ hg (fun q => by cases q)) (w ad H locs ls h1 h2 h3 hl hlen hw hS hb1 hb2)
  · rename_i hg
    exact lv_aloadN hx hb hd (key _ hg (fun q => by cases q)) (w ad H locs ls h1 h2 h3 hl hlen hw hS hb1 hb2)
  · cases w
theorem ab_j_istore_n (cx : ab_cx p l R s m args meth c D dA sb A k d X) (j : Fin 4) (hd : decode (mC k) pc = .ok (.istore_n j, n)) (hn : nx = pc + n) (hln : ab_ln (.istore_n j) n = true) (hok : ok_i k pc (.istore_n j) au = true) (w : ab_rs (mCC d) post (ab_I p l e R s m args below meth c Q D dA sb A ad0 n0 k) h (ab_do mB mF (mR k) X (.istore_n j) nx au lv st b h)) : ab_I p l e R s m args below meth c Q D dA sb A ad0 n0 k (pc, lv, st, b, h) := by
  obtain rfl := Nat.eq_of_beq_eq_true hln
  subst hn
  intro ad H locs ls h1 h2 h3 hl hlen hw hS hb1 hb2
  obtain ⟨hx, hb, hml, hown, hts, hK, hex, hA, hin, hR, hX, hM⟩ := cx
  obtain ⟨x, r, rfl, w1⟩ := ab_i.inv w
  clear w
  obtain ⟨ho, hi, w⟩ := ab_s1.inv w1
  refine lv_istore_n hx hb hd rfl (hl.has) (by rw [hlen] at hi; exact hlen ▸ hi) rfl (fun ls' hl' => ?_)
  exact w ad H locs ls' h1 h2 h3 (ab_lr.s1 (v := .int x) hi ho hl') (by show List.length _ = _; rw [ab_ls_len]; exact hlen) hw hS hb1 hb2
theorem ab_j_istore (cx : ab_cx p l R s m args meth c D dA sb A k d X) (j : Nat) (hd : decode (mC k) pc = .ok (.istore j, n)) (hn : nx = pc + n) (hln : ab_ln (.istore j) n = true) (hok : ok_i k pc (.istore j) au = true) (w : ab_rs (mCC d) post (ab_I p l e R s m args below meth c Q D dA sb A ad0 n0 k) h (ab_do mB mF (mR k) X (.istore j) nx au lv st b h)) : ab_I p l e R s m args below meth c Q D dA sb A ad0 n0 k (pc, lv, st, b, h) := by
  obtain rfl := Nat.eq_of_beq_eq_true hln
  subst hn
  intro ad H locs ls h1 h2 h3 hl hlen hw hS hb1 hb2
  obtain ⟨hx, hb, hml, hown, hts, hK, hex, hA, hin, hR, hX, hM⟩ := cx
  obtain ⟨x, r, rfl, w1⟩ := ab_i.inv w
  clear w
  obtain ⟨ho, hi, w⟩ := ab_s1.inv w1
  refine lv_istore hx hb hd (hl.has) (by rw [hlen] at hi; exact hlen ▸ hi) rfl (fun ls' hl' => ?_)
  exact w ad H locs ls' h1 h2 h3 (ab_lr.s1 (v := .int x) hi ho hl') (by show List.length _ = _; rw [ab_ls_len]; exact hlen) hw hS hb1 hb2
theorem ab_j_lstore_n (cx : ab_cx p l R s m args meth c D dA sb A k d X) (j : Fin 4) (hd : decode (mC k) pc = .ok (.lstore_n j, n)) (hn : nx = pc + n) (hln : ab_ln (.lstore_n j) n = true) (hok : ok_i k pc (.lstore_n j) au = true) (w : ab_rs (mCC d) post (ab_I p l e R s m args below meth c Q D dA sb A ad0 n0 k) h (ab_do mB mF (mR k) X (.lstore_n j) nx au lv st b h)) : ab_I p l e R s m args below meth c Q D dA sb A ad0 n0 k (pc, lv, st, b, h) := by
  obtain rfl := Nat.eq_of_beq_eq_true hln
  subst hn
  intro ad H locs ls h1 h2 h3 hl hlen hw hS hb1 hb2
  obtain ⟨hx, hb, hml, hown, hts, hK, hex, hA, hin, hR, hX, hM⟩ := cx
  obtain ⟨x, r, rfl, w1⟩ := ab_l.inv w
  clear w
  obtain ⟨ho, hi, w⟩ := ab_s2.inv w1
  refine lv_lstore_n hx hb hd rfl (hl.has) (by rw [hlen] at hi; exact hlen ▸ hi) rfl (fun ls' hl' => ?_)
  exact w ad H locs ls' h1 h2 h3 (ab_lr.s2 (v := .long x) hi ho hl') (by show List.length _ = _; rw [ab_ls_len, ab_ls_len]; exact hlen) hw hS hb1 hb2
theorem ab_j_lstore (cx : ab_cx p l R s m args meth c D dA sb A k d X) (j : Nat) (hd : decode (mC k) pc = .ok (.lstore j, n)) (hn : nx = pc + n) (hln : ab_ln (.lstore j) n = true) (hok : ok_i k pc (.lstore j) au = true) (w : ab_rs (mCC d) post (ab_I p l e R s m args below meth c Q D dA sb A ad0 n0 k) h (ab_do mB mF (mR k) X (.lstore j) nx au lv st b h)) : ab_I p l e R s m args below meth c Q D dA sb A ad0 n0 k (pc, lv, st, b, h) := by
  obtain rfl := Nat.eq_of_beq_eq_true hln
  subst hn
  intro ad H locs ls h1 h2 h3 hl hlen hw hS hb1 hb2
  obtain ⟨hx, hb, hml, hown, hts, hK, hex, hA, hin, hR, hX, hM⟩ := cx
  obtain ⟨x, r, rfl, w1⟩ := ab_l.inv w
  clear w
  obtain ⟨ho, hi, w⟩ := ab_s2.inv w1
  refine lv_lstore hx hb hd (hl.has) (by rw [hlen] at hi; exact hlen ▸ hi) rfl (fun ls' hl' => ?_)
  exact w ad H locs ls' h1 h2 h3 (ab_lr.s2 (v := .long x) hi ho hl') (by show List.length _ = _; rw [ab_ls_len, ab_ls_len]; exact hlen) hw hS hb1 hb2
theorem ab_j_astore_n (cx : ab_cx p l R s m args meth c D dA sb A k d X) (j : Fin 4) (hd : decode (mC k) pc = .ok (.astore_n j, n)) (hn : nx = pc + n) (hln : ab_ln (.astore_n j) n = true) (hok : ok_i k pc (.astore_n j) au = true) (w : ab_rs (mCC d) post (ab_I p l e R s m args below meth c Q D dA sb A ad0 n0 k) h (ab_do mB mF (mR k) X (.astore_n j) nx au lv st b h)) : ab_I p l e R s m args below meth c Q D dA sb A ad0 n0 k (pc, lv, st, b, h) := by
  obtain rfl := Nat.eq_of_beq_eq_true hln
  subst hn
  intro ad H locs ls h1 h2 h3 hl hlen hw hS hb1 hb2
  obtain ⟨hx, hb, hml, hown, hts, hK, hex, hA, hin, hR, hX, hM⟩ := cx
  dsimp only [ab_do] at w
  split at w
  · rename_i a r
    obtain ⟨ho, hi, w⟩ := ab_s1.inv w
    refine lv_astore_n hx hb hd rfl (hl.has) (by rw [hlen] at hi; exact hlen ▸ hi) rfl (fun ls' hl' => ?_)
    exact w ad H locs ls' h1 h2 h3 (ab_lr.s1 (v := .ref a) hi ho hl') (by show List.length _ = _; rw [ab_ls_len]; exact hlen) hw hS hb1 hb2
  · rename_i r
    obtain ⟨ho, hi, w⟩ := ab_s1.inv w
    refine lv_astore_nN hx hb hd rfl (hl.has) (by rw [hlen] at hi; exact hlen ▸ hi) rfl (fun ls' hl' => ?_)
    exact w ad H locs ls' h1 h2 h3 (ab_lr.s1 (v := .null) hi ho hl') (by show List.length _ = _; rw [ab_ls_len]; exact hlen) hw hS hb1 hb2
  · cases w
theorem ab_j_astore (cx : ab_cx p l R s m args meth c D dA sb A k d X) (j : Nat) (hd : decode (mC k) pc = .ok (.astore j, n)) (hn : nx = pc + n) (hln : ab_ln (.astore j) n = true) (hok : ok_i k pc (.astore j) au = true) (w : ab_rs (mCC d) post (ab_I p l e R s m args below meth c Q D dA sb A ad0 n0 k) h (ab_do mB mF (mR k) X (.astore j) nx au lv st b h)) : ab_I p l e R s m args below meth c Q D dA sb A ad0 n0 k (pc, lv, st, b, h) := by
  obtain rfl := Nat.eq_of_beq_eq_true hln
  subst hn
  intro ad H locs ls h1 h2 h3 hl hlen hw hS hb1 hb2
  obtain ⟨hx, hb, hml, hown, hts, hK, hex, hA, hin, hR, hX, hM⟩ := cx
  dsimp only [ab_do] at w
  split at w
  · rename_i a r
    obtain ⟨ho, hi, w⟩ := ab_s1.inv w
    refine lv_astore hx hb hd (hl.has) (by rw [hlen] at hi; exact hlen ▸ hi) rfl (fun ls' hl' => ?_)
    exact w ad H locs ls' h1 h2 h3 (ab_lr.s1 (v := .ref a) hi ho hl') (by show List.length _ = _; rw [ab_ls_len]; exact hlen) hw hS hb1 hb2
  · rename_i r
    obtain ⟨ho, hi, w⟩ := ab_s1.inv w
    refine lv_astoreN hx hb hd (hl.has) (by rw [hlen] at hi; exact hlen ▸ hi) rfl (fun ls' hl' => ?_)
    exact w ad H locs ls' h1 h2 h3 (ab_lr.s1 (v := .null) hi ho hl') (by show List.length _ = _; rw [ab_ls_len]; exact hlen) hw hS hb1 hb2
  · cases w
theorem ab_j_iinc (cx : ab_cx p l R s m args meth c D dA sb A k d X) (j : Nat) (v : Int) (hd : decode (mC k) pc = .ok (.iinc j v, n)) (hn : nx = pc + n) (hln : ab_ln (.iinc j v) n = true) (hok : ok_i k pc (.iinc j v) au = true) (w : ab_rs (mCC d) post (ab_I p l e R s m args below meth c Q D dA sb A ad0 n0 k) h (ab_do mB mF (mR k) X (.iinc j v) nx au lv st b h)) : ab_I p l e R s m args below meth c Q D dA sb A ad0 n0 k (pc, lv, st, b, h) := by
  obtain rfl := Nat.eq_of_beq_eq_true hln
  subst hn
  intro ad H locs ls h1 h2 h3 hl hlen hw hS hb1 hb2
  obtain ⟨hx, hb, hml, hown, hts, hK, hex, hA, hin, hR, hX, hM⟩ := cx
  obtain ⟨x, r, hg, w⟩ := ab_i.inv w
  have hg : ab_lg lv j = .int x := (List.cons.inj hg).1
  obtain ⟨ho, hi, w⟩ := ab_s1.inv w
  have hm := ab_lp_mem (ad := ad) (sb := sb) (lv := lv) (j := j) (by rw [hg]; exact fun q => by cases q)
  rw [hg] at hm
  obtain ⟨q0, hq0⟩ := List.getElem?_of_mem hm
  refine lv_iinc (v := x + ab_ki au) hx hb hd (hl.has) hq0 (by rw [show Int32.ofInt v = ab_ki au from of_decide_eq_true hok]) hi rfl (fun ls' hl' => ?_)
  exact w ad H locs ls' h1 h2 h3 (ab_lr.s1 (v := .int (x + ab_ki au)) hi ho hl') (by show List.length _ = _; rw [ab_ls_len]; exact hlen) hw hS hb1 hb2
theorem ab_j_iadd (cx : ab_cx p l R s m args meth c D dA sb A k d X)  (hd : decode (mC k) pc = .ok (.iadd, n)) (hn : nx = pc + n) (hln : ab_ln (.iadd) n = true) (hok : ok_i k pc (.iadd) au = true) (w : ab_rs (mCC d) post (ab_I p l e R s m args below meth c Q D dA sb A ad0 n0 k) h (ab_do mB mF (mR k) X (.iadd) nx au lv st b h)) : ab_I p l e R s m args below meth c Q D dA sb A ad0 n0 k (pc, lv, st, b, h) := by
  obtain rfl := Nat.eq_of_beq_eq_true hln
  subst hn
  intro ad H locs ls h1 h2 h3 hl hlen hw hS hb1 hb2
  obtain ⟨hx, hb, hml, hown, hts, hK, hex, hA, hin, hR, hX, hM⟩ := cx
  obtain ⟨y, r1, rfl, w1⟩ := ab_i.inv w
  clear w
  obtain ⟨x, r, rfl, w⟩ := ab_i.inv w1
  clear w1
  exact lv_iadd hx hb hd (w ad H locs ls h1 h2 h3 hl hlen hw hS hb1 hb2)
theorem ab_j_isub (cx : ab_cx p l R s m args meth c D dA sb A k d X)  (hd : decode (mC k) pc = .ok (.isub, n)) (hn : nx = pc + n) (hln : ab_ln (.isub) n = true) (hok : ok_i k pc (.isub) au = true) (w : ab_rs (mCC d) post (ab_I p l e R s m args below meth c Q D dA sb A ad0 n0 k) h (ab_do mB mF (mR k) X (.isub) nx au lv st b h)) : ab_I p l e R s m args below meth c Q D dA sb A ad0 n0 k (pc, lv, st, b, h) := by
  obtain rfl := Nat.eq_of_beq_eq_true hln
  subst hn
  intro ad H locs ls h1 h2 h3 hl hlen hw hS hb1 hb2
  obtain ⟨hx, hb, hml, hown, hts, hK, hex, hA, hin, hR, hX, hM⟩ := cx
  obtain ⟨y, r1, rfl, w1⟩ := ab_i.inv w
  clear w
  obtain ⟨x, r, rfl, w⟩ := ab_i.inv w1
  clear w1
  exact lv_isub hx hb hd (w ad H locs ls h1 h2 h3 hl hlen hw hS hb1 hb2)
theorem ab_j_imul (cx : ab_cx p l R s m args meth c D dA sb A k d X)  (hd : decode (mC k) pc = .ok (.imul, n)) (hn : nx = pc + n) (hln : ab_ln (.imul) n = true) (hok : ok_i k pc (.imul) au = true) (w : ab_rs (mCC d) post (ab_I p l e R s m args below meth c Q D dA sb A ad0 n0 k) h (ab_do mB mF (mR k) X (.imul) nx au lv st b h)) : ab_I p l e R s m args below meth c Q D dA sb A ad0 n0 k (pc, lv, st, b, h) := by
  obtain rfl := Nat.eq_of_beq_eq_true hln
  subst hn
  intro ad H locs ls h1 h2 h3 hl hlen hw hS hb1 hb2
  obtain ⟨hx, hb, hml, hown, hts, hK, hex, hA, hin, hR, hX, hM⟩ := cx
  obtain ⟨y, r1, rfl, w1⟩ := ab_i.inv w
  clear w
  obtain ⟨x, r, rfl, w⟩ := ab_i.inv w1
  clear w1
  exact lv_imul hx hb hd (w ad H locs ls h1 h2 h3 hl hlen hw hS hb1 hb2)
theorem ab_j_iand (cx : ab_cx p l R s m args meth c D dA sb A k d X)  (hd : decode (mC k) pc = .ok (.iand, n)) (hn : nx = pc + n) (hln : ab_ln (.iand) n = true) (hok : ok_i k pc (.iand) au = true) (w : ab_rs (mCC d) post (ab_I p l e R s m args below meth c Q D dA sb A ad0 n0 k) h (ab_do mB mF (mR k) X (.iand) nx au lv st b h)) : ab_I p l e R s m args below meth c Q D dA sb A ad0 n0 k (pc, lv, st, b, h) := by
  obtain rfl := Nat.eq_of_beq_eq_true hln
  subst hn
  intro ad H locs ls h1 h2 h3 hl hlen hw hS hb1 hb2
  obtain ⟨hx, hb, hml, hown, hts, hK, hex, hA, hin, hR, hX, hM⟩ := cx
  obtain ⟨y, r1, rfl, w1⟩ := ab_i.inv w
  clear w
  obtain ⟨x, r, rfl, w⟩ := ab_i.inv w1
  clear w1
  exact lv_iand hx hb hd (w ad H locs ls h1 h2 h3 hl hlen hw hS hb1 hb2)
theorem ab_j_ior (cx : ab_cx p l R s m args meth c D dA sb A k d X)  (hd : decode (mC k) pc = .ok (.ior, n)) (hn : nx = pc + n) (hln : ab_ln (.ior) n = true) (hok : ok_i k pc (.ior) au = true) (w : ab_rs (mCC d) post (ab_I p l e R s m args below meth c Q D dA sb A ad0 n0 k) h (ab_do mB mF (mR k) X (.ior) nx au lv st b h)) : ab_I p l e R s m args below meth c Q D dA sb A ad0 n0 k (pc, lv, st, b, h) := by
  obtain rfl := Nat.eq_of_beq_eq_true hln
  subst hn
  intro ad H locs ls h1 h2 h3 hl hlen hw hS hb1 hb2
  obtain ⟨hx, hb, hml, hown, hts, hK, hex, hA, hin, hR, hX, hM⟩ := cx
  obtain ⟨y, r1, rfl, w1⟩ := ab_i.inv w
  clear w
  obtain ⟨x, r, rfl, w⟩ := ab_i.inv w1
  clear w1
  exact lv_ior hx hb hd (w ad H locs ls h1 h2 h3 hl hlen hw hS hb1 hb2)
theorem ab_j_ishl (cx : ab_cx p l R s m args meth c D dA sb A k d X)  (hd : decode (mC k) pc = .ok (.ishl, n)) (hn : nx = pc + n) (hln : ab_ln (.ishl) n = true) (hok : ok_i k pc (.ishl) au = true) (w : ab_rs (mCC d) post (ab_I p l e R s m args below meth c Q D dA sb A ad0 n0 k) h (ab_do mB mF (mR k) X (.ishl) nx au lv st b h)) : ab_I p l e R s m args below meth c Q D dA sb A ad0 n0 k (pc, lv, st, b, h) := by
  obtain rfl := Nat.eq_of_beq_eq_true hln
  subst hn
  intro ad H locs ls h1 h2 h3 hl hlen hw hS hb1 hb2
  obtain ⟨hx, hb, hml, hown, hts, hK, hex, hA, hin, hR, hX, hM⟩ := cx
  obtain ⟨y, r1, rfl, w1⟩ := ab_i.inv w
  clear w
  obtain ⟨x, r, rfl, w⟩ := ab_i.inv w1
  clear w1
  exact lv_ishl hx hb hd (w ad H locs ls h1 h2 h3 hl hlen hw hS hb1 hb2)
theorem ab_j_ishr (cx : ab_cx p l R s m args meth c D dA sb A k d X)  (hd : decode (mC k) pc = .ok (.ishr, n)) (hn : nx = pc + n) (hln : ab_ln (.ishr) n = true) (hok : ok_i k pc (.ishr) au = true) (w : ab_rs (mCC d) post (ab_I p l e R s m args below meth c Q D dA sb A ad0 n0 k) h (ab_do mB mF (mR k) X (.ishr) nx au lv st b h)) : ab_I p l e R s m args below meth c Q D dA sb A ad0 n0 k (pc, lv, st, b, h) := by
  obtain rfl := Nat.eq_of_beq_eq_true hln
  subst hn
  intro ad H locs ls h1 h2 h3 hl hlen hw hS hb1 hb2
  obtain ⟨hx, hb, hml, hown, hts, hK, hex, hA, hin, hR, hX, hM⟩ := cx
  obtain ⟨y, r1, rfl, w1⟩ := ab_i.inv w
  clear w
  obtain ⟨x, r, rfl, w⟩ := ab_i.inv w1
  clear w1
  exact lv_ishr hx hb hd (w ad H locs ls h1 h2 h3 hl hlen hw hS hb1 hb2)
theorem ab_j_iushr (cx : ab_cx p l R s m args meth c D dA sb A k d X)  (hd : decode (mC k) pc = .ok (.iushr, n)) (hn : nx = pc + n) (hln : ab_ln (.iushr) n = true) (hok : ok_i k pc (.iushr) au = true) (w : ab_rs (mCC d) post (ab_I p l e R s m args below meth c Q D dA sb A ad0 n0 k) h (ab_do mB mF (mR k) X (.iushr) nx au lv st b h)) : ab_I p l e R s m args below meth c Q D dA sb A ad0 n0 k (pc, lv, st, b, h) := by
  obtain rfl := Nat.eq_of_beq_eq_true hln
  subst hn
  intro ad H locs ls h1 h2 h3 hl hlen hw hS hb1 hb2
  obtain ⟨hx, hb, hml, hown, hts, hK, hex, hA, hin, hR, hX, hM⟩ := cx
  obtain ⟨y, r1, rfl, w1⟩ := ab_i.inv w
  clear w
  obtain ⟨x, r, rfl, w⟩ := ab_i.inv w1
  clear w1
  exact lv_iushr hx hb hd rfl (w ad H locs ls h1 h2 h3 hl hlen hw hS hb1 hb2)
theorem ab_j_idiv (cx : ab_cx p l R s m args meth c D dA sb A k d X)  (hd : decode (mC k) pc = .ok (.idiv, n)) (hn : nx = pc + n) (hln : ab_ln (.idiv) n = true) (hok : ok_i k pc (.idiv) au = true) (w : ab_rs (mCC d) post (ab_I p l e R s m args below meth c Q D dA sb A ad0 n0 k) h (ab_do mB mF (mR k) X (.idiv) nx au lv st b h)) : ab_I p l e R s m args below meth c Q D dA sb A ad0 n0 k (pc, lv, st, b, h) := by
  obtain rfl := Nat.eq_of_beq_eq_true hln
  subst hn
  intro ad H locs ls h1 h2 h3 hl hlen hw hS hb1 hb2
  obtain ⟨hx, hb, hml, hown, hts, hK, hex, hA, hin, hR, hX, hM⟩ := cx
  obtain ⟨y, r1, rfl, w1⟩ := ab_i.inv w
  clear w
  obtain ⟨x, r, rfl, w⟩ := ab_i.inv w1
  clear w1
  obtain ⟨hz, w⟩ := ab_gd.inv w
  rw [Bool.not_eq_true', decide_eq_false_iff_not] at hz
  exact lv_idiv hx hb hd hz (w ad H locs ls h1 h2 h3 hl hlen hw hS hb1 hb2)
theorem ab_j_irem (cx : ab_cx p l R s m args meth c D dA sb A k d X)  (hd : decode (mC k) pc = .ok (.irem, n)) (hn : nx = pc + n) (hln : ab_ln (.irem) n = true) (hok : ok_i k pc (.irem) au = true) (w : ab_rs (mCC d) post (ab_I p l e R s m args below meth c Q D dA sb A ad0 n0 k) h (ab_do mB mF (mR k) X (.irem) nx au lv st b h)) : ab_I p l e R s m args below meth c Q D dA sb A ad0 n0 k (pc, lv, st, b, h) := by
  obtain rfl := Nat.eq_of_beq_eq_true hln
  subst hn
  intro ad H locs ls h1 h2 h3 hl hlen hw hS hb1 hb2
  obtain ⟨hx, hb, hml, hown, hts, hK, hex, hA, hin, hR, hX, hM⟩ := cx
  obtain ⟨y, r1, rfl, w1⟩ := ab_i.inv w
  clear w
  obtain ⟨x, r, rfl, w⟩ := ab_i.inv w1
  clear w1
  obtain ⟨hz, w⟩ := ab_gd.inv w
  rw [Bool.not_eq_true', decide_eq_false_iff_not] at hz
  exact lv_irem hx hb hd hz (w ad H locs ls h1 h2 h3 hl hlen hw hS hb1 hb2)
theorem ab_j_ineg (cx : ab_cx p l R s m args meth c D dA sb A k d X)  (hd : decode (mC k) pc = .ok (.ineg, n)) (hn : nx = pc + n) (hln : ab_ln (.ineg) n = true) (hok : ok_i k pc (.ineg) au = true) (w : ab_rs (mCC d) post (ab_I p l e R s m args below meth c Q D dA sb A ad0 n0 k) h (ab_do mB mF (mR k) X (.ineg) nx au lv st b h)) : ab_I p l e R s m args below meth c Q D dA sb A ad0 n0 k (pc, lv, st, b, h) := by
  obtain rfl := Nat.eq_of_beq_eq_true hln
  subst hn
  intro ad H locs ls h1 h2 h3 hl hlen hw hS hb1 hb2
  obtain ⟨hx, hb, hml, hown, hts, hK, hex, hA, hin, hR, hX, hM⟩ := cx
  obtain ⟨x, r, rfl, w⟩ := ab_i.inv w
  exact lv_ineg hx hb hd (w ad H locs ls h1 h2 h3 hl hlen hw hS hb1 hb2)
theorem ab_j_ladd (cx : ab_cx p l R s m args meth c D dA sb A k d X)  (hd : decode (mC k) pc = .ok (.ladd, n)) (hn : nx = pc + n) (hln : ab_ln (.ladd) n = true) (hok : ok_i k pc (.ladd) au = true) (w : ab_rs (mCC d) post (ab_I p l e R s m args below meth c Q D dA sb A ad0 n0 k) h (ab_do mB mF (mR k) X (.ladd) nx au lv st b h)) : ab_I p l e R s m args below meth c Q D dA sb A ad0 n0 k (pc, lv, st, b, h) := by
  obtain rfl := Nat.eq_of_beq_eq_true hln
  subst hn
  intro ad H locs ls h1 h2 h3 hl hlen hw hS hb1 hb2
  obtain ⟨hx, hb, hml, hown, hts, hK, hex, hA, hin, hR, hX, hM⟩ := cx
  obtain ⟨y, r1, rfl, w1⟩ := ab_l.inv w
  clear w
  obtain ⟨x, r, rfl, w⟩ := ab_l.inv w1
  clear w1
  exact lv_ladd hx hb hd (w ad H locs ls h1 h2 h3 hl hlen hw hS hb1 hb2)
theorem ab_j_lsub (cx : ab_cx p l R s m args meth c D dA sb A k d X)  (hd : decode (mC k) pc = .ok (.lsub, n)) (hn : nx = pc + n) (hln : ab_ln (.lsub) n = true) (hok : ok_i k pc (.lsub) au = true) (w : ab_rs (mCC d) post (ab_I p l e R s m args below meth c Q D dA sb A ad0 n0 k) h (ab_do mB mF (mR k) X (.lsub) nx au lv st b h)) : ab_I p l e R s m args below meth c Q D dA sb A ad0 n0 k (pc, lv, st, b, h) := by
  obtain rfl := Nat.eq_of_beq_eq_true hln
  subst hn
  intro ad H locs ls h1 h2 h3 hl hlen hw hS hb1 hb2
  obtain ⟨hx, hb, hml, hown, hts, hK, hex, hA, hin, hR, hX, hM⟩ := cx
  obtain ⟨y, r1, rfl, w1⟩ := ab_l.inv w
  clear w
  obtain ⟨x, r, rfl, w⟩ := ab_l.inv w1
  clear w1
  exact lv_lsub hx hb hd (w ad H locs ls h1 h2 h3 hl hlen hw hS hb1 hb2)
theorem ab_j_land (cx : ab_cx p l R s m args meth c D dA sb A k d X)  (hd : decode (mC k) pc = .ok (.land, n)) (hn : nx = pc + n) (hln : ab_ln (.land) n = true) (hok : ok_i k pc (.land) au = true) (w : ab_rs (mCC d) post (ab_I p l e R s m args below meth c Q D dA sb A ad0 n0 k) h (ab_do mB mF (mR k) X (.land) nx au lv st b h)) : ab_I p l e R s m args below meth c Q D dA sb A ad0 n0 k (pc, lv, st, b, h) := by
  obtain rfl := Nat.eq_of_beq_eq_true hln
  subst hn
  intro ad H locs ls h1 h2 h3 hl hlen hw hS hb1 hb2
  obtain ⟨hx, hb, hml, hown, hts, hK, hex, hA, hin, hR, hX, hM⟩ := cx
  obtain ⟨y, r1, rfl, w1⟩ := ab_l.inv w
  clear w
  obtain ⟨x, r, rfl, w⟩ := ab_l.inv w1
  clear w1
  exact lv_land hx hb hd (w ad H locs ls h1 h2 h3 hl hlen hw hS hb1 hb2)
theorem ab_j_lor (cx : ab_cx p l R s m args meth c D dA sb A k d X)  (hd : decode (mC k) pc = .ok (.lor, n)) (hn : nx = pc + n) (hln : ab_ln (.lor) n = true) (hok : ok_i k pc (.lor) au = true) (w : ab_rs (mCC d) post (ab_I p l e R s m args below meth c Q D dA sb A ad0 n0 k) h (ab_do mB mF (mR k) X (.lor) nx au lv st b h)) : ab_I p l e R s m args below meth c Q D dA sb A ad0 n0 k (pc, lv, st, b, h) := by
  obtain rfl := Nat.eq_of_beq_eq_true hln
  subst hn
  intro ad H locs ls h1 h2 h3 hl hlen hw hS hb1 hb2
  obtain ⟨hx, hb, hml, hown, hts, hK, hex, hA, hin, hR, hX, hM⟩ := cx
  obtain ⟨y, r1, rfl, w1⟩ := ab_l.inv w
  clear w
  obtain ⟨x, r, rfl, w⟩ := ab_l.inv w1
  clear w1
  exact lv_lor hx hb hd (w ad H locs ls h1 h2 h3 hl hlen hw hS hb1 hb2)
theorem ab_j_lxor (cx : ab_cx p l R s m args meth c D dA sb A k d X)  (hd : decode (mC k) pc = .ok (.lxor, n)) (hn : nx = pc + n) (hln : ab_ln (.lxor) n = true) (hok : ok_i k pc (.lxor) au = true) (w : ab_rs (mCC d) post (ab_I p l e R s m args below meth c Q D dA sb A ad0 n0 k) h (ab_do mB mF (mR k) X (.lxor) nx au lv st b h)) : ab_I p l e R s m args below meth c Q D dA sb A ad0 n0 k (pc, lv, st, b, h) := by
  obtain rfl := Nat.eq_of_beq_eq_true hln
  subst hn
  intro ad H locs ls h1 h2 h3 hl hlen hw hS hb1 hb2
  obtain ⟨hx, hb, hml, hown, hts, hK, hex, hA, hin, hR, hX, hM⟩ := cx
  obtain ⟨y, r1, rfl, w1⟩ := ab_l.inv w
  clear w
  obtain ⟨x, r, rfl, w⟩ := ab_l.inv w1
  clear w1
  exact lv_lxor hx hb hd (w ad H locs ls h1 h2 h3 hl hlen hw hS hb1 hb2)
theorem ab_j_lneg (cx : ab_cx p l R s m args meth c D dA sb A k d X)  (hd : decode (mC k) pc = .ok (.lneg, n)) (hn : nx = pc + n) (hln : ab_ln (.lneg) n = true) (hok : ok_i k pc (.lneg) au = true) (w : ab_rs (mCC d) post (ab_I p l e R s m args below meth c Q D dA sb A ad0 n0 k) h (ab_do mB mF (mR k) X (.lneg) nx au lv st b h)) : ab_I p l e R s m args below meth c Q D dA sb A ad0 n0 k (pc, lv, st, b, h) := by
  obtain rfl := Nat.eq_of_beq_eq_true hln
  subst hn
  intro ad H locs ls h1 h2 h3 hl hlen hw hS hb1 hb2
  obtain ⟨hx, hb, hml, hown, hts, hK, hex, hA, hin, hR, hX, hM⟩ := cx
  obtain ⟨x, r, rfl, w⟩ := ab_l.inv w
  exact lv_lneg hx hb hd (w ad H locs ls h1 h2 h3 hl hlen hw hS hb1 hb2)
theorem ab_j_lshl (cx : ab_cx p l R s m args meth c D dA sb A k d X)  (hd : decode (mC k) pc = .ok (.lshl, n)) (hn : nx = pc + n) (hln : ab_ln (.lshl) n = true) (hok : ok_i k pc (.lshl) au = true) (w : ab_rs (mCC d) post (ab_I p l e R s m args below meth c Q D dA sb A ad0 n0 k) h (ab_do mB mF (mR k) X (.lshl) nx au lv st b h)) : ab_I p l e R s m args below meth c Q D dA sb A ad0 n0 k (pc, lv, st, b, h) := by
  obtain rfl := Nat.eq_of_beq_eq_true hln
  subst hn
  intro ad H locs ls h1 h2 h3 hl hlen hw hS hb1 hb2
  obtain ⟨hx, hb, hml, hown, hts, hK, hex, hA, hin, hR, hX, hM⟩ := cx
  obtain ⟨y, r1, rfl, w1⟩ := ab_i.inv w
  clear w
  obtain ⟨x, r, rfl, w⟩ := ab_l.inv w1
  clear w1
  exact lv_lshl hx hb hd rfl (w ad H locs ls h1 h2 h3 hl hlen hw hS hb1 hb2)
theorem ab_j_lshr (cx : ab_cx p l R s m args meth c D dA sb A k d X)  (hd : decode (mC k) pc = .ok (.lshr, n)) (hn : nx = pc + n) (hln : ab_ln (.lshr) n = true) (hok : ok_i k pc (.lshr) au = true) (w : ab_rs (mCC d) post (ab_I p l e R s m args below meth c Q D dA sb A ad0 n0 k) h (ab_do mB mF (mR k) X (.lshr) nx au lv st b h)) : ab_I p l e R s m args below meth c Q D dA sb A ad0 n0 k (pc, lv, st, b, h) := by
  obtain rfl := Nat.eq_of_beq_eq_true hln
  subst hn
  intro ad H locs ls h1 h2 h3 hl hlen hw hS hb1 hb2
  obtain ⟨hx, hb, hml, hown, hts, hK, hex, hA, hin, hR, hX, hM⟩ := cx
  obtain ⟨y, r1, rfl, w1⟩ := ab_i.inv w
  clear w
  obtain ⟨x, r, rfl, w⟩ := ab_l.inv w1
  clear w1
  exact lv_lshr hx hb hd rfl (w ad H locs ls h1 h2 h3 hl hlen hw hS hb1 hb2)
theorem ab_j_lushr (cx : ab_cx p l R s m args meth c D dA sb A k d X)  (hd : decode (mC k) pc = .ok (.lushr, n)) (hn : nx = pc + n) (hln : ab_ln (.lushr) n = true) (hok : ok_i k pc (.lushr) au = true) (w : ab_rs (mCC d) post (ab_I p l e R s m args below meth c Q D dA sb A ad0 n0 k) h (ab_do mB mF (mR k) X (.lushr) nx au lv st b h)) : ab_I p l e R s m args below meth c Q D dA sb A ad0 n0 k (pc, lv, st, b, h) := by
  obtain rfl := Nat.eq_of_beq_eq_true hln
  subst hn
  intro ad H locs ls h1 h2 h3 hl hlen hw hS hb1 hb2
  obtain ⟨hx, hb, hml, hown, hts, hK, hex, hA, hin, hR, hX, hM⟩ := cx
  obtain ⟨y, r1, rfl, w1⟩ := ab_i.inv w
  clear w
  obtain ⟨x, r, rfl, w⟩ := ab_l.inv w1
  clear w1
  exact lv_lushr hx hb hd rfl (w ad H locs ls h1 h2 h3 hl hlen hw hS hb1 hb2)
theorem ab_j_lcmp (cx : ab_cx p l R s m args meth c D dA sb A k d X)  (hd : decode (mC k) pc = .ok (.lcmp, n)) (hn : nx = pc + n) (hln : ab_ln (.lcmp) n = true) (hok : ok_i k pc (.lcmp) au = true) (w : ab_rs (mCC d) post (ab_I p l e R s m args below meth c Q D dA sb A ad0 n0 k) h (ab_do mB mF (mR k) X (.lcmp) nx au lv st b h)) : ab_I p l e R s m args below meth c Q D dA sb A ad0 n0 k (pc, lv, st, b, h) := by
  obtain rfl := Nat.eq_of_beq_eq_true hln
  subst hn
  intro ad H locs ls h1 h2 h3 hl hlen hw hS hb1 hb2
  obtain ⟨hx, hb, hml, hown, hts, hK, hex, hA, hin, hR, hX, hM⟩ := cx
  obtain ⟨y, r1, rfl, w1⟩ := ab_l.inv w
  clear w
  obtain ⟨x, r, rfl, w⟩ := ab_l.inv w1
  clear w1
  exact W.lcmp hx hb hd (w ad H locs ls h1 h2 h3 hl hlen hw hS hb1 hb2)
theorem ab_j_l2i (cx : ab_cx p l R s m args meth c D dA sb A k d X)  (hd : decode (mC k) pc = .ok (.l2i, n)) (hn : nx = pc + n) (hln : ab_ln (.l2i) n = true) (hok : ok_i k pc (.l2i) au = true) (w : ab_rs (mCC d) post (ab_I p l e R s m args below meth c Q D dA sb A ad0 n0 k) h (ab_do mB mF (mR k) X (.l2i) nx au lv st b h)) : ab_I p l e R s m args below meth c Q D dA sb A ad0 n0 k (pc, lv, st, b, h) := by
  obtain rfl := Nat.eq_of_beq_eq_true hln
  subst hn
  intro ad H locs ls h1 h2 h3 hl hlen hw hS hb1 hb2
  obtain ⟨hx, hb, hml, hown, hts, hK, hex, hA, hin, hR, hX, hM⟩ := cx
  obtain ⟨x, r, rfl, w⟩ := ab_l.inv w
  exact lv_l2i hx hb hd rfl (w ad H locs ls h1 h2 h3 hl hlen hw hS hb1 hb2)
theorem ab_j_dup (cx : ab_cx p l R s m args meth c D dA sb A k d X)  (hd : decode (mC k) pc = .ok (.dup, n)) (hn : nx = pc + n) (hln : ab_ln (.dup) n = true) (hok : ok_i k pc (.dup) au = true) (w : ab_rs (mCC d) post (ab_I p l e R s m args below meth c Q D dA sb A ad0 n0 k) h (ab_do mB mF (mR k) X (.dup) nx au lv st b h)) : ab_I p l e R s m args below meth c Q D dA sb A ad0 n0 k (pc, lv, st, b, h) := by
  obtain rfl := Nat.eq_of_beq_eq_true hln
  subst hn
  intro ad H locs ls h1 h2 h3 hl hlen hw hS hb1 hb2
  obtain ⟨hx, hb, hml, hown, hts, hK, hex, hA, hin, hR, hX, hM⟩ := cx
  obtain ⟨v, r, rfl, w⟩ := ab_v.inv w
  obtain ⟨hz, w⟩ := ab_gd.inv w
  rw [Bool.not_eq_true'] at hz
  exact lv_dup hx hb hd ((ab_cat1 ad sb v).trans (ab_c2_cat hz)) (w ad H locs ls h1 h2 h3 hl hlen hw hS hb1 hb2)
theorem ab_j_pop (cx : ab_cx p l R s m args meth c D dA sb A k d X)  (hd : decode (mC k) pc = .ok (.pop, n)) (hn : nx = pc + n) (hln : ab_ln (.pop) n = true) (hok : ok_i k pc (.pop) au = true) (w : ab_rs (mCC d) post (ab_I p l e R s m args below meth c Q D dA sb A ad0 n0 k) h (ab_do mB mF (mR k) X (.pop) nx au lv st b h)) : ab_I p l e R s m args below meth c Q D dA sb A ad0 n0 k (pc, lv, st, b, h) := by
  obtain rfl := Nat.eq_of_beq_eq_true hln
  subst hn
  intro ad H locs ls h1 h2 h3 hl hlen hw hS hb1 hb2
  obtain ⟨hx, hb, hml, hown, hts, hK, hex, hA, hin, hR, hX, hM⟩ := cx
  obtain ⟨v, r, rfl, w⟩ := ab_v.inv w
  obtain ⟨hz, w⟩ := ab_gd.inv w
  rw [Bool.not_eq_true'] at hz
  exact lv_pop hx hb hd ((ab_cat1 ad sb v).trans (ab_c2_cat hz)) (w ad H locs ls h1 h2 h3 hl hlen hw hS hb1 hb2)
theorem ab_j_dup2 (cx : ab_cx p l R s m args meth c D dA sb A k d X)  (hd : decode (mC k) pc = .ok (.dup2, n)) (hn : nx = pc + n) (hln : ab_ln (.dup2) n = true) (hok : ok_i k pc (.dup2) au = true) (w : ab_rs (mCC d) post (ab_I p l e R s m args below meth c Q D dA sb A ad0 n0 k) h (ab_do mB mF (mR k) X (.dup2) nx au lv st b h)) : ab_I p l e R s m args below meth c Q D dA sb A ad0 n0 k (pc, lv, st, b, h) := by
  obtain rfl := Nat.eq_of_beq_eq_true hln
  subst hn
  intro ad H locs ls h1 h2 h3 hl hlen hw hS hb1 hb2
  obtain ⟨hx, hb, hml, hown, hts, hK, hex, hA, hin, hR, hX, hM⟩ := cx
  obtain ⟨v, r, rfl, w⟩ := ab_v.inv w
  obtain ⟨u, r, rfl, w⟩ := ab_v.inv w
  obtain ⟨hz, w⟩ := ab_gd.inv w
  rw [Bool.and_eq_true, Bool.not_eq_true', Bool.not_eq_true'] at hz
  exact lv_dup2_11 hx hb hd ((ab_cat1 ad sb v).trans (ab_c2_cat hz.1)) ((ab_cat1 ad sb u).trans (ab_c2_cat hz.2)) (w ad H locs ls h1 h2 h3 hl hlen hw hS hb1 hb2)
theorem ab_j_goto (cx : ab_cx p l R s m args meth c D dA sb A k d X) (o : Int) (hd : decode (mC k) pc = .ok (.goto o, n)) (hn : nx = pc + n) (hln : ab_ln (.goto o) n = true) (hok : ok_i k pc (.goto o) au = true) (w : ab_rs (mCC d) post (ab_I p l e R s m args below meth c Q D dA sb A ad0 n0 k) h (ab_do mB mF (mR k) X (.goto o) nx au lv st b h)) : ab_I p l e R s m args below meth c Q D dA sb A ad0 n0 k (pc, lv, st, b, h) := by
  obtain rfl := Nat.eq_of_beq_eq_true hln
  subst hn
  intro ad H locs ls h1 h2 h3 hl hlen hw hS hb1 hb2
  obtain ⟨hx, hb, hml, hown, hts, hK, hex, hA, hin, hR, hX, hM⟩ := cx
  obtain ⟨t, ar, rfl, w1⟩ := ab_jp.inv w
  clear w
  have w := w1
  clear w1
  have ht : (pc : Int) + o = (t : Int) := by
    dsimp only [ok_i] at hok
    split at hok
    · rename_i he
      rw [(List.cons.inj he).1]
      exact of_decide_eq_true hok
    · cases hok
  exact lv_goto hx hb hd ht (w ad H locs ls h1 h2 h3 hl hlen hw hS hb1 hb2)
theorem ab_j_ifnull (cx : ab_cx p l R s m args meth c D dA sb A k d X) (o : Int) (hd : decode (mC k) pc = .ok (.ifnull o, n)) (hn : nx = pc + n) (hln : ab_ln (.ifnull o) n = true) (hok : ok_i k pc (.ifnull o) au = true) (w : ab_rs (mCC d) post (ab_I p l e R s m args below meth c Q D dA sb A ad0 n0 k) h (ab_do mB mF (mR k) X (.ifnull o) nx au lv st b h)) : ab_I p l e R s m args below meth c Q D dA sb A ad0 n0 k (pc, lv, st, b, h) := by
  obtain rfl := Nat.eq_of_beq_eq_true hln
  subst hn
  intro ad H locs ls h1 h2 h3 hl hlen hw hS hb1 hb2
  obtain ⟨hx, hb, hml, hown, hts, hK, hex, hA, hin, hR, hX, hM⟩ := cx
  obtain ⟨t, ar, rfl, w1⟩ := ab_jp.inv w
  clear w
  have w := w1
  clear w1
  have ht : (pc : Int) + o = (t : Int) := by
    dsimp only [ok_i] at hok
    split at hok
    · rename_i he
      rw [(List.cons.inj he).1]
      exact of_decide_eq_true hok
    · cases hok
  split at w
  · exact lv_ifnullN hx hb hd ht (w ad H locs ls h1 h2 h3 hl hlen hw hS hb1 hb2)
  · exact lv_ifnull hx hb hd (w ad H locs ls h1 h2 h3 hl hlen hw hS hb1 hb2)
  · cases w
theorem ab_j_ifnonnull (cx : ab_cx p l R s m args meth c D dA sb A k d X) (o : Int) (hd : decode (mC k) pc = .ok (.ifnonnull o, n)) (hn : nx = pc + n) (hln : ab_ln (.ifnonnull o) n = true) (hok : ok_i k pc (.ifnonnull o) au = true) (w : ab_rs (mCC d) post (ab_I p l e R s m args below meth c Q D dA sb A ad0 n0 k) h (ab_do mB mF (mR k) X (.ifnonnull o) nx au lv st b h)) : ab_I p l e R s m args below meth c Q D dA sb A ad0 n0 k (pc, lv, st, b, h) := by
  obtain rfl := Nat.eq_of_beq_eq_true hln
  subst hn
  intro ad H locs ls h1 h2 h3 hl hlen hw hS hb1 hb2
  obtain ⟨hx, hb, hml, hown, hts, hK, hex, hA, hin, hR, hX, hM⟩ := cx
  obtain ⟨t, ar, rfl, w1⟩ := ab_jp.inv w
  clear w
  have w := w1
  clear w1
  have ht : (pc : Int) + o = (t : Int) := by
    dsimp only [ok_i] at hok
    split at hok
    · rename_i he
      rw [(List.cons.inj he).1]
      exact of_decide_eq_true hok
    · cases hok
  split at w
  · exact lv_ifnonnullN hx hb hd (w ad H locs ls h1 h2 h3 hl hlen hw hS hb1 hb2)
  · exact lv_ifnonnull hx hb hd ht (w ad H locs ls h1 h2 h3 hl hlen hw hS hb1 hb2)
  · cases w
theorem ab_j_ifCond_eq (cx : ab_cx p l R s m args meth c D dA sb A k d X) (o : Int) (hd : decode (mC k) pc = .ok (.ifCond .eq o, n)) (hn : nx = pc + n) (hln : ab_ln (.ifCond .eq o) n = true) (hok : ok_i k pc (.ifCond .eq o) au = true) (w : ab_rs (mCC d) post (ab_I p l e R s m args below meth c Q D dA sb A ad0 n0 k) h (ab_do mB mF (mR k) X (.ifCond .eq o) nx au lv st b h)) : ab_I p l e R s m args below meth c Q D dA sb A ad0 n0 k (pc, lv, st, b, h) := by
  obtain rfl := Nat.eq_of_beq_eq_true hln
  subst hn
  intro ad H locs ls h1 h2 h3 hl hlen hw hS hb1 hb2
  obtain ⟨hx, hb, hml, hown, hts, hK, hex, hA, hin, hR, hX, hM⟩ := cx
  obtain ⟨t, ar, rfl, w1⟩ := ab_jp.inv w
  clear w
  have w := w1
  clear w1
  have ht : (pc : Int) + o = (t : Int) := by
    dsimp only [ok_i] at hok
    split at hok
    · rename_i he
      rw [(List.cons.inj he).1]
      exact of_decide_eq_true hok
    · cases hok
  obtain ⟨x, r, rfl, w⟩ := ab_i.inv w
  have w := ab_ite.inv w
  exact lv_if_eq hx hb hd ht (fun q => w.1 q ad H locs ls h1 h2 h3 hl hlen hw hS hb1 hb2) (fun q => w.2 q ad H locs ls h1 h2 h3 hl hlen hw hS hb1 hb2)
theorem ab_j_ifCond_ne (cx : ab_cx p l R s m args meth c D dA sb A k d X) (o : Int) (hd : decode (mC k) pc = .ok (.ifCond .ne o, n)) (hn : nx = pc + n) (hln : ab_ln (.ifCond .ne o) n = true) (hok : ok_i k pc (.ifCond .ne o) au = true) (w : ab_rs (mCC d) post (ab_I p l e R s m args below meth c Q D dA sb A ad0 n0 k) h (ab_do mB mF (mR k) X (.ifCond .ne o) nx au lv st b h)) : ab_I p l e R s m args below meth c Q D dA sb A ad0 n0 k (pc, lv, st, b, h) := by
  obtain rfl := Nat.eq_of_beq_eq_true hln
  subst hn
  intro ad H locs ls h1 h2 h3 hl hlen hw hS hb1 hb2
  obtain ⟨hx, hb, hml, hown, hts, hK, hex, hA, hin, hR, hX, hM⟩ := cx
  obtain ⟨t, ar, rfl, w1⟩ := ab_jp.inv w
  clear w
  have w := w1
  clear w1
  have ht : (pc : Int) + o = (t : Int) := by
    dsimp only [ok_i] at hok
    split at hok
    · rename_i he
      rw [(List.cons.inj he).1]
      exact of_decide_eq_true hok
    · cases hok
  obtain ⟨x, r, rfl, w⟩ := ab_i.inv w
  have w := ab_ite.inv w
  exact lv_if_ne hx hb hd ht (fun q => w.2 q ad H locs ls h1 h2 h3 hl hlen hw hS hb1 hb2) (fun q => w.1 q ad H locs ls h1 h2 h3 hl hlen hw hS hb1 hb2)
theorem ab_j_ifCond_lt (cx : ab_cx p l R s m args meth c D dA sb A k d X) (o : Int) (hd : decode (mC k) pc = .ok (.ifCond .lt o, n)) (hn : nx = pc + n) (hln : ab_ln (.ifCond .lt o) n = true) (hok : ok_i k pc (.ifCond .lt o) au = true) (w : ab_rs (mCC d) post (ab_I p l e R s m args below meth c Q D dA sb A ad0 n0 k) h (ab_do mB mF (mR k) X (.ifCond .lt o) nx au lv st b h)) : ab_I p l e R s m args below meth c Q D dA sb A ad0 n0 k (pc, lv, st, b, h) := by
  obtain rfl := Nat.eq_of_beq_eq_true hln
  subst hn
  intro ad H locs ls h1 h2 h3 hl hlen hw hS hb1 hb2
  obtain ⟨hx, hb, hml, hown, hts, hK, hex, hA, hin, hR, hX, hM⟩ := cx
  obtain ⟨t, ar, rfl, w1⟩ := ab_jp.inv w
  clear w
  have w := w1
  clear w1
  have ht : (pc : Int) + o = (t : Int) := by
    dsimp only [ok_i] at hok
    split at hok
    · rename_i he
      rw [(List.cons.inj he).1]
      exact of_decide_eq_true hok
    · cases hok
  obtain ⟨x, r, rfl, w⟩ := ab_i.inv w
  have w := ab_ite.inv w
  exact lv_if_lt hx hb hd ht (fun q => w.1 q ad H locs ls h1 h2 h3 hl hlen hw hS hb1 hb2) (fun q => w.2 q ad H locs ls h1 h2 h3 hl hlen hw hS hb1 hb2)
theorem ab_j_ifCond_ge (cx : ab_cx p l R s m args meth c D dA sb A k d X) (o : Int) (hd : decode (mC k) pc = .ok (.ifCond .ge o, n)) (hn : nx = pc + n) (hln : ab_ln (.ifCond .ge o) n = true) (hok : ok_i k pc (.ifCond .ge o) au = true) (w : ab_rs (mCC d) post (ab_I p l e R s m args below meth c Q D dA sb A ad0 n0 k) h (ab_do mB mF (mR k) X (.ifCond .ge o) nx au lv st b h)) : ab_I p l e R s m args below meth c Q D dA sb A ad0 n0 k (pc, lv, st, b, h) := by
  obtain rfl := Nat.eq_of_beq_eq_true hln
  subst hn
  intro ad H locs ls h1 h2 h3 hl hlen hw hS hb1 hb2
  obtain ⟨hx, hb, hml, hown, hts, hK, hex, hA, hin, hR, hX, hM⟩ := cx
  obtain ⟨t, ar, rfl, w1⟩ := ab_jp.inv w
  clear w
  have w := w1
  clear w1
  have ht : (pc : Int) + o = (t : Int) := by
    dsimp only [ok_i] at hok
    split at hok
    · rename_i he
      rw [(List.cons.inj he).1]
      exact of_decide_eq_true hok
    · cases hok
  obtain ⟨x, r, rfl, w⟩ := ab_i.inv w
  have w := ab_ite.inv w
  exact lv_if_ge hx hb hd ht (fun q => w.1 q ad H locs ls h1 h2 h3 hl hlen hw hS hb1 hb2) (fun q => w.2 q ad H locs ls h1 h2 h3 hl hlen hw hS hb1 hb2)
theorem ab_j_ifCond_gt (cx : ab_cx p l R s m args meth c D dA sb A k d X) (o : Int) (hd : decode (mC k) pc = .ok (.ifCond .gt o, n)) (hn : nx = pc + n) (hln : ab_ln (.ifCond .gt o) n = true) (hok : ok_i k pc (.ifCond .gt o) au = true) (w : ab_rs (mCC d) post (ab_I p l e R s m args below meth c Q D dA sb A ad0 n0 k) h (ab_do mB mF (mR k) X (.ifCond .gt o) nx au lv st b h)) : ab_I p l e R s m args below meth c Q D dA sb A ad0 n0 k (pc, lv, st, b, h) := by
  obtain rfl := Nat.eq_of_beq_eq_true hln
  subst hn
  intro ad H locs ls h1 h2 h3 hl hlen hw hS hb1 hb2
  obtain ⟨hx, hb, hml, hown, hts, hK, hex, hA, hin, hR, hX, hM⟩ := cx
  obtain ⟨t, ar, rfl, w1⟩ := ab_jp.inv w
  clear w
  have w := w1
  clear w1
  have ht : (pc : Int) + o = (t : Int) := by
    dsimp only [ok_i] at hok
    split at hok
    · rename_i he
      rw [(List.cons.inj he).1]
      exact of_decide_eq_true hok
    · cases hok
  obtain ⟨x, r, rfl, w⟩ := ab_i.inv w
  have w := ab_ite.inv w
  exact lv_if_gt hx hb hd ht (fun q => w.1 q ad H locs ls h1 h2 h3 hl hlen hw hS hb1 hb2) (fun q => w.2 q ad H locs ls h1 h2 h3 hl hlen hw hS hb1 hb2)
theorem ab_j_ifCond_le (cx : ab_cx p l R s m args meth c D dA sb A k d X) (o : Int) (hd : decode (mC k) pc = .ok (.ifCond .le o, n)) (hn : nx = pc + n) (hln : ab_ln (.ifCond .le o) n = true) (hok : ok_i k pc (.ifCond .le o) au = true) (w : ab_rs (mCC d) post (ab_I p l e R s m args below meth c Q D dA sb A ad0 n0 k) h (ab_do mB mF (mR k) X (.ifCond .le o) nx au lv st b h)) : ab_I p l e R s m args below meth c Q D dA sb A ad0 n0 k (pc, lv, st, b, h) := by
  obtain rfl := Nat.eq_of_beq_eq_true hln
  subst hn
  intro ad H locs ls h1 h2 h3 hl hlen hw hS hb1 hb2
  obtain ⟨hx, hb, hml, hown, hts, hK, hex, hA, hin, hR, hX, hM⟩ := cx
  obtain ⟨t, ar, rfl, w1⟩ := ab_jp.inv w
  clear w
  have w := w1
  clear w1
  have ht : (pc : Int) + o = (t : Int) := by
    dsimp only [ok_i] at hok
    split at hok
    · rename_i he
      rw [(List.cons.inj he).1]
      exact of_decide_eq_true hok
    · cases hok
  obtain ⟨x, r, rfl, w⟩ := ab_i.inv w
  have w := ab_ite.inv w
  exact lv_if_le hx hb hd ht (fun q => w.1 q ad H locs ls h1 h2 h3 hl hlen hw hS hb1 hb2) (fun q => w.2 q ad H locs ls h1 h2 h3 hl hlen hw hS hb1 hb2)
theorem ab_j_if_icmp_eq (cx : ab_cx p l R s m args meth c D dA sb A k d X) (o : Int) (hd : decode (mC k) pc = .ok (.if_icmp .eq o, n)) (hn : nx = pc + n) (hln : ab_ln (.if_icmp .eq o) n = true) (hok : ok_i k pc (.if_icmp .eq o) au = true) (w : ab_rs (mCC d) post (ab_I p l e R s m args below meth c Q D dA sb A ad0 n0 k) h (ab_do mB mF (mR k) X (.if_icmp .eq o) nx au lv st b h)) : ab_I p l e R s m args below meth c Q D dA sb A ad0 n0 k (pc, lv, st, b, h) := by
  obtain rfl := Nat.eq_of_beq_eq_true hln
  subst hn
  intro ad H locs ls h1 h2 h3 hl hlen hw hS hb1 hb2
  obtain ⟨hx, hb, hml, hown, hts, hK, hex, hA, hin, hR, hX, hM⟩ := cx
  obtain ⟨t, ar, rfl, w1⟩ := ab_jp.inv w
  clear w
  have w := w1
  clear w1
  have ht : (pc : Int) + o = (t : Int) := by
    dsimp only [ok_i] at hok
    split at hok
    · rename_i he
      rw [(List.cons.inj he).1]
      exact of_decide_eq_true hok
    · cases hok
  obtain ⟨y, r1, rfl, w1⟩ := ab_i.inv w
  clear w
  obtain ⟨x, r, rfl, w⟩ := ab_i.inv w1
  clear w1
  have w := ab_ite.inv w
  exact lv_icmp_eq hx hb hd ht (fun q => w.1 q ad H locs ls h1 h2 h3 hl hlen hw hS hb1 hb2) (fun q => w.2 q ad H locs ls h1 h2 h3 hl hlen hw hS hb1 hb2)
theorem ab_j_if_icmp_ne (cx : ab_cx p l R s m args meth c D dA sb A k d X) (o : Int) (hd : decode (mC k) pc = .ok (.if_icmp .ne o, n)) (hn : nx = pc + n) (hln : ab_ln (.if_icmp .ne o) n = true) (hok : ok_i k pc (.if_icmp .ne o) au = true) (w : ab_rs (mCC d) post (ab_I p l e R s m args below meth c Q D dA sb A ad0 n0 k) h (ab_do mB mF (mR k) X (.if_icmp .ne o) nx au lv st b h)) : ab_I p l e R s m args below meth c Q D dA sb A ad0 n0 k (pc, lv, st, b, h) := by
  obtain rfl := Nat.eq_of_beq_eq_true hln
  subst hn
  intro ad H locs ls h1 h2 h3 hl hlen hw hS hb1 hb2
  obtain ⟨hx, hb, hml, hown, hts, hK, hex, hA, hin, hR, hX, hM⟩ := cx
  obtain ⟨t, ar, rfl, w1⟩ := ab_jp.inv w
  clear w
  have w := w1
  clear w1
  have ht : (pc : Int) + o = (t : Int) := by
    dsimp only [ok_i] at hok
    split at hok
    · rename_i he
      rw [(List.cons.inj he).1]
      exact of_decide_eq_true hok
    · cases hok
  obtain ⟨y, r1, rfl, w1⟩ := ab_i.inv w
  clear w
  obtain ⟨x, r, rfl, w⟩ := ab_i.inv w1
  clear w1
  have w := ab_ite.inv w
  exact lv_icmp_ne hx hb hd ht (fun q => w.2 q ad H locs ls h1 h2 h3 hl hlen hw hS hb1 hb2) (fun q => w.1 q ad H locs ls h1 h2 h3 hl hlen hw hS hb1 hb2)
theorem ab_j_if_icmp_lt (cx : ab_cx p l R s m args meth c D dA sb A k d X) (o : Int) (hd : decode (mC k) pc = .ok (.if_icmp .lt o, n)) (hn : nx = pc + n) (hln : ab_ln (.if_icmp .lt o) n = true) (hok : ok_i k pc (.if_icmp .lt o) au = true) (w : ab_rs (mCC d) post (ab_I p l e R s m args below meth c Q D dA sb A ad0 n0 k) h (ab_do mB mF (mR k) X (.if_icmp .lt o) nx au lv st b h)) : ab_I p l e R s m args below meth c Q D dA sb A ad0 n0 k (pc, lv, st, b, h) := by
  obtain rfl := Nat.eq_of_beq_eq_true hln
  subst hn
  intro ad H locs ls h1 h2 h3 hl hlen hw hS hb1 hb2
  obtain ⟨hx, hb, hml, hown, hts, hK, hex, hA, hin, hR, hX, hM⟩ := cx
  obtain ⟨t, ar, rfl, w1⟩ := ab_jp.inv w
  clear w
  have w := w1
  clear w1
  have ht : (pc : Int) + o = (t : Int) := by
    dsimp only [ok_i] at hok
    split at hok
    · rename_i he
      rw [(List.cons.inj he).1]
      exact of_decide_eq_true hok
    · cases hok
  obtain ⟨y, r1, rfl, w1⟩ := ab_i.inv w
  clear w
  obtain ⟨x, r, rfl, w⟩ := ab_i.inv w1
  clear w1
  have w := ab_ite.inv w
  exact lv_icmp_lt hx hb hd ht (fun q => w.1 q ad H locs ls h1 h2 h3 hl hlen hw hS hb1 hb2) (fun q => w.2 q ad H locs ls h1 h2 h3 hl hlen hw hS hb1 hb2)
theorem ab_j_if_icmp_ge (cx : ab_cx p l R s m args meth c D dA sb A k d X) (o : Int) (hd : decode (mC k) pc = .ok (.if_icmp .ge o, n)) (hn : nx = pc + n) (hln : ab_ln (.if_icmp .ge o) n = true) (hok : ok_i k pc (.if_icmp .ge o) au = true) (w : ab_rs (mCC d) post (ab_I p l e R s m args below meth c Q D dA sb A ad0 n0 k) h (ab_do mB mF (mR k) X (.if_icmp .ge o) nx au lv st b h)) : ab_I p l e R s m args below meth c Q D dA sb A ad0 n0 k (pc, lv, st, b, h) := by
  obtain rfl := Nat.eq_of_beq_eq_true hln
  subst hn
  intro ad H locs ls h1 h2 h3 hl hlen hw hS hb1 hb2
  obtain ⟨hx, hb, hml, hown, hts, hK, hex, hA, hin, hR, hX, hM⟩ := cx
  obtain ⟨t, ar, rfl, w1⟩ := ab_jp.inv w
  clear w
  have w := w1
  clear w1
  have ht : (pc : Int) + o = (t : Int) := by
    dsimp only [ok_i] at hok
    split at hok
    · rename_i he
      rw [(List.cons.inj he).1]
      exact of_decide_eq_true hok
    · cases hok
  obtain ⟨y, r1, rfl, w1⟩ := ab_i.inv w
  clear w
  obtain ⟨x, r, rfl, w⟩ := ab_i.inv w1
  clear w1
  have w := ab_ite.inv w
  exact lv_icmp_ge hx hb hd ht (fun q => w.1 q ad H locs ls h1 h2 h3 hl hlen hw hS hb1 hb2) (fun q => w.2 q ad H locs ls h1 h2 h3 hl hlen hw hS hb1 hb2)
theorem ab_j_if_icmp_gt (cx : ab_cx p l R s m args meth c D dA sb A k d X) (o : Int) (hd : decode (mC k) pc = .ok (.if_icmp .gt o, n)) (hn : nx = pc + n) (hln : ab_ln (.if_icmp .gt o) n = true) (hok : ok_i k pc (.if_icmp .gt o) au = true) (w : ab_rs (mCC d) post (ab_I p l e R s m args below meth c Q D dA sb A ad0 n0 k) h (ab_do mB mF (mR k) X (.if_icmp .gt o) nx au lv st b h)) : ab_I p l e R s m args below meth c Q D dA sb A ad0 n0 k (pc, lv, st, b, h) := by
  obtain rfl := Nat.eq_of_beq_eq_true hln
  subst hn
  intro ad H locs ls h1 h2 h3 hl hlen hw hS hb1 hb2
  obtain ⟨hx, hb, hml, hown, hts, hK, hex, hA, hin, hR, hX, hM⟩ := cx
  obtain ⟨t, ar, rfl, w1⟩ := ab_jp.inv w
  clear w
  have w := w1
  clear w1
  have ht : (pc : Int) + o = (t : Int) := by
    dsimp only [ok_i] at hok
    split at hok
    · rename_i he
      rw [(List.cons.inj he).1]
      exact of_decide_eq_true hok
    · cases hok
  obtain ⟨y, r1, rfl, w1⟩ := ab_i.inv w
  clear w
  obtain ⟨x, r, rfl, w⟩ := ab_i.inv w1
  clear w1
  have w := ab_ite.inv w
  exact lv_icmp_gt hx hb hd ht (fun q => w.1 q ad H locs ls h1 h2 h3 hl hlen hw hS hb1 hb2) (fun q => w.2 q ad H locs ls h1 h2 h3 hl hlen hw hS hb1 hb2)
theorem ab_j_if_icmp_le (cx : ab_cx p l R s m args meth c D dA sb A k d X) (o : Int) (hd : decode (mC k) pc = .ok (.if_icmp .le o, n)) (hn : nx = pc + n) (hln : ab_ln (.if_icmp .le o) n = true) (hok : ok_i k pc (.if_icmp .le o) au = true) (w : ab_rs (mCC d) post (ab_I p l e R s m args below meth c Q D dA sb A ad0 n0 k) h (ab_do mB mF (mR k) X (.if_icmp .le o) nx au lv st b h)) : ab_I p l e R s m args below meth c Q D dA sb A ad0 n0 k (pc, lv, st, b, h) := by
  obtain rfl := Nat.eq_of_beq_eq_true hln
  subst hn
  intro ad H locs ls h1 h2 h3 hl hlen hw hS hb1 hb2
  obtain ⟨hx, hb, hml, hown, hts, hK, hex, hA, hin, hR, hX, hM⟩ := cx
  obtain ⟨t, ar, rfl, w1⟩ := ab_jp.inv w
  clear w
  have w := w1
  clear w1
  have ht : (pc : Int) + o = (t : Int) := by
    dsimp only [ok_i] at hok
    split at hok
    · rename_i he
      rw [(List.cons.inj he).1]
      exact of_decide_eq_true hok
    · cases hok
  obtain ⟨y, r1, rfl, w1⟩ := ab_i.inv w
  clear w
  obtain ⟨x, r, rfl, w⟩ := ab_i.inv w1
  clear w1
  have w := ab_ite.inv w
  exact lv_icmp_le hx hb hd ht (fun q => w.1 q ad H locs ls h1 h2 h3 hl hlen hw hS hb1 hb2) (fun q => w.2 q ad H locs ls h1 h2 h3 hl hlen hw hS hb1 hb2)
theorem ab_j_tableswitch (cx : ab_cx p l R s m args meth c D dA sb A k d X) (df lo hi : Int) (offs : Array Int) (hd : decode (mC k) pc = .ok (.tableswitch df lo hi offs, n)) (hn : nx = pc + n) (hln : ab_ln (.tableswitch df lo hi offs) n = true) (hok : ok_i k pc (.tableswitch df lo hi offs) au = true) (w : ab_rs (mCC d) post (ab_I p l e R s m args below meth c Q D dA sb A ad0 n0 k) h (ab_do mB mF (mR k) X (.tableswitch df lo hi offs) nx au lv st b h)) : ab_I p l e R s m args below meth c Q D dA sb A ad0 n0 k (pc, lv, st, b, h) := by
  subst hn
  intro ad H locs ls h1 h2 h3 hl hlen hw hS hb1 hb2
  obtain ⟨hx, hb, hml, hown, hts, hK, hex, hA, hin, hR, hX, hM⟩ := cx
  obtain ⟨x, r, rfl, w1⟩ := ab_i.inv w
  clear w
  have w := w1
  clear w1
  rcases au with _ | ⟨t, ts⟩
  · cases hok
  · replace hok := (Bool.and_eq_true _ _).mp hok
    have ht : (pc : Int) + df = (t : Int) := of_decide_eq_true hok.1
    have hts2 : offs.toList.map (fun o => (pc : Int) + o) = ts.map (fun (t : Nat) => (t : Int)) := of_decide_eq_true hok.2
    have w := ab_ite.inv w
    by_cases hc : x.toInt < lo ∨ hi < x.toInt
    · exact lv_tableOut hx hb hd hc ht (w.1 hc ad H locs ls h1 h2 h3 hl hlen hw hS hb1 hb2)
    · have w := w.2 hc
      split at w
      · rename_i t2 he
        have h5 := congrArg (fun z : List Int => z[(x.toInt - lo).toNat]?) hts2
        simp only [List.getElem?_map, he, Option.map_some] at h5
        cases ho : offs.toList[(x.toInt - lo).toNat]? with
        | none => rw [ho] at h5; cases h5
        | some o =>
          rw [ho] at h5
          exact lv_tableIn hx hb hd (fun q => hc (Or.inl q)) (fun q => hc (Or.inr q)) (by rw [← Array.getElem?_toList]; exact ho) (Option.some.inj h5) (w ad H locs ls h1 h2 h3 hl hlen hw hS hb1 hb2)
      · cases w
end ABJ
end
section
/-! THE ABSTRACT MACHINE IS SOUND, third part: cells, calls, ends -/
def mTy (ci : Nat) : Nat → FieldType := match ci with
  | 0 => tyX0
  | 1 => tyX1
  | 2 => tyX2
  | 3 => tyX4
  | 4 => tyX5
  | _ => tyX6
theorem ok_layg (C : String) (T : u_T) (k : Nat) : goodWord (u_lay C T k) = true := by
  unfold u_lay
  by_cases h : (T k).2.2.2 = true
  · rw [if_pos h]; rfl
  · rw [if_neg h]; rfl
theorem ok_good_of {C : String} {T : u_T} {N : Nat} (h : ∀ w ∈ u_ws C T N, w ∈ lw_tbl) : ∀ w ∈ u_ws C T N, w ∈ lw_good := by
  intro w hw
  refine List.mem_filter.mpr ⟨h w hw, ?_⟩
  obtain ⟨k, -, rfl⟩ := List.mem_map.mp hw
  exact ok_layg C T k
theorem ok_cl {ci : Nat} {r : vw_C} (h : vwCl[ci]? = some r) : (∀ w ∈ u_ws r.1 r.2.1 r.2.2, w ∈ lw_good) ∧ (∀ k, k < r.2.2 → parseFieldDescriptor (r.2.1 k).2.2.1 = some (mTy ci k)) ∧ (∀ a, a < r.2.2 → ∀ b, b < r.2.2 → a ≠ b → (r.2.1 a).2.1 ≠ (r.2.1 b).2.1) ∧ ∀ j, j < r.2.2 → defaultValue (mTy ci j) = vp_V (mF ci) j := by
  match ci, h with
  | 0, h => cases h; exact ⟨ok_good_of inX0, tyX0_ok, nmX0, by decide +kernel⟩
  | 1, h => cases h; exact ⟨ok_good_of inX1, tyX1_ok, nmX1, by decide +kernel⟩
  | 2, h => cases h; exact ⟨ok_good_of inX2, tyX2_ok, nmX2, by decide +kernel⟩
  | 3, h => cases h; exact ⟨ok_good_of inX4, tyX4_ok, nmX4, by decide +kernel⟩
  | 4, h => cases h; exact ⟨ok_good_of inX5, tyX5_ok, nmX5, by decide +kernel⟩
  | 5, h => cases h; exact ⟨ok_good_of inX6, tyX6_ok, nmX6, by decide +kernel⟩
  | ci + 6, h => simp [vwCl] at h
theorem ok_ft_ok (ad : Nat → Nat) (sb : Nat) {t : Nat} {d : String} {v : Value} (h1 : ok_ft t d = true) (h2 : ab_ft t v = true) : ∃ ty, parseFieldDescriptor d = some ty ∧ narrow ty (ab_cv ad sb v) = ab_cv ad sb v ∧ fits ty (ab_cv ad sb v) = true := by
  match t, v, h1, h2 with
  | 0, .int x, h1, h2 =>
    have hd : d = "I" := of_decide_eq_true h1
    subst hd
    exact ⟨.int, by decide +kernel, rfl, rfl⟩
  | 1, .int x, h1, h2 =>
    have hd : d = "Z" := of_decide_eq_true h1
    subst hd
    have hz : (x == 0 || x == 1) = true := h2
    refine ⟨.boolean, by decide +kernel, ?_, hz⟩
    rw [Bool.or_eq_true, beq_iff_eq, beq_iff_eq] at hz
    rcases hz with rfl | rfl <;> rfl
  | 2, .long x, h1, h2 =>
    have hd : d = "J" := of_decide_eq_true h1
    subst hd
    exact ⟨.long, by decide +kernel, rfl, rfl⟩
  | 3, .ref a, h1, h2 =>
    have h1 : (match parseFieldDescriptor d with
      | some (.object _) => true
      | some (.array _) => true
      | _ => false) = true := h1
    split at h1
    · rename_i C e
      exact ⟨.object C, e, rfl, rfl⟩
    · rename_i u e
      exact ⟨.array u, e, rfl, rfl⟩
    · cases h1
section ABK
variable {p : Program} {l : Launch} {e : Env} {R : Room} {s : State} {m : MethodId} {args : Array Value} {below : List Frame} {meth : Method} {c : Code} {Q : State → Prop} {D : va_G} {dA : Nat → Nat} {sb : Nat} {A : Nat → Prop} {ad0 : Nat → Nat} {n0 k d : Nat} {X : ab_X} {post : ab_P}
variable {pc nx n : Nat} {au : List Nat} {lv st : List Value} {b : Nat × Nat} {h : ab_H}

theorem ab_j_getfield (cx : ab_cx p l R s m args meth c D dA sb A k d X) (ix : Nat) (hd : decode (mC k) pc = .ok (.getfield ix, n)) (hn : nx = pc + n) (hln : ab_ln (.getfield ix) n = true) (hok : ok_i k pc (.getfield ix) au = true) (w : ab_rs (mCC d) post (ab_I p l e R s m args below meth c Q D dA sb A ad0 n0 k) h (ab_do mB mF (mR k) X (.getfield ix) nx au lv st b h)) : ab_I p l e R s m args below meth c Q D dA sb A ad0 n0 k (pc, lv, st, b, h) := by
  obtain rfl := Nat.eq_of_beq_eq_true hln
  subst hn
  intro ad H locs ls h1 h2 h3 hl hlen hw hS hb1 hb2
  obtain ⟨hx, hb, hml, hown, hts, hK, hex, hA, hin, hR, hX, hM⟩ := cx
  dsimp only [ok_i] at hok
  split at hok
  · rename_i ci f pl
    split at hok
    · rename_i rr hcl
      rw [Bool.and_eq_true] at hok
      obtain ⟨a, r, rfl, w1⟩ := ab_r.inv w
      clear w
      obtain ⟨ci', fs, hh, w2⟩ := ab_o.inv w1
      obtain ⟨hc, w3⟩ := ab_gd.inv w2
      obtain rfl := Nat.eq_of_beq_eq_true hc
      split at w3
      · rename_i v hv
        have hat := ab_cw_at (ad := ad) (sb := sb) (dA := dA) hh
        exact va_get (D := D) (ci := ci') (C := rr.1) (T := rr.2.1) (N := rr.2.2) (fs := fs.map (ab_cv ad sb)) (v := ab_cv ad sb v) hx hb hts (ok_cl hcl).1 hown hK hw.1 a hat hcl f (Nat.le_of_ble_eq_true hok.1) (ok_at.use hok.2 hts rfl) (fun _ h9 => h9) (by rw [List.getElem?_map, hv]; rfl) hd (w3 ad H locs ls h1 h2 h3 hl hlen hw hS hb1 hb2)
      · cases w3
    · cases hok
  · cases hok
theorem ab_j_putfield (cx : ab_cx p l R s m args meth c D dA sb A k d X) (ix : Nat) (hd : decode (mC k) pc = .ok (.putfield ix, n)) (hn : nx = pc + n) (hln : ab_ln (.putfield ix) n = true) (hok : ok_i k pc (.putfield ix) au = true) (w : ab_rs (mCC d) post (ab_I p l e R s m args below meth c Q D dA sb A ad0 n0 k) h (ab_do mB mF (mR k) X (.putfield ix) nx au lv st b h)) : ab_I p l e R s m args below meth c Q D dA sb A ad0 n0 k (pc, lv, st, b, h) := by
  obtain rfl := Nat.eq_of_beq_eq_true hln
  subst hn
  intro ad H locs ls h1 h2 h3 hl hlen hw hS hb1 hb2
  obtain ⟨hx, hb, hml, hown, hts, hK, hex, hA, hin, hR, hX, hM⟩ := cx
  dsimp only [ok_i] at hok
  split at hok
  · rename_i ci f t z pl
    split at hok
    · rename_i rr hcl
      simp only [Bool.and_eq_true] at hok
      obtain ⟨k1, k2, k3, k4, k5⟩ := hok
      obtain ⟨v, r1, rfl, w1⟩ := ab_v.inv w
      clear w
      obtain ⟨a, r, rfl, w2⟩ := ab_r.inv w1
      clear w1
      obtain ⟨ci', fs, hh, w3⟩ := ab_o.inv w2
      obtain ⟨hc, w4⟩ := ab_gd.inv w3
      simp only [Bool.and_eq_true] at hc
      obtain ⟨c1, c2, c3⟩ := hc
      obtain rfl := Nat.eq_of_beq_eq_true c1
      obtain ⟨ty, y1, y2, y3⟩ := ok_ft_ok ad sb k3 c2
      have hat := ab_cw_at (ad := ad) (sb := sb) (dA := dA) hh
      obtain ⟨z1, z2, z3, -⟩ := ok_cl hcl
      have hset : (fs.map (ab_cv ad sb)).set f (ab_cv ad sb v) = (fs.set f v).map (ab_cv ad sb) := by rw [List.map_set]
      have hfl : f < (fs.map (ab_cv ad sb)).length := by rw [List.length_map]; exact Nat.le_of_ble_eq_true c3
      have fin : ∀ (H1 : Heap) (locs1 : List Loc), va_P D vwCl ((ab_cw ad sb dA h).set a (ad a, .inr (ci', (fs.map (ab_cv ad sb)).set f (ab_cv ad sb v)))) H1 → va_D A ((ab_cw ad sb dA h).set a (ad a, .inr (ci', (fs.map (ab_cv ad sb)).set f (ab_cv ad sb v)))) → va_S A s.heap H1 locs1 → W p l e R s m args below meth c H1 locs1 ((mB k).1 - b.1) ((mB k).2 - b.2) Q (F0 m (pc + 3) ls (r.map (ab_cv ad sb))) := by
        intro H1 locs1 q1 q2 q3
        exact w4 ad H1 locs1 ls (by show n0 ≤ List.length _; rw [List.length_set]; exact h1) h2 h3 hl hlen (ab_wd.set (e := .inr (ci', fs.set f v)) q1 q2 (by show _ = _; rw [hset]; rfl)) q3 hb1 hb2
      cases hz : Nat.beq z 1 with
      | false =>
        rw [hz] at k4
        exact va_put (D := D) (ci := ci') (C := rr.1) (T := rr.2.1) (N := rr.2.2) (fs := fs.map (ab_cv ad sb)) (ty := ty) (v := ab_cv ad sb v) hx hb hts z1 (mTy ci') z2 z3 hown hK hw.1 hw.2 hS a hat hcl f (Nat.le_of_ble_eq_true k1) (ok_at.use k2 hts rfl) (fun _ h9 => h9) (of_decide_eq_true k4) y1 y2 y3 hfl hd fin
      | true =>
        rw [hz] at k4 k5
        simp only [Bool.not_true, Bool.false_or, Bool.and_eq_true] at k5
        exact va_putF (D := D) (ci := ci') (C := rr.1) (T := rr.2.1) (N := rr.2.2) (fs := fs.map (ab_cv ad sb)) (ty := ty) (v := ab_cv ad sb v) hx hb hts z1 (mTy ci') z2 z3 hown hK hw.1 hw.2 hS a hat hcl f (Nat.le_of_ble_eq_true k1) (ok_at.use k2 hts rfl) (fun _ h9 => h9) (of_decide_eq_true k4) (hin (of_decide_eq_true k5.1)) (of_decide_eq_true k5.2) y1 y2 y3 hfl hd fin
    · cases hok
  · cases hok
theorem ab_j_iaload (cx : ab_cx p l R s m args meth c D dA sb A k d X)  (hd : decode (mC k) pc = .ok (.iaload, n)) (hn : nx = pc + n) (hln : ab_ln (.iaload) n = true) (hok : ok_i k pc (.iaload) au = true) (w : ab_rs (mCC d) post (ab_I p l e R s m args below meth c Q D dA sb A ad0 n0 k) h (ab_do mB mF (mR k) X (.iaload) nx au lv st b h)) : ab_I p l e R s m args below meth c Q D dA sb A ad0 n0 k (pc, lv, st, b, h) := by
  obtain rfl := Nat.eq_of_beq_eq_true hln
  subst hn
  intro ad H locs ls h1 h2 h3 hl hlen hw hS hb1 hb2
  obtain ⟨hx, hb, hml, hown, hts, hK, hex, hA, hin, hR, hX, hM⟩ := cx
  obtain ⟨i, r1, rfl, w1⟩ := ab_i.inv w
  clear w
  split at w1
  · rename_i a r
    obtain ⟨t, n', g, hh, w3⟩ := ab_ai.inv w1
    obtain ⟨hc, w4⟩ := ab_gd.inv w3
    rw [Bool.and_eq_true] at hc
    obtain rfl := Nat.eq_of_beq_eq_true hc.1
    have hat := ab_cw_at (ad := ad) (sb := sb) (dA := dA) hh
    exact va_iald hx hb hK hw.1 a 0 hat rfl (ab_in.vp hc.2) hd (w4 ad H locs ls h1 h2 h3 hl hlen hw hS hb1 hb2)
  · rename_i r
    split at w1
    · rename_i x
      obtain ⟨hc, w4⟩ := ab_gd.inv w1
      obtain ⟨x1, x2, x3⟩ := hX x rfl
      exact va_sld hx hb x1 x2 x3 hS (ab_in.vp hc) hd (w4 ad H locs ls h1 h2 h3 hl hlen hw hS hb1 hb2)
    · cases w1
  · cases w1
theorem ab_j_baload (cx : ab_cx p l R s m args meth c D dA sb A k d X)  (hd : decode (mC k) pc = .ok (.baload, n)) (hn : nx = pc + n) (hln : ab_ln (.baload) n = true) (hok : ok_i k pc (.baload) au = true) (w : ab_rs (mCC d) post (ab_I p l e R s m args below meth c Q D dA sb A ad0 n0 k) h (ab_do mB mF (mR k) X (.baload) nx au lv st b h)) : ab_I p l e R s m args below meth c Q D dA sb A ad0 n0 k (pc, lv, st, b, h) := by
  obtain rfl := Nat.eq_of_beq_eq_true hln
  subst hn
  intro ad H locs ls h1 h2 h3 hl hlen hw hS hb1 hb2
  obtain ⟨hx, hb, hml, hown, hts, hK, hex, hA, hin, hR, hX, hM⟩ := cx
  obtain ⟨i, r1, rfl, w1⟩ := ab_i.inv w
  clear w
  obtain ⟨a, r, rfl, w2⟩ := ab_r.inv w1
  clear w1
  obtain ⟨t, n', g, hh, w3⟩ := ab_ai.inv w2
  obtain ⟨hc, w4⟩ := ab_gd.inv w3
  rw [Bool.and_eq_true] at hc
  obtain rfl := Nat.eq_of_beq_eq_true hc.1
  have hat := ab_cw_at (ad := ad) (sb := sb) (dA := dA) hh
  exact va_zald hx hb hK hw.1 a 2 hat rfl (ab_in.vp hc.2) hd (w4 ad H locs ls h1 h2 h3 hl hlen hw hS hb1 hb2)
theorem ab_j_laload (cx : ab_cx p l R s m args meth c D dA sb A k d X)  (hd : decode (mC k) pc = .ok (.laload, n)) (hn : nx = pc + n) (hln : ab_ln (.laload) n = true) (hok : ok_i k pc (.laload) au = true) (w : ab_rs (mCC d) post (ab_I p l e R s m args below meth c Q D dA sb A ad0 n0 k) h (ab_do mB mF (mR k) X (.laload) nx au lv st b h)) : ab_I p l e R s m args below meth c Q D dA sb A ad0 n0 k (pc, lv, st, b, h) := by
  obtain rfl := Nat.eq_of_beq_eq_true hln
  subst hn
  intro ad H locs ls h1 h2 h3 hl hlen hw hS hb1 hb2
  obtain ⟨hx, hb, hml, hown, hts, hK, hex, hA, hin, hR, hX, hM⟩ := cx
  obtain ⟨i, r1, rfl, w1⟩ := ab_i.inv w
  clear w
  obtain ⟨a, r, rfl, w2⟩ := ab_r.inv w1
  clear w1
  obtain ⟨t, n', g, hh, w3⟩ := ab_al.inv w2
  obtain ⟨hc, w4⟩ := ab_gd.inv w3
  rw [Bool.and_eq_true] at hc
  obtain rfl := Nat.eq_of_beq_eq_true hc.1
  have hat := ab_cw_at (ad := ad) (sb := sb) (dA := dA) hh
  exact va_lald hx hb hK hw.1 a 1 hat rfl (ab_in.vp hc.2) hd (w4 ad H locs ls h1 h2 h3 hl hlen hw hS hb1 hb2)
theorem ab_j_aaload (cx : ab_cx p l R s m args meth c D dA sb A k d X)  (hd : decode (mC k) pc = .ok (.aaload, n)) (hn : nx = pc + n) (hln : ab_ln (.aaload) n = true) (hok : ok_i k pc (.aaload) au = true) (w : ab_rs (mCC d) post (ab_I p l e R s m args below meth c Q D dA sb A ad0 n0 k) h (ab_do mB mF (mR k) X (.aaload) nx au lv st b h)) : ab_I p l e R s m args below meth c Q D dA sb A ad0 n0 k (pc, lv, st, b, h) := by
  obtain rfl := Nat.eq_of_beq_eq_true hln
  subst hn
  intro ad H locs ls h1 h2 h3 hl hlen hw hS hb1 hb2
  obtain ⟨hx, hb, hml, hown, hts, hK, hex, hA, hin, hR, hX, hM⟩ := cx
  obtain ⟨i, r1, rfl, w1⟩ := ab_i.inv w
  clear w
  obtain ⟨a, r, rfl, w2⟩ := ab_r.inv w1
  clear w1
  obtain ⟨t, n', g, hh, w3⟩ := ab_aq.inv w2
  obtain ⟨hc, w4⟩ := ab_gd.inv w3
  rw [Bool.and_eq_true, Bool.or_eq_true] at hc
  have hat := ab_cw_at (ad := ad) (sb := sb) (dA := dA) hh
  have hr : ∀ j, va_rf ((g j).map ad) = ab_cv ad sb (va_rf (g j)) := fun j => by cases g j <;> rfl
  have kk : W p l e R s m args below meth c H locs ((mB k).1 - b.1) ((mB k).2 - b.2) Q (F0 m (pc + 1) ls (va_rf ((g i.toNatClampNeg).map ad) :: r.map (ab_cv ad sb))) := by
    rw [hr]
    exact w4 ad H locs ls h1 h2 h3 hl hlen hw hS hb1 hb2
  rcases hc.1 with q | q
  · obtain rfl := Nat.eq_of_beq_eq_true q
    exact va_aldq (C := RX4) hx hb hK hw.1 a 3 hat rfl (ab_in.vp hc.2) hd kk
  · obtain rfl := Nat.eq_of_beq_eq_true q
    exact va_aldq (C := RX0) hx hb hK hw.1 a 4 hat rfl (ab_in.vp hc.2) hd kk
theorem ab_j_iastore (cx : ab_cx p l R s m args meth c D dA sb A k d X)  (hd : decode (mC k) pc = .ok (.iastore, n)) (hn : nx = pc + n) (hln : ab_ln (.iastore) n = true) (hok : ok_i k pc (.iastore) au = true) (w : ab_rs (mCC d) post (ab_I p l e R s m args below meth c Q D dA sb A ad0 n0 k) h (ab_do mB mF (mR k) X (.iastore) nx au lv st b h)) : ab_I p l e R s m args below meth c Q D dA sb A ad0 n0 k (pc, lv, st, b, h) := by
  obtain rfl := Nat.eq_of_beq_eq_true hln
  subst hn
  intro ad H locs ls h1 h2 h3 hl hlen hw hS hb1 hb2
  obtain ⟨hx, hb, hml, hown, hts, hK, hex, hA, hin, hR, hX, hM⟩ := cx
  obtain ⟨x, r0, rfl, w0⟩ := ab_i.inv w
  clear w
  obtain ⟨i, r1, rfl, w1⟩ := ab_i.inv w0
  clear w0
  obtain ⟨a, r, rfl, w2⟩ := ab_r.inv w1
  clear w1
  obtain ⟨t, n', g, hh, w3⟩ := ab_ai.inv w2
  obtain ⟨hc, w4⟩ := ab_gd.inv w3
  rw [Bool.and_eq_true] at hc
  obtain rfl := Nat.eq_of_beq_eq_true hc.1
  have hat := ab_cw_at (ad := ad) (sb := sb) (dA := dA) hh
  exact va_iast hx hb hK hw.1 hw.2 hS a 0 hat rfl (ab_in.vp hc.2) hd (fun H1 locs1 q1 q2 q3 => w4 ad H1 locs1 ls (by show n0 ≤ List.length _; rw [List.length_set]; exact h1) h2 h3 hl hlen (ab_wd.set q1 q2 rfl) q3 hb1 hb2)
theorem ab_j_bastore (cx : ab_cx p l R s m args meth c D dA sb A k d X)  (hd : decode (mC k) pc = .ok (.bastore, n)) (hn : nx = pc + n) (hln : ab_ln (.bastore) n = true) (hok : ok_i k pc (.bastore) au = true) (w : ab_rs (mCC d) post (ab_I p l e R s m args below meth c Q D dA sb A ad0 n0 k) h (ab_do mB mF (mR k) X (.bastore) nx au lv st b h)) : ab_I p l e R s m args below meth c Q D dA sb A ad0 n0 k (pc, lv, st, b, h) := by
  obtain rfl := Nat.eq_of_beq_eq_true hln
  subst hn
  intro ad H locs ls h1 h2 h3 hl hlen hw hS hb1 hb2
  obtain ⟨hx, hb, hml, hown, hts, hK, hex, hA, hin, hR, hX, hM⟩ := cx
  obtain ⟨x, r0, rfl, w0⟩ := ab_i.inv w
  clear w
  obtain ⟨i, r1, rfl, w1⟩ := ab_i.inv w0
  clear w0
  obtain ⟨a, r, rfl, w2⟩ := ab_r.inv w1
  clear w1
  obtain ⟨t, n', g, hh, w3⟩ := ab_ai.inv w2
  obtain ⟨hc, w4⟩ := ab_gd.inv w3
  simp only [Bool.and_eq_true] at hc
  obtain ⟨c1, c2, c3⟩ := hc
  obtain rfl := Nat.eq_of_beq_eq_true c1
  have hat := ab_cw_at (ad := ad) (sb := sb) (dA := dA) hh
  have hz : vp_nar .boolean x = x := by
    rw [Bool.or_eq_true, beq_iff_eq, beq_iff_eq] at c2
    rcases c2 with rfl | rfl <;> rfl
  refine va_zast (x := x) hx hb hK hw.1 hw.2 hS a 2 hat rfl (ab_in.vp c3) hd (fun H1 locs1 q1 q2 q3 => ?_)
  rw [hz] at q1 q2
  exact w4 ad H1 locs1 ls (by show n0 ≤ List.length _; rw [List.length_set]; exact h1) h2 h3 hl hlen (ab_wd.set q1 q2 rfl) q3 hb1 hb2
theorem ab_j_lastore (cx : ab_cx p l R s m args meth c D dA sb A k d X)  (hd : decode (mC k) pc = .ok (.lastore, n)) (hn : nx = pc + n) (hln : ab_ln (.lastore) n = true) (hok : ok_i k pc (.lastore) au = true) (w : ab_rs (mCC d) post (ab_I p l e R s m args below meth c Q D dA sb A ad0 n0 k) h (ab_do mB mF (mR k) X (.lastore) nx au lv st b h)) : ab_I p l e R s m args below meth c Q D dA sb A ad0 n0 k (pc, lv, st, b, h) := by
  obtain rfl := Nat.eq_of_beq_eq_true hln
  subst hn
  intro ad H locs ls h1 h2 h3 hl hlen hw hS hb1 hb2
  obtain ⟨hx, hb, hml, hown, hts, hK, hex, hA, hin, hR, hX, hM⟩ := cx
  obtain ⟨x, r0, rfl, w0⟩ := ab_l.inv w
  clear w
  obtain ⟨i, r1, rfl, w1⟩ := ab_i.inv w0
  clear w0
  obtain ⟨a, r, rfl, w2⟩ := ab_r.inv w1
  clear w1
  obtain ⟨t, n', g, hh, w3⟩ := ab_al.inv w2
  obtain ⟨hc, w4⟩ := ab_gd.inv w3
  rw [Bool.and_eq_true] at hc
  obtain rfl := Nat.eq_of_beq_eq_true hc.1
  have hat := ab_cw_at (ad := ad) (sb := sb) (dA := dA) hh
  exact va_last hx hb hK hw.1 hw.2 hS a 1 hat rfl (ab_in.vp hc.2) hd (fun H1 locs1 q1 q2 q3 => w4 ad H1 locs1 ls (by show n0 ≤ List.length _; rw [List.length_set]; exact h1) h2 h3 hl hlen (ab_wd.set q1 q2 rfl) q3 hb1 hb2)
theorem ab_j_aastore (cx : ab_cx p l R s m args meth c D dA sb A k d X)  (hd : decode (mC k) pc = .ok (.aastore, n)) (hn : nx = pc + n) (hln : ab_ln (.aastore) n = true) (hok : ok_i k pc (.aastore) au = true) (w : ab_rs (mCC d) post (ab_I p l e R s m args below meth c Q D dA sb A ad0 n0 k) h (ab_do mB mF (mR k) X (.aastore) nx au lv st b h)) : ab_I p l e R s m args below meth c Q D dA sb A ad0 n0 k (pc, lv, st, b, h) := by
  obtain rfl := Nat.eq_of_beq_eq_true hln
  subst hn
  intro ad H locs ls h1 h2 h3 hl hlen hw hS hb1 hb2
  obtain ⟨hx, hb, hml, hown, hts, hK, hex, hA, hin, hR, hX, hM⟩ := cx
  obtain ⟨x, r0, rfl, w0⟩ := ab_r.inv w
  clear w
  obtain ⟨i, r1, rfl, w1⟩ := ab_i.inv w0
  clear w0
  obtain ⟨a, r, rfl, w2⟩ := ab_r.inv w1
  clear w1
  obtain ⟨t, n', g, hh, w3⟩ := ab_aq.inv w2
  obtain ⟨ci, vs, hh2, w4⟩ := ab_o.inv w3
  obtain ⟨hc, w5⟩ := ab_gd.inv w4
  simp only [Bool.and_eq_true, Bool.or_eq_true] at hc
  have hat := ab_cw_at (ad := ad) (sb := sb) (dA := dA) hh
  have hat2 := ab_cw_at (ad := ad) (sb := sb) (dA := dA) hh2
  have hf : (fun j => (va_up g i.toNatClampNeg (some x) j).map ad) = va_up (fun j => (g j).map ad) i.toNatClampNeg (some (ad x)) := by
    funext j
    by_cases hj : j = i.toNatClampNeg
    · subst hj; rw [va_up_self, va_up_self]; rfl
    · rw [va_up_ne _ _ hj, va_up_ne _ _ hj]
  rcases hc.1 with ⟨q, q'⟩ | ⟨q, q'⟩
  · obtain rfl := Nat.eq_of_beq_eq_true q
    obtain rfl := Nat.eq_of_beq_eq_true q'
    refine va_astq (r := (RX4, TX4, 4)) hx hb hK hw.1 hw.2 hS a 3 x 3 hat rfl hat2 rfl (ab_in.vp hc.2) hd (fun H1 locs1 q1 q2 q3 => ?_)
    rw [← hf] at q1 q2
    exact w5 ad H1 locs1 ls (by show n0 ≤ List.length _; rw [List.length_set]; exact h1) h2 h3 hl hlen (ab_wd.set q1 q2 rfl) q3 hb1 hb2
  · obtain rfl := Nat.eq_of_beq_eq_true q
    obtain rfl := Nat.eq_of_beq_eq_true q'
    refine va_astq (r := (RX0, TX0, 2)) hx hb hK hw.1 hw.2 hS a 4 x 0 hat rfl hat2 rfl (ab_in.vp hc.2) hd (fun H1 locs1 q1 q2 q3 => ?_)
    rw [← hf] at q1 q2
    exact w5 ad H1 locs1 ls (by show n0 ≤ List.length _; rw [List.length_set]; exact h1) h2 h3 hl hlen (ab_wd.set q1 q2 rfl) q3 hb1 hb2
theorem ab_j_arraylength (cx : ab_cx p l R s m args meth c D dA sb A k d X)  (hd : decode (mC k) pc = .ok (.arraylength, n)) (hn : nx = pc + n) (hln : ab_ln (.arraylength) n = true) (hok : ok_i k pc (.arraylength) au = true) (w : ab_rs (mCC d) post (ab_I p l e R s m args below meth c Q D dA sb A ad0 n0 k) h (ab_do mB mF (mR k) X (.arraylength) nx au lv st b h)) : ab_I p l e R s m args below meth c Q D dA sb A ad0 n0 k (pc, lv, st, b, h) := by
  obtain rfl := Nat.eq_of_beq_eq_true hln
  subst hn
  intro ad H locs ls h1 h2 h3 hl hlen hw hS hb1 hb2
  obtain ⟨hx, hb, hml, hown, hts, hK, hex, hA, hin, hR, hX, hM⟩ := cx
  dsimp only [ab_do] at w
  split at w
  · rename_i r x
    obtain ⟨x1, x2, x3⟩ := hX x rfl
    exact va_slen hx hb x1 x2 x3 hS hd (w ad H locs ls h1 h2 h3 hl hlen hw hS hb1 hb2)
  · cases w
theorem ab_j_new (cx : ab_cx p l R s m args meth c D dA sb A k d X) (ix : Nat) (hd : decode (mC k) pc = .ok (.new ix, n)) (hn : nx = pc + n) (hln : ab_ln (.new ix) n = true) (hok : ok_i k pc (.new ix) au = true) (w : ab_rs (mCC d) post (ab_I p l e R s m args below meth c Q D dA sb A ad0 n0 k) h (ab_do mB mF (mR k) X (.new ix) nx au lv st b h)) : ab_I p l e R s m args below meth c Q D dA sb A ad0 n0 k (pc, lv, st, b, h) := by
  obtain rfl := Nat.eq_of_beq_eq_true hln
  subst hn
  intro ad H locs ls h1 h2 h3 hl hlen hw hS hb1 hb2
  obtain ⟨hx, hb, hml, hown, hts, hK, hex, hA, hin, hR, hX, hM⟩ := cx
  dsimp only [ok_i] at hok
  split at hok
  · rename_i ci N p1 p2 p3
    split at hok
    · rename_i rr hcl
      simp only [Bool.and_eq_true] at hok
      obtain ⟨k1, k2, k3, k4⟩ := hok
      obtain rfl := Nat.eq_of_beq_eq_true k1
      obtain ⟨bc, bs⟩ := b
      cases bc with
      | zero => cases w
      | succ bc =>
        obtain ⟨hc, w4⟩ := ab_gd.inv w
        rw [Bool.and_eq_true] at hc
        obtain ⟨l1, l2, l3⟩ : lv.all (ab_cl h.length) = true ∧ st.all (ab_cl h.length) = true ∧ h.all (ab_ce h.length) = true := by
          have := hc.2
          simp only [ab_clo, Bool.and_eq_true] at this
          exact this
        have hn := Nat.le_of_ble_eq_true hc.1
        have hb1 : bc + 1 ≤ (mB k).1 := hb1
        have hb2 : bs ≤ (mB k).2 := hb2
        obtain ⟨z1, z2, z3, z4⟩ := ok_cl hcl
        have hmap : (mF ci).map (ab_cv ad sb) = mF ci := by
          match ci with
          | 0 => rfl
          | 1 => rfl
          | 2 => rfl
          | 3 => rfl
          | 4 => rfl
          | _ + 5 => rfl
        refine va_new (c0 := c) (ci := ci) (fs := mF ci) (C := rr.1) (T := rr.2.1) (N := rr.2.2) hx hb hts z1 (mTy ci) z2 hown (ok_at.use k2 hts rfl) (ok_at.use k3 hts rfl) (ok_at.use k4 hts rfl) hK hw.1 hw.2 hS hA hcl z4 (by rw [hR.1]; show (mB k).1 - (bc + 1) + 1 ≤ _; omega) (by rw [hR.2.1]; show (mB k).2 - bs + rr.2.2 ≤ _; omega) hd (fun q H1 q1 q2 q3 => ?_)
        have he : ∀ i, i < h.length → va_up ad h.length q i = ad i := fun i hi => va_up_ne ad q (Nat.ne_of_lt hi)
        have fin := w4 (va_up ad h.length q) H1 locs ls (by show n0 ≤ List.length _; rw [List.length_append]; exact Nat.le_trans h1 (Nat.le_add_right _ _)) (fun i hi => by rw [va_up_ne ad q (Nat.ne_of_lt (Nat.lt_of_lt_of_le hi h1))]; exact h2 i hi) (fun hz => by omega) (hl.ext he l1) hlen (ab_wd.push (e := .inr (ci, mF ci)) l3 q1 q2 (by show Sum.inr (ci, (mF ci).map (ab_cv (va_up ad h.length q) sb)) = _; rw [show (mF ci).map (ab_cv (va_up ad h.length q) sb) = mF ci by match ci with
          | 0 => rfl
          | 1 => rfl
          | 2 => rfl
          | 3 => rfl
          | 4 => rfl
          | _ + 5 => rfl])) q3 (by show bc ≤ _; omega) (by show bs - rr.2.2 ≤ _; omega)
        rw [show List.map (ab_cv (va_up ad h.length q) sb) (.ref h.length :: st) = .ref q :: st.map (ab_cv ad sb) by rw [List.map_cons, ab_map_ext he l2]; show Value.ref (va_up ad h.length q h.length) :: _ = _; rw [va_up_self]] at fin
        exact W.cs (by show (mB k).1 - (bc + 1) + 1 = (mB k).1 - bc; omega) (by show (mB k).2 - bs + rr.2.2 = (mB k).2 - (bs - rr.2.2); omega) fin
    · cases hok
  · cases hok
theorem ab_j_newarrayG (cx : ab_cx p l R s m args meth c D dA sb A k d X) (t : ArrayType) {g : Nat} {ty : FieldType} {a0 : vp_A} {e0 : va_E} {nn : Int32} {r : List Value} {bc bs : Nat} (hty : newarray.typeOf t = ty) (htag : (ab_tys dA)[g]? = some (dA g, ty)) (hprim : ∀ (U : State) (q : ClassId), va_RA U q ty → U.vm.findClass ("[" ++ ty.toString) = some q) (hme : ∀ ad : Nat → Nat, ab_me ad sb dA e0 = .inl (dA g, a0)) (ha0 : ∀ cA : ClassId, vp_cell cA a0 = arrV cA nn.toNatClampNeg (fun _ => defaultValue ty)) (hby : componentBytes ty ≤ 8) (harr : Cond.arrayClass (newarray.typeOf t) ∈ lw_tbl) (hst : st = .int nn :: r) (hbb : b = (bc + 1, bs)) (hc : (!(decide (nn < 0)) && (Nat.ble nn.toNatClampNeg bs && (Nat.ble nn.toNatClampNeg 67108864 && ab_clo lv r h))) = true) (w4 : ab_I p l e R s m args below meth c Q D dA sb A ad0 n0 k (nx, lv, .ref h.length :: r, (bc, bs - nn.toNatClampNeg), h ++ [e0])) (hd : decode (mC k) pc = .ok (.newarray t, n)) (hn : nx = pc + n) (hln : ab_ln (.newarray t) n = true) : ab_I p l e R s m args below meth c Q D dA sb A ad0 n0 k (pc, lv, st, b, h) := by
  obtain rfl := Nat.eq_of_beq_eq_true hln
  subst hn
  subst hst
  subst hbb
  intro ad H locs ls h1 h2 h3 hl hlen hw hS hb1 hb2
  obtain ⟨hx, hb, hml, hown, hts, hK, hex, hA, hin, hR, hX, hM⟩ := cx
  simp only [Bool.and_eq_true, Bool.not_eq_true', decide_eq_false_iff_not] at hc
  obtain ⟨c1, c2, c3, c4⟩ := hc
  obtain ⟨l1, l2, l3⟩ : lv.all (ab_cl h.length) = true ∧ r.all (ab_cl h.length) = true ∧ h.all (ab_ce h.length) = true := by
    simp only [ab_clo, Bool.and_eq_true] at c4
    exact c4
  have c2 := Nat.le_of_ble_eq_true c2
  have c3 := Nat.le_of_ble_eq_true c3
  have hb1 : bc + 1 ≤ (mB k).1 := hb1
  have hb2 : bs ≤ (mB k).2 := hb2
  have hbytes : nn.toNatClampNeg * componentBytes ty ≤ 536870912 := Nat.le_trans (Nat.mul_le_mul_left _ hby) (by omega)
  refine va_newa (atype := t) (ty := ty) (a0 := a0) (N' := nn.toNatClampNeg) hx hb (hts _ (List.mem_filter.mpr ⟨harr, rfl⟩)) hty hK hw.1 hw.2 hS hA ha0 c1 rfl hbytes (by rw [hR.1]; show (mB k).1 - (bc + 1) + 1 ≤ _; omega) (by rw [hR.2.1]; show (mB k).2 - bs + nn.toNatClampNeg ≤ _; omega) hd (fun q cA H1 q0 q1 q2 q3 => ?_)
  have e1 := hprim s cA (q0.2 (ab_tys dA).length (cA, ty) (by rw [List.getElem?_append_right (Nat.le_refl _), Nat.sub_self]; rfl)).2
  have e2 := hprim s (dA g) (hK.2 g (dA g, ty) htag).2
  have e3 : cA = dA g := Option.some.inj (e1.symm.trans e2)
  subst e3
  have he : ∀ i, i < h.length → va_up ad h.length q i = ad i := fun i hi => va_up_ne ad q (Nat.ne_of_lt hi)
  have fin := w4 (va_up ad h.length q) H1 locs ls (by show n0 ≤ List.length _; rw [List.length_append]; exact Nat.le_trans h1 (Nat.le_add_right _ _)) (fun i hi => by rw [va_up_ne ad q (Nat.ne_of_lt (Nat.lt_of_lt_of_le hi h1))]; exact h2 i hi) (fun hz => by omega) (hl.ext he l1) hlen (ab_wd.push (e := e0) l3 q1 q2 (hme _)) q3 (by show bc ≤ _; omega) (by show bs - nn.toNatClampNeg ≤ _; omega)
  rw [show List.map (ab_cv (va_up ad h.length q) sb) (.ref h.length :: r) = .ref q :: r.map (ab_cv ad sb) by rw [List.map_cons, ab_map_ext he l2]; show Value.ref (va_up ad h.length q h.length) :: _ = _; rw [va_up_self]] at fin
  exact W.cs (by show (mB k).1 - (bc + 1) + 1 = (mB k).1 - bc; omega) (by show (mB k).2 - bs + nn.toNatClampNeg = (mB k).2 - (bs - nn.toNatClampNeg); omega) fin
theorem ab_j_newarray (cx : ab_cx p l R s m args meth c D dA sb A k d X) (t : ArrayType) (hd : decode (mC k) pc = .ok (.newarray t, n)) (hn : nx = pc + n) (hln : ab_ln (.newarray t) n = true) (hok : ok_i k pc (.newarray t) au = true) (w : ab_rs (mCC d) post (ab_I p l e R s m args below meth c Q D dA sb A ad0 n0 k) h (ab_do mB mF (mR k) X (.newarray t) nx au lv st b h)) : ab_I p l e R s m args below meth c Q D dA sb A ad0 n0 k (pc, lv, st, b, h) := by
  dsimp only [ok_i] at hok
  split at hok
  · rename_i g pl
    rw [Bool.and_eq_true] at hok
    obtain ⟨o1, o2⟩ := hok
    obtain ⟨bc, bs⟩ := b
    cases bc with
    | zero => cases w
    | succ bc =>
      obtain ⟨nn, r, rfl, w1⟩ := ab_i.inv w
      clear w
      obtain ⟨hc, w2⟩ := ab_gd.inv w1
      match g, o2, w2 with
      | 0, o2, w2 => exact ab_j_newarrayG (ty := .int) (g := 0) (a0 := (nn.toNatClampNeg, .inl (fun _ => 0))) cx t (of_decide_eq_true o2) rfl (fun _ _ q => q) (fun _ => rfl) (fun _ => rfl) (by decide) (ok_at.mem o1) rfl rfl hc w2 hd hn hln
      | 1, o2, w2 => exact ab_j_newarrayG (ty := .long) (g := 1) (a0 := (nn.toNatClampNeg, .inr (.inl (fun _ => 0)))) cx t (of_decide_eq_true o2) rfl (fun _ _ q => q) (fun _ => rfl) (fun _ => rfl) (by decide) (ok_at.mem o1) rfl rfl hc w2 hd hn hln
      | 2, o2, w2 => exact ab_j_newarrayG (ty := .boolean) (g := 2) (a0 := (nn.toNatClampNeg, .inl (fun _ => 0))) cx t (of_decide_eq_true o2) rfl (fun _ _ q => q) (fun _ => rfl) (fun _ => rfl) (by decide) (ok_at.mem o1) rfl rfl hc w2 hd hn hln
      | _ + 3, o2, w2 => cases o2
  · cases hok
theorem ab_j_anewarrayG (cx : ab_cx p l R s m args meth c D dA sb A k d X) (ix : Nat) {g : Nat} {C : String} {nn : Int32} {r : List Value} {bc bs : Nat} (htag : (ab_tys dA)[g]? = some (dA g, .object C)) (hao : va_AO C s) (hlk : Cond.classLink (mY k).cls ix C ∈ lw_tbl) (hst : st = .int nn :: r) (hbb : b = (bc + 1, bs)) (hc : (!(decide (nn < 0)) && (Nat.ble nn.toNatClampNeg bs && (Nat.ble nn.toNatClampNeg 67108864 && (ab_clo lv r h && (Nat.beq g 3 || Nat.beq g 4))))) = true) (w4 : ab_I p l e R s m args below meth c Q D dA sb A ad0 n0 k (nx, lv, .ref h.length :: r, (bc, bs - nn.toNatClampNeg), h ++ [.inl (g, nn.toNatClampNeg, .inr (.inr (.inr (.inr (fun _ => none)))))])) (hd : decode (mC k) pc = .ok (.anewarray ix, n)) (hn : nx = pc + n) (hln : ab_ln (.anewarray ix) n = true) : ab_I p l e R s m args below meth c Q D dA sb A ad0 n0 k (pc, lv, st, b, h) := by
  obtain rfl := Nat.eq_of_beq_eq_true hln
  subst hn
  subst hst
  subst hbb
  intro ad H locs ls h1 h2 h3 hl hlen hw hS hb1 hb2
  obtain ⟨hx, hb, hml, hown, hts, hK, hex, hA, hin, hR, hX, hM⟩ := cx
  simp only [Bool.and_eq_true, Bool.not_eq_true', decide_eq_false_iff_not] at hc
  obtain ⟨c1, c2, c3, c4, c5⟩ := hc
  obtain ⟨l1, l2, l3⟩ : lv.all (ab_cl h.length) = true ∧ r.all (ab_cl h.length) = true ∧ h.all (ab_ce h.length) = true := by
    simp only [ab_clo, Bool.and_eq_true] at c4
    exact c4
  have c2 := Nat.le_of_ble_eq_true c2
  have c3 := Nat.le_of_ble_eq_true c3
  have hb1 : bc + 1 ≤ (mB k).1 := hb1
  have hb2 : bs ≤ (mB k).2 := hb2
  refine va_newq (N' := nn.toNatClampNeg) hx hb hown (hts _ (List.mem_filter.mpr ⟨hlk, rfl⟩)) hao hK hw.1 hw.2 hS hA c1 rfl (by omega) (by rw [hR.1]; show (mB k).1 - (bc + 1) + 1 ≤ _; omega) (by rw [hR.2.1]; show (mB k).2 - bs + nn.toNatClampNeg ≤ _; omega) hd (fun q cA H1 q0 q1 q2 q3 => ?_)
  obtain ⟨_, _, _, _, _, e1⟩ := (q0.2 (ab_tys dA).length (cA, .object C) (by rw [List.getElem?_append_right (Nat.le_refl _), Nat.sub_self]; rfl)).2
  obtain ⟨_, _, _, _, _, e2⟩ := (hK.2 g (dA g, .object C) htag).2
  have e3 : cA = dA g := Option.some.inj (e1.symm.trans e2)
  subst e3
  have he : ∀ i, i < h.length → va_up ad h.length q i = ad i := fun i hi => va_up_ne ad q (Nat.ne_of_lt hi)
  have fin := w4 (va_up ad h.length q) H1 locs ls (by show n0 ≤ List.length _; rw [List.length_append]; exact Nat.le_trans h1 (Nat.le_add_right _ _)) (fun i hi => by rw [va_up_ne ad q (Nat.ne_of_lt (Nat.lt_of_lt_of_le hi h1))]; exact h2 i hi) (fun hz => by omega) (hl.ext he l1) hlen (ab_wd.push (e := .inl (g, nn.toNatClampNeg, .inr (.inr (.inr (.inr (fun _ => none)))))) l3 q1 q2 rfl) q3 (by show bc ≤ _; omega) (by show bs - nn.toNatClampNeg ≤ _; omega)
  rw [show List.map (ab_cv (va_up ad h.length q) sb) (.ref h.length :: r) = .ref q :: r.map (ab_cv ad sb) by rw [List.map_cons, ab_map_ext he l2]; show Value.ref (va_up ad h.length q h.length) :: _ = _; rw [va_up_self]] at fin
  exact W.cs (by show (mB k).1 - (bc + 1) + 1 = (mB k).1 - bc; omega) (by show (mB k).2 - bs + nn.toNatClampNeg = (mB k).2 - (bs - nn.toNatClampNeg); omega) fin
theorem ab_j_anewarray (cx : ab_cx p l R s m args meth c D dA sb A k d X) (ix : Nat) (hd : decode (mC k) pc = .ok (.anewarray ix, n)) (hn : nx = pc + n) (hln : ab_ln (.anewarray ix) n = true) (hok : ok_i k pc (.anewarray ix) au = true) (w : ab_rs (mCC d) post (ab_I p l e R s m args below meth c Q D dA sb A ad0 n0 k) h (ab_do mB mF (mR k) X (.anewarray ix) nx au lv st b h)) : ab_I p l e R s m args below meth c Q D dA sb A ad0 n0 k (pc, lv, st, b, h) := by
  dsimp only [ok_i] at hok
  split at hok
  · rename_i g p1 p2
    obtain ⟨bc, bs⟩ := b
    cases bc with
    | zero => cases w
    | succ bc =>
      obtain ⟨nn, r, rfl, w1⟩ := ab_i.inv w
      clear w
      obtain ⟨hc, w2⟩ := ab_gd.inv w1
      match g, hok, hc, w2 with
      | 3, hok, hc, w2 => exact ab_j_anewarrayG (g := 3) (C := RX4) cx ix rfl cx.2.2.2.2.2.2.1.1 (ok_at.mem ((Bool.and_eq_true _ _).mp hok).1) rfl rfl hc w2 hd hn hln
      | 4, hok, hc, w2 => exact ab_j_anewarrayG (g := 4) (C := RX0) cx ix rfl cx.2.2.2.2.2.2.1.2.1 (ok_at.mem ((Bool.and_eq_true _ _).mp hok).1) rfl rfl hc w2 hd hn hln
      | 0, hok, hc, w2 => cases hok
      | 1, hok, hc, w2 => cases hok
      | 2, hok, hc, w2 => cases hok
      | _ + 5, hok, hc, w2 => cases hok
  · cases hok
end ABK
end
section
/-! THE ABSTRACT MACHINE IS SOUND, fourth part: calls, ends, and the whole -/
section ABL
variable {p : Program} {l : Launch} {e : Env} {R : Room} {s : State} {m : MethodId} {args : Array Value} {below : List Frame} {meth : Method} {c : Code} {Q : State → Prop} {D : va_G} {dA : Nat → Nat} {sb : Nat} {A : Nat → Prop} {ad0 : Nat → Nat} {n0 k d : Nat} {X : ab_X} {post : ab_P}
variable {pc nx n : Nat} {au : List Nat} {lv st : List Value} {b : Nat × Nat} {h : ab_H}

theorem ab_free {ad : Nat → Nat} {H : Heap} {locs : List Loc} (hA : ∀ q, s.heap.size ≤ q → A q) (hw : ab_wd D dA sb A ad h H) (hS : va_S A s.heap H locs) : ∀ q, va_A (ab_cw ad sb dA h) H.size q → A q := by
  intro q hq
  rcases hq with ⟨j, e, hj⟩ | hq
  · exact hw.2.2 j (q, e) hj
  · exact hA q (Nat.le_trans hS.1 hq)
theorem ab_cont {k' : Nat} {r st0 : List Value} {ad : Nat → Nat} {H : Heap} {locs : List Loc} {ls : Array Slot} {a : Array Value} (hA : ∀ q, s.heap.size ≤ q → A q)
    (h1 : n0 ≤ h.length) (h2 : ∀ i, i < n0 → ad i = ad0 i) (h3 : (mB k).1 = 0 → ad = ad0) (hl : ab_lr ad sb lv ls) (hlen : lv.length = mL k) (hw : ab_wd D dA sb A ad h H) (hS : va_S A s.heap H locs) (hb1 : b.1 ≤ (mB k).1) (hb2 : b.2 ≤ (mB k).2)
    (g2 : (mB k').1 ≤ b.1) (g3 : (mB k').2 ≤ b.2) (g4 : (mB k').1 = 0 ∨ ab_clo lv r h = true)
    (hrun : va_Run p l e R s m args below meth c H locs ((mB k).1 - b.1) ((mB k).2 - b.2) (mB k').1 (mB k').2 (F0 m pc ls st0) (r.map (ab_cv ad sb)) (ab_Q D dA sb ad h.length (mB k').1 (va_A (ab_cw ad sb dA h) H.size) (fun v h' => ab_I p l e R s m args below meth c Q D dA sb A ad0 n0 k (pc + 3, lv, v.toList ++ r, (b.1 - (mB k').1, b.2 - (mB k').2), h')) a) (va_A (ab_cw ad sb dA h) H.size)) :
    W p l e R s m args below meth c H locs ((mB k).1 - b.1) ((mB k).2 - b.2) Q (F0 m pc ls st0) := by
  refine ab_after hrun hS (ab_free hA hw hS) (fun r' h' ad' H1 locs1 hp q1 q2 q3 q4 q5 => ?_)
  have hlr : ab_lr ad' sb lv ls ∧ r.map (ab_cv ad' sb) = r.map (ab_cv ad sb) := by
    rcases g4 with g | g
    · rw [q2 g]; exact ⟨hl, rfl⟩
    · simp only [ab_clo, Bool.and_eq_true] at g
      exact ⟨hl.ext q1 g.1, ab_map_ext q1 g.2.1⟩
  have fin := hp ad' H1 locs1 ls (Nat.le_trans h1 q3) (fun i hi => (q1 i (Nat.lt_of_lt_of_le hi h1)).trans (h2 i hi)) (fun hz => (q2 (by omega)).trans (h3 hz)) hlr.1 hlen q4 q5 (by show b.1 - _ ≤ _; omega) (by show b.2 - _ ≤ _; omega)
  have hmap : List.map (ab_cv ad' sb) (r'.toList ++ r) = (r'.map (ab_cv ad' sb)).toList ++ r.map (ab_cv ad sb) := by
    rw [List.map_append, hlr.2]
    cases r' <;> rfl
  rw [← hmap]
  exact W.cs (by show _ = (mB k).1 - (b.1 - (mB k').1); omega) (by show _ = (mB k).2 - (b.2 - (mB k').2); omega) fin
theorem ab_callB (hts : ∀ w ∈ lw_good, w.before args s = true) {k' ix nn : Nat} {ret : Option FieldType} (hk : k' < mN) (hret : mR k' = ret) (hR : R.cells = (mB k).1 ∧ R.slots = (mB k).2 ∧ d + 1 ≤ R.frames ∧ 60 * (d + 1) ≤ R.locals) (hp : (parseMethodDescriptor (mY k').desc).map (fun d => d.parameters.length) = some nn)
    (hl : (Cond.methodLink (mY k).cls ix (mY k')).before args s = true) (hi : (Cond.initialized (mY k').cls).before args s = true) : CallB R s args (mY k).cls ix (mY k') (mC k') (mL k') ret (mW k') (mRm d k') (mB k').1 (mB k').2 nn := by
  have hc := ok_cls k' hk
  simp only [Bool.and_eq_true, decide_eq_true_eq] at hc
  obtain ⟨c1, c2, c3, c4⟩ := hc
  have c4 := Nat.le_of_ble_eq_true c4
  exact callB_of nn hts (mW_good hk) (by rw [← hret]; rfl) rfl rfl hi hl ⟨c2, c3, hp⟩ ⟨hR.2.2.1, by show 8 + (mL k' + 11) + 60 * d ≤ _; omega⟩
theorem ab_blind (hK : va_K D vwCl (ab_tys dA) s) (hex : ab_ex s) {ad : Nat → Nat} {av : List Value} {H : Heap} (hw : ab_wd D dA sb A ad h H) : PreS s H (va_Pc (av.map (ab_cv ad sb)) (fun U => U.heap.size = H.size ∧ ab_wd D dA sb (fun _ => True) ad h U.heap ∧ va_K D vwCl (ab_tys dA) U ∧ ab_ex U)) (av.map (ab_cv ad sb)) :=
  ⟨fun a U g mk q => by
      obtain ⟨q0, q1, q2, q3, q4⟩ := q
      exact ⟨q0, q1, q2, va_K.moved (u := U) (U := U.calling g mk a) (Vm.Alike.refl U.vm) q3, ab_ex.same (s := U) (U := U.calling g mk a) rfl q4⟩,
    fun U hU hW => ⟨rfl, by rw [hU], by rw [hU]; exact ⟨hw.1, hw.2.weaken (fun _ _ _ _ => trivial)⟩, va_K.moved hW.alike hK, hex.warm hW⟩⟩
theorem ab_j_invokestatic (cx : ab_cx p l R s m args meth c D dA sb A k d X) (ix : Nat) (hd : decode (mC k) pc = .ok (.invokestatic ix, n)) (hn : nx = pc + n) (hln : ab_ln (.invokestatic ix) n = true) (hok : ok_i k pc (.invokestatic ix) au = true) (w : ab_rs (mCC d) post (ab_I p l e R s m args below meth c Q D dA sb A ad0 n0 k) h (ab_do mB mF (mR k) X (.invokestatic ix) nx au lv st b h)) : ab_I p l e R s m args below meth c Q D dA sb A ad0 n0 k (pc, lv, st, b, h) := by
  obtain rfl := Nat.eq_of_beq_eq_true hln
  subst hn
  intro ad H locs ls h1 h2 h3 hl hlen hw hS hb1 hb2
  obtain ⟨hx, hb, hml, hown, hts, hK, hex, hA, hin, hR, hX, hM⟩ := cx
  dsimp only [ok_i] at hok
  split at hok
  · rename_i k' nn p1 p2 p3
    simp only [Bool.and_eq_true] at hok
    obtain ⟨o1, o2, o3, o4, o5⟩ := hok
    have hk := Nat.le_of_ble_eq_true o1
    have w9 : ab_rs (mCC d) post (ab_I p l e R s m args below meth c Q D dA sb A ad0 n0 k) h (match ab_pop nn [] st with
      | some (av, r) => ab_call mB k' av lv r (pc + 3) b h
      | none => none) := w
    clear w
    have w := w9
    clear w9
    split at w
    · rename_i av r hpop
      obtain ⟨as, a1, rfl, a3⟩ := ab_pop.inv hpop
      rw [List.append_nil] at a3
      subst a3
      obtain ⟨g1, g2, g3, g4, w1⟩ := ab_call.inv w
      refine ab_cont (a := (av.map (ab_cv ad sb)).toArray) (pc := pc) (lv := lv) (b := b) (h := h) (k' := k') (r := r) hA h1 h2 h3 hl hlen hw hS hb1 hb2 g2 g3 g4 ?_
      exact va_runS (Ts := lw_good) (nL := mL k) (As := av.map (ab_cv ad sb)) (rest := r.map (ab_cv ad sb)) (n := nn) ⟨hx, hb, hml, hown, hts⟩ (hM k' hk D dA sb ad av h _ H.size w1)
        ⟨ab_callB hts hk rfl hR (of_decide_eq_true o2) (ok_at.use o3 hts rfl) (ok_at.use o5 hts rfl), ok_at.use o4 hts rfl⟩ (ab_blind hK hex hw) rfl (by rw [List.length_map]; exact a1) (hl.1.trans hlen) (by show List.map _ (av.reverse ++ r) = _; rw [List.map_append, List.map_reverse]) (lv_room (by rw [ab_ws_map]; exact g1)) hd ⟨by rw [hR.1]; show (mB k).1 - b.1 + _ ≤ _; have hb1 : b.1 ≤ (mB k).1 := hb1; omega, by rw [hR.2.1]; show (mB k).2 - b.2 + _ ≤ _; have hb2 : b.2 ≤ (mB k).2 := hb2; omega⟩
    · cases w
  · rename_i p1 p2 p3 p4
    simp only [Bool.and_eq_true] at hok
    obtain ⟨o1, o2, o3, o4⟩ := hok
    obtain ⟨nn, r1, rfl, w1⟩ := ab_i.inv w
    clear w
    obtain ⟨dp, r2, rfl, w2⟩ := ab_i.inv w1
    clear w1
    obtain ⟨a, r3, rfl, w3⟩ := ab_r.inv w2
    clear w2
    obtain ⟨sp, r4, rfl, w4⟩ := ab_i.inv w3
    clear w3
    obtain ⟨a0, r, rfl, w5⟩ := ab_r.inv w4
    clear w4
    obtain ⟨t0, n1, f, hh0, w6⟩ := ab_ai.inv w5
    obtain ⟨t1, n2, g, hh1, w7⟩ := ab_ai.inv w6
    obtain ⟨hc, w8⟩ := ab_gd.inv w7
    simp only [Bool.and_eq_true, Bool.not_eq_true', decide_eq_false_iff_not] at hc
    obtain ⟨c0, c1, c2, c3, c4, c5, c6, c7⟩ := hc
    obtain rfl := Nat.eq_of_beq_eq_true c1
    obtain rfl := Nat.eq_of_beq_eq_true c2
    have hat0 := ab_cw_at (ad := ad) (sb := sb) (dA := dA) hh0
    have hat1 := ab_cw_at (ad := ad) (sb := sb) (dA := dA) hh1
    have h18 : nativeFrameWords "java/lang/System" "arraycopy" 5 = 7 := by decide +kernel
    have c0 := Nat.le_of_ble_eq_true c0
    have hloc : ((r.map (ab_cv ad sb)).map fun v => v.category).sum + (nativeFrameWords "java/lang/System" "arraycopy" 5 + 11) ≤ R.locals := by
      rw [ab_ws_map, h18]
      have := hR.2.2.2
      omega
    exact va_copyi hx hb (hml.trans (hl.1.trans hlen).symm) hown (ok_at.use o1 hts rfl) (ok_at.use o2 hts rfl) (ok_at.use o3 hts rfl) (ok_at.use o4 hts rfl) hK hw.1 hw.2 hS a0 a 0 0 hat0 hat1 rfl rfl rfl c3 c4 c5 (Nat.le_of_ble_eq_true c6) (Nat.le_of_ble_eq_true c7) (fun _ _ => rfl) (Nat.le_trans (Nat.le_add_left 1 d) hR.2.2.1) hloc hd
      (fun H1 locs1 q1 q2 q3 => w8 ad H1 locs1 ls (by show n0 ≤ List.length _; rw [List.length_set]; exact h1) h2 h3 hl hlen (ab_wd.set q1 q2 rfl) q3 hb1 hb2)
  · rename_i p1 p2 p3 p4
    simp only [Bool.and_eq_true] at hok
    obtain ⟨o1, o2, o3, o4⟩ := hok
    obtain ⟨y, r1, rfl, w1⟩ := ab_i.inv w
    clear w
    obtain ⟨x, r, rfl, w2⟩ := ab_i.inv w1
    clear w1
    obtain ⟨hc, w3⟩ := ab_gd.inv w2
    have hc := Nat.le_of_ble_eq_true hc
    exact va_mmax hx hb (hml.trans (hl.1.trans hlen).symm) hown (ok_at.use o1 hts rfl) (ok_at.use o2 hts rfl) (ok_at.use o3 hts rfl) (ok_at.use o4 hts rfl) (Nat.le_trans (Nat.le_add_left 1 d) hR.2.2.1) (by rw [ab_ws_map]; have := hR.2.2.2; omega) (by rw [hR.1]; exact Nat.sub_le _ _) (by rw [hR.2.1]; exact Nat.sub_le _ _) hd (w3 ad H locs ls h1 h2 h3 hl hlen hw hS hb1 hb2)
  · rename_i p1 p2 p3 p4
    simp only [Bool.and_eq_true] at hok
    obtain ⟨o1, o2, o3, o4⟩ := hok
    obtain ⟨y, r1, rfl, w1⟩ := ab_i.inv w
    clear w
    obtain ⟨x, r, rfl, w2⟩ := ab_i.inv w1
    clear w1
    obtain ⟨hc, w3⟩ := ab_gd.inv w2
    have hc := Nat.le_of_ble_eq_true hc
    exact va_mmin hx hb (hml.trans (hl.1.trans hlen).symm) hown (ok_at.use o1 hts rfl) (ok_at.use o2 hts rfl) (ok_at.use o3 hts rfl) (ok_at.use o4 hts rfl) (Nat.le_trans (Nat.le_add_left 1 d) hR.2.2.1) (by rw [ab_ws_map]; have := hR.2.2.2; omega) (by rw [hR.1]; exact Nat.sub_le _ _) (by rw [hR.2.1]; exact Nat.sub_le _ _) hd (w3 ad H locs ls h1 h2 h3 hl hlen hw hS hb1 hb2)
  · cases hok
theorem ab_j_invokevirtual (cx : ab_cx p l R s m args meth c D dA sb A k d X) (ix : Nat) (hd : decode (mC k) pc = .ok (.invokevirtual ix, n)) (hn : nx = pc + n) (hln : ab_ln (.invokevirtual ix) n = true) (hok : ok_i k pc (.invokevirtual ix) au = true) (w : ab_rs (mCC d) post (ab_I p l e R s m args below meth c Q D dA sb A ad0 n0 k) h (ab_do mB mF (mR k) X (.invokevirtual ix) nx au lv st b h)) : ab_I p l e R s m args below meth c Q D dA sb A ad0 n0 k (pc, lv, st, b, h) := by
  obtain rfl := Nat.eq_of_beq_eq_true hln
  subst hn
  intro ad H locs ls h1 h2 h3 hl hlen hw hS hb1 hb2
  obtain ⟨hx, hb, hml, hown, hts, hK, hex, hA, hin, hR, hX, hM⟩ := cx
  dsimp only [ok_i] at hok
  split at hok
  · rename_i k' nn ci p1 p2 p3 p4
    split at hok
    · rename_i rr hcl
      simp only [Bool.and_eq_true] at hok
      obtain ⟨o1, o2, o3, o4, o5, o6, o7⟩ := hok
      have hk := Nat.le_of_ble_eq_true o1
      have w9 : ab_rs (mCC d) post (ab_I p l e R s m args below meth c Q D dA sb A ad0 n0 k) h (match ab_pop nn [] st with
        | some (av, r) => ab_r r fun a r => ab_o h a fun ci' _ => ab_gd (Nat.beq ci' ci) (ab_call mB k' (.ref a :: av) lv r (pc + 3) b h)
        | none => none) := w
      clear w
      have w := w9
      clear w9
      split at w
      · rename_i av r0 hpop
        obtain ⟨as, a1, rfl, a3⟩ := ab_pop.inv hpop
        rw [List.append_nil] at a3
        subst a3
        obtain ⟨a, r, rfl, w1⟩ := ab_r.inv w
        clear w
        obtain ⟨ci', fs, hh, w2⟩ := ab_o.inv w1
        obtain ⟨hc, w3⟩ := ab_gd.inv w2
        obtain rfl := Nat.eq_of_beq_eq_true hc
        obtain ⟨g1, g2, g3, g4, w4⟩ := ab_call.inv w3
        have hat := ab_cw_at (ad := ad) (sb := sb) (dA := dA) hh
        refine ab_cont (a := (Value.ref (ad a) :: av.map (ab_cv ad sb)).toArray) (pc := pc) (lv := lv) (b := b) (h := h) (k' := k') (r := r) hA h1 h2 h3 hl hlen hw hS hb1 hb2 g2 g3 g4 ?_
        have pre := ab_blind hK hex (av := .ref a :: av) hw
        exact va_runV (Ts := lw_good) (nL := mL k) (C := rr.1) (b := ad a) (As := av.map (ab_cv ad sb)) (rest := r.map (ab_cv ad sb)) (n := nn) ⟨hx, hb, hml, hown, hts⟩ (hM k' hk D dA sb ad (.ref a :: av) h _ H.size w4)
          ⟨ab_callB hts hk rfl hR (of_decide_eq_true o3) (ok_at.use o4 hts rfl) (ok_at.use o7 hts rfl), ok_at.use o5 hts rfl, ok_at.use o6 hts rfl⟩ ⟨pre.1, va_recv hK hw.1 hcl hat, pre.2⟩ rfl (by rw [List.length_map]; exact a1) (hl.1.trans hlen) (by show List.map _ (av.reverse ++ .ref a :: r) = _; rw [List.map_append, List.map_reverse]; rfl) (lv_room (by rw [ab_ws_map]; exact g1)) hd ⟨by rw [hR.1]; show (mB k).1 - b.1 + _ ≤ _; have hb1 : b.1 ≤ (mB k).1 := hb1; omega, by rw [hR.2.1]; show (mB k).2 - b.2 + _ ≤ _; have hb2 : b.2 ≤ (mB k).2 := hb2; omega⟩
      · cases w
    · cases hok
  · cases hok
theorem ab_j_invokespecial (cx : ab_cx p l R s m args meth c D dA sb A k d X) (ix : Nat) (hd : decode (mC k) pc = .ok (.invokespecial ix, n)) (hn : nx = pc + n) (hln : ab_ln (.invokespecial ix) n = true) (hok : ok_i k pc (.invokespecial ix) au = true) (w : ab_rs (mCC d) post (ab_I p l e R s m args below meth c Q D dA sb A ad0 n0 k) h (ab_do mB mF (mR k) X (.invokespecial ix) nx au lv st b h)) : ab_I p l e R s m args below meth c Q D dA sb A ad0 n0 k (pc, lv, st, b, h) := by
  obtain rfl := Nat.eq_of_beq_eq_true hln
  subst hn
  intro ad H locs ls h1 h2 h3 hl hlen hw hS hb1 hb2
  obtain ⟨hx, hb, hml, hown, hts, hK, hex, hA, hin, hR, hX, hM⟩ := cx
  dsimp only [ok_i] at hok
  split at hok
  · rename_i k' nn z p1 p2 p3
    simp only [Bool.and_eq_true] at hok
    obtain ⟨o1, o2, o3, o4, o5, o6⟩ := hok
    have hk := Nat.le_of_ble_eq_true o1
    have o2 := of_decide_eq_true o2
    have w9 : ab_rs (mCC d) post (ab_I p l e R s m args below meth c Q D dA sb A ad0 n0 k) h (match ab_pop nn [] st with
      | some (av, r) => ab_r r fun a r => ab_call mB k' (.ref a :: av) lv r (pc + 3) b h
      | none => none) := w
    clear w
    have w := w9
    clear w9
    split at w
    · rename_i av r0 hpop
      obtain ⟨as, a1, rfl, a3⟩ := ab_pop.inv hpop
      rw [List.append_nil] at a3
      subst a3
      obtain ⟨a, r, rfl, w1⟩ := ab_r.inv w
      clear w
      obtain ⟨g1, g2, g3, g4, w4⟩ := ab_call.inv w1
      refine ab_cont (a := (Value.ref (ad a) :: av.map (ab_cv ad sb)).toArray) (pc := pc) (lv := lv) (b := b) (h := h) (k' := k') (r := r) hA h1 h2 h3 hl hlen hw hS hb1 hb2 g2 g3 g4 ?_
      have pre := ab_blind hK hex (av := .ref a :: av) hw
      have hstk : List.map (ab_cv ad sb) (av.reverse ++ .ref a :: r) = (av.map (ab_cv ad sb)).reverse ++ .ref (ad a) :: r.map (ab_cv ad sb) := by rw [List.map_append, List.map_reverse]; rfl
      have hcc : (mB k).1 - b.1 + (mB k').1 ≤ R.cells ∧ (mB k).2 - b.2 + (mB k').2 ≤ R.slots := ⟨by rw [hR.1]; have hb1 : b.1 ≤ (mB k).1 := hb1; omega, by rw [hR.2.1]; have hb2 : b.2 ≤ (mB k).2 := hb2; omega⟩
      match z, o4 with
      | 0, o4 =>
        exact va_runI (Ts := lw_good) (nL := mL k) (b := ad a) (As := av.map (ab_cv ad sb)) (rest := r.map (ab_cv ad sb)) (n := nn) ⟨hx, hb, hml, hown, hts⟩ (hM k' hk D dA sb ad (.ref a :: av) h _ H.size w4)
          ⟨ab_callB hts hk o2.2 hR (of_decide_eq_true o3) (ok_at.use o4 hts rfl) (ok_at.use o6 hts rfl), o2.1, ok_at.use o5 hts rfl⟩ pre rfl (by rw [List.length_map]; exact a1) (hl.1.trans hlen) hstk (lv_room (by rw [ab_ws_map]; exact g1)) hd hcc
      | z + 1, o4 =>
        have hc := ok_cls k' hk
        simp only [Bool.and_eq_true, decide_eq_true_eq] at hc
        obtain ⟨c1, c2, c3, c4⟩ := hc
        have c4 := Nat.le_of_ble_eq_true c4
        exact va_runIN (Ts := lw_good) (nL := mL k) (b := ad a) (As := av.map (ab_cv ad sb)) (rest := r.map (ab_cv ad sb)) (n := nn) ⟨hx, hb, hml, hown, hts⟩ (hM k' hk D dA sb ad (.ref a :: av) h _ H.size w4)
          ⟨va_cnB nn hts (mW_good hk) (by rw [← o2.2]; rfl) rfl rfl (hex.2.2 _ _ _ _ (ok_at.mem o4)) (ok_at.use o6 hts rfl) ⟨c2, c3, of_decide_eq_true o3⟩ ⟨hR.2.2.1, by show 8 + (mL k' + 11) + 60 * d ≤ _; have := hR.2.2.2; omega⟩, o2.1, ok_at.use o5 hts rfl⟩ pre rfl (by rw [List.length_map]; exact a1) (hl.1.trans hlen) hstk (lv_room (by rw [ab_ws_map]; exact g1)) hd hcc
    · cases w
  · rename_i p1 p2 p3
    simp only [Bool.and_eq_true] at hok
    obtain ⟨o1, o2, o3⟩ := hok
    obtain ⟨a, r, rfl, w1⟩ := ab_r.inv w
    clear w
    obtain ⟨hc, w2⟩ := ab_gd.inv w1
    have hc := Nat.le_of_ble_eq_true hc
    refine W.objInit (a := ad a) (rest := r.map (ab_cv ad sb)) hx hb hown (ok_at.use o1 hts rfl) (ok_at.use o2 hts rfl) (ok_at.use o3 hts rfl) rfl (by rw [hml]; exact hl.1.trans hlen) rfl hd (Nat.le_trans (Nat.le_add_left 1 d) hR.2.2.1) (by rw [ab_ws_map]; show 2 * 0 + _ + 12 ≤ _; have := hR.2.2.2; omega) ?_
    exact w2 ad H locs ls h1 h2 h3 hl hlen hw hS hb1 hb2
  · cases hok
/-- the ends -/
def ab_rk (rt : Option FieldType) (i : Instr) (r : Option Value) : Prop := (i = .ireturn ∧ ∃ v, r = some (.int v) ∧ ab_nr rt v = true) ∨ (i = .lreturn ∧ rt = some .long ∧ ∃ v, r = some (.long v)) ∨ (i = .areturn ∧ (∃ C, rt = some (.object C)) ∧ ∃ v, r = some v ∧ (v = .null ∨ ∃ a, v = .ref a)) ∨ (i = .return_ ∧ rt = none ∧ r = none)
def ab_ret (p : Program) (l : Launch) (e : Env) (R : Room) (s : State) (m : MethodId) (args : Array Value) (below : List Frame) (meth : Method) (c : Code) (Q : State → Prop) (D : va_G) (dA : Nat → Nat) (sb : Nat) (A : Nat → Prop) (ad0 : Nat → Nat) (n0 k : Nat) (post : ab_P) : Prop :=
  ∀ (i : Instr) (r : Option Value) (pc : Nat) (h : ab_H) (ad : Nat → Nat) (H : Heap) (locs : List Loc) (ls : Array Slot), decode (mC k) pc = .ok (i, 1) → ab_rk (mR k) i r → post r h → n0 ≤ h.length → (∀ i, i < n0 → ad i = ad0 i) → ((mB k).1 = 0 → ad = ad0) → ab_wd D dA sb A ad h H → va_S A s.heap H locs → W p l e R s m args below meth c H locs (mB k).1 (mB k).2 Q (F0 m pc ls (r.map (ab_cv ad sb)).toList)
theorem ab_j_ireturn (cx : ab_cx p l R s m args meth c D dA sb A k d X)  (hd : decode (mC k) pc = .ok (.ireturn, n)) (hn : nx = pc + n) (hln : ab_ln (.ireturn) n = true) (hok : ok_i k pc (.ireturn) au = true) (hret : ab_ret p l e R s m args below meth c Q D dA sb A ad0 n0 k post) (w : ab_rs (mCC d) post (ab_I p l e R s m args below meth c Q D dA sb A ad0 n0 k) h (ab_do mB mF (mR k) X (.ireturn) nx au lv st b h)) : ab_I p l e R s m args below meth c Q D dA sb A ad0 n0 k (pc, lv, st, b, h) := by
  obtain rfl := Nat.eq_of_beq_eq_true hln
  subst hn
  intro ad H locs ls h1 h2 h3 hl hlen hw hS hb1 hb2
  obtain ⟨hx, hb, hml, hown, hts, hK, hex, hA, hin, hR, hX, hM⟩ := cx
  refine W.widen (k := (mB k).1) (n := (mB k).2) (Nat.sub_le _ _) (Nat.sub_le _ _) ?_
  dsimp only [ab_do] at w
  split at w
  · rename_i v
    obtain ⟨hz, w1⟩ := ab_gd.inv w
    exact hret .ireturn (some (.int v)) pc h ad H locs ls hd (Or.inl ⟨rfl, v, rfl, hz⟩) w1 h1 h2 h3 hw hS
  · cases w
theorem ab_j_lreturn (cx : ab_cx p l R s m args meth c D dA sb A k d X)  (hd : decode (mC k) pc = .ok (.lreturn, n)) (hn : nx = pc + n) (hln : ab_ln (.lreturn) n = true) (hok : ok_i k pc (.lreturn) au = true) (hret : ab_ret p l e R s m args below meth c Q D dA sb A ad0 n0 k post) (w : ab_rs (mCC d) post (ab_I p l e R s m args below meth c Q D dA sb A ad0 n0 k) h (ab_do mB mF (mR k) X (.lreturn) nx au lv st b h)) : ab_I p l e R s m args below meth c Q D dA sb A ad0 n0 k (pc, lv, st, b, h) := by
  obtain rfl := Nat.eq_of_beq_eq_true hln
  subst hn
  intro ad H locs ls h1 h2 h3 hl hlen hw hS hb1 hb2
  obtain ⟨hx, hb, hml, hown, hts, hK, hex, hA, hin, hR, hX, hM⟩ := cx
  refine W.widen (k := (mB k).1) (n := (mB k).2) (Nat.sub_le _ _) (Nat.sub_le _ _) ?_
  dsimp only [ab_do] at w
  split at w
  · rename_i v
    exact hret .lreturn (some (.long v)) pc h ad H locs ls hd (Or.inr (Or.inl ⟨rfl, of_decide_eq_true hok, v, rfl⟩)) w h1 h2 h3 hw hS
  · cases w
theorem ab_j_areturn (cx : ab_cx p l R s m args meth c D dA sb A k d X)  (hd : decode (mC k) pc = .ok (.areturn, n)) (hn : nx = pc + n) (hln : ab_ln (.areturn) n = true) (hok : ok_i k pc (.areturn) au = true) (hret : ab_ret p l e R s m args below meth c Q D dA sb A ad0 n0 k post) (w : ab_rs (mCC d) post (ab_I p l e R s m args below meth c Q D dA sb A ad0 n0 k) h (ab_do mB mF (mR k) X (.areturn) nx au lv st b h)) : ab_I p l e R s m args below meth c Q D dA sb A ad0 n0 k (pc, lv, st, b, h) := by
  obtain rfl := Nat.eq_of_beq_eq_true hln
  subst hn
  intro ad H locs ls h1 h2 h3 hl hlen hw hS hb1 hb2
  obtain ⟨hx, hb, hml, hown, hts, hK, hex, hA, hin, hR, hX, hM⟩ := cx
  refine W.widen (k := (mB k).1) (n := (mB k).2) (Nat.sub_le _ _) (Nat.sub_le _ _) ?_
  dsimp only [ab_do] at w
  split at w
  · rename_i v
    have hC : ∃ C, mR k = some (.object C) := by
      dsimp only [ok_i] at hok
      split at hok
      · rename_i C e
        exact ⟨C, e⟩
      · cases hok
    exact hret .areturn (some (.ref v)) pc h ad H locs ls hd (Or.inr (Or.inr (Or.inl ⟨rfl, hC, _, rfl, Or.inr ⟨v, rfl⟩⟩))) w h1 h2 h3 hw hS
  · have hC : ∃ C, mR k = some (.object C) := by
      dsimp only [ok_i] at hok
      split at hok
      · rename_i C e
        exact ⟨C, e⟩
      · cases hok
    exact hret .areturn (some .null) pc h ad H locs ls hd (Or.inr (Or.inr (Or.inl ⟨rfl, hC, _, rfl, Or.inl rfl⟩))) w h1 h2 h3 hw hS
  · cases w
theorem ab_j_return_ (cx : ab_cx p l R s m args meth c D dA sb A k d X)  (hd : decode (mC k) pc = .ok (.return_, n)) (hn : nx = pc + n) (hln : ab_ln (.return_) n = true) (hok : ok_i k pc (.return_) au = true) (hret : ab_ret p l e R s m args below meth c Q D dA sb A ad0 n0 k post) (w : ab_rs (mCC d) post (ab_I p l e R s m args below meth c Q D dA sb A ad0 n0 k) h (ab_do mB mF (mR k) X (.return_) nx au lv st b h)) : ab_I p l e R s m args below meth c Q D dA sb A ad0 n0 k (pc, lv, st, b, h) := by
  obtain rfl := Nat.eq_of_beq_eq_true hln
  subst hn
  intro ad H locs ls h1 h2 h3 hl hlen hw hS hb1 hb2
  obtain ⟨hx, hb, hml, hown, hts, hK, hex, hA, hin, hR, hX, hM⟩ := cx
  refine W.widen (k := (mB k).1) (n := (mB k).2) (Nat.sub_le _ _) (Nat.sub_le _ _) ?_
  dsimp only [ab_do] at w
  split at w
  · exact hret .return_ none pc h ad H locs ls hd (Or.inr (Or.inr (Or.inr ⟨rfl, of_decide_eq_true hok, rfl⟩))) w h1 h2 h3 hw hS
  · cases w
theorem ab_close (cx : ab_cx p l R s m args meth c D dA sb A k d X) (hret : ab_ret p l e R s m args below meth c Q D dA sb A ad0 n0 k post) : ∀ q : ab_S, ab_rs (mCC d) post (ab_I p l e R s m args below meth c Q D dA sb A ad0 n0 k) q.2.2.2.2 (ab_st (mT k) mB mF (mR k) X q) → ab_I p l e R s m args below meth c Q D dA sb A ad0 n0 k q := by
  rintro ⟨pc, lv, st, b, h⟩ w
  unfold ab_st at w
  dsimp only at w
  cases hT : mT k pc with
  | none => rw [hT] at w; cases w
  | some t =>
    obtain ⟨i, nx, au⟩ := t
    rw [hT] at w
    obtain ⟨n, hd, hn, hln, hok⟩ := ok_get hT
    dsimp only at w
    cases i with
    | aconst_null => exact ab_j_aconst_null cx hd hn hln hok w
    | iadd => exact ab_j_iadd cx hd hn hln hok w
    | isub => exact ab_j_isub cx hd hn hln hok w
    | imul => exact ab_j_imul cx hd hn hln hok w
    | iand => exact ab_j_iand cx hd hn hln hok w
    | ior => exact ab_j_ior cx hd hn hln hok w
    | idiv => exact ab_j_idiv cx hd hn hln hok w
    | irem => exact ab_j_irem cx hd hn hln hok w
    | ineg => exact ab_j_ineg cx hd hn hln hok w
    | ishl => exact ab_j_ishl cx hd hn hln hok w
    | ishr => exact ab_j_ishr cx hd hn hln hok w
    | iushr => exact ab_j_iushr cx hd hn hln hok w
    | ladd => exact ab_j_ladd cx hd hn hln hok w
    | lsub => exact ab_j_lsub cx hd hn hln hok w
    | land => exact ab_j_land cx hd hn hln hok w
    | lor => exact ab_j_lor cx hd hn hln hok w
    | lxor => exact ab_j_lxor cx hd hn hln hok w
    | lneg => exact ab_j_lneg cx hd hn hln hok w
    | lshl => exact ab_j_lshl cx hd hn hln hok w
    | lshr => exact ab_j_lshr cx hd hn hln hok w
    | lushr => exact ab_j_lushr cx hd hn hln hok w
    | lcmp => exact ab_j_lcmp cx hd hn hln hok w
    | l2i => exact ab_j_l2i cx hd hn hln hok w
    | dup => exact ab_j_dup cx hd hn hln hok w
    | pop => exact ab_j_pop cx hd hn hln hok w
    | dup2 => exact ab_j_dup2 cx hd hn hln hok w
    | iaload => exact ab_j_iaload cx hd hn hln hok w
    | baload => exact ab_j_baload cx hd hn hln hok w
    | laload => exact ab_j_laload cx hd hn hln hok w
    | aaload => exact ab_j_aaload cx hd hn hln hok w
    | iastore => exact ab_j_iastore cx hd hn hln hok w
    | bastore => exact ab_j_bastore cx hd hn hln hok w
    | lastore => exact ab_j_lastore cx hd hn hln hok w
    | aastore => exact ab_j_aastore cx hd hn hln hok w
    | arraylength => exact ab_j_arraylength cx hd hn hln hok w
    | iconst j => exact ab_j_iconst cx j hd hn hln hok w
    | bipush j => exact ab_j_bipush cx j hd hn hln hok w
    | sipush j => exact ab_j_sipush cx j hd hn hln hok w
    | lconst j => exact ab_j_lconst cx j hd hn hln hok w
    | ldc_w j => exact ab_j_ldc_w cx j hd hn hln hok w
    | ldc2_w j => exact ab_j_ldc2_w cx j hd hn hln hok w
    | iload_n j => exact ab_j_iload_n cx j hd hn hln hok w
    | iload j => exact ab_j_iload cx j hd hn hln hok w
    | lload_n j => exact ab_j_lload_n cx j hd hn hln hok w
    | lload j => exact ab_j_lload cx j hd hn hln hok w
    | aload_n j => exact ab_j_aload_n cx j hd hn hln hok w
    | aload j => exact ab_j_aload cx j hd hn hln hok w
    | istore_n j => exact ab_j_istore_n cx j hd hn hln hok w
    | istore j => exact ab_j_istore cx j hd hn hln hok w
    | lstore_n j => exact ab_j_lstore_n cx j hd hn hln hok w
    | lstore j => exact ab_j_lstore cx j hd hn hln hok w
    | astore_n j => exact ab_j_astore_n cx j hd hn hln hok w
    | astore j => exact ab_j_astore cx j hd hn hln hok w
    | goto j => exact ab_j_goto cx j hd hn hln hok w
    | ifnull j => exact ab_j_ifnull cx j hd hn hln hok w
    | ifnonnull j => exact ab_j_ifnonnull cx j hd hn hln hok w
    | getfield j => exact ab_j_getfield cx j hd hn hln hok w
    | putfield j => exact ab_j_putfield cx j hd hn hln hok w
    | new j => exact ab_j_new cx j hd hn hln hok w
    | newarray j => exact ab_j_newarray cx j hd hn hln hok w
    | anewarray j => exact ab_j_anewarray cx j hd hn hln hok w
    | invokestatic j => exact ab_j_invokestatic cx j hd hn hln hok w
    | invokevirtual j => exact ab_j_invokevirtual cx j hd hn hln hok w
    | invokespecial j => exact ab_j_invokespecial cx j hd hn hln hok w
    | iinc j v => exact ab_j_iinc cx j v hd hn hln hok w
    | tableswitch a1 a2 a3 a4 => exact ab_j_tableswitch cx a1 a2 a3 a4 hd hn hln hok w
    | ifCond cd j =>
      cases cd with
      | eq => exact ab_j_ifCond_eq cx j hd hn hln hok w
      | ne => exact ab_j_ifCond_ne cx j hd hn hln hok w
      | lt => exact ab_j_ifCond_lt cx j hd hn hln hok w
      | ge => exact ab_j_ifCond_ge cx j hd hn hln hok w
      | gt => exact ab_j_ifCond_gt cx j hd hn hln hok w
      | le => exact ab_j_ifCond_le cx j hd hn hln hok w
    | if_icmp cd j =>
      cases cd with
      | eq => exact ab_j_if_icmp_eq cx j hd hn hln hok w
      | ne => exact ab_j_if_icmp_ne cx j hd hn hln hok w
      | lt => exact ab_j_if_icmp_lt cx j hd hn hln hok w
      | ge => exact ab_j_if_icmp_ge cx j hd hn hln hok w
      | gt => exact ab_j_if_icmp_gt cx j hd hn hln hok w
      | le => exact ab_j_if_icmp_le cx j hd hn hln hok w
    | ireturn => exact ab_j_ireturn cx hd hn hln hok hret w
    | lreturn => exact ab_j_lreturn cx hd hn hln hok hret w
    | areturn => exact ab_j_areturn cx hd hn hln hok hret w
    | return_ => exact ab_j_return_ cx hd hn hln hok hret w
    | _ => exact False.elim w
theorem ab_body (cx : ab_cx p l R s m args meth c D dA sb A k d X) (hret : ab_ret p l e R s m args below meth c Q D dA sb A ad0 n0 k post) {q : ab_S} (w : ab_W (ab_st (mT k) mB mF (mR k) X) (mCC d) post q) : ab_I p l e R s m args below meth c Q D dA sb A ad0 n0 k q := w _ (ab_close cx hret)
end ABL
theorem ab_met_all (l : Launch) : ∀ (d k : Nat), k < mN → ab_met l d k := by
  intro d
  induction d with
  | zero =>
    intro k hk D dA sb ad av h post sz w
    exact False.elim w
  | succ d ih =>
    intro k hk D dA sb ad av h post sz w
    obtain ⟨w0, w⟩ := w
    have w0 := Nat.le_of_ble_eq_true w0
    have hc := ok_cls k hk
    simp only [Bool.and_eq_true, decide_eq_true_eq] at hc
    obtain ⟨c1, c2, c3, c4⟩ := hc
    refine Met.ofW (cc := mC k) (maxL := mL k) (ret := mR k) c1 rfl ?_
    intro p e s m args below meth c s₁ B hml hv
    obtain ⟨rfl, hsz, hw, hK, hex⟩ := hv
    have hx := B.exec
    have hb := B.bytes
    have hr := B.returns
    have hts0 := atoms_spec (ws := mW k) B.pre
    have hts : ∀ w ∈ lw_good, w.before _ s = true := fun w hw => hts0 w (List.mem_cons_of_mem _ hw)
    have hown : s.vm.findClass (mY k).cls = some m.cls := findClass_of_methodNamed B.named
    have hlocks := B.notSynchronized
    have hin : meth.name = (mY k).name := (name_of_methodNamed B.named B.method).1
    subst hsz
    have hD := hw.2.self (sz := s.heap.size)
    have hP := hw.1
    generalize hAe : va_A (ab_cw ad sb dA h) s.heap.size = A at hD ⊢
    have hA : ∀ q : Nat, s.heap.size ≤ q → A q := fun q h => by rw [← hAe]; exact Or.inr h
    have hS : va_S A s.heap s.heap [] := va_S.rf
    have hl := ab_lr.entry ad sb (av := av) (n := mL k) w0
    rw [lg_entry_eq]
    generalize (lg_sl (av.map (ab_cv ad sb)) ++ List.replicate (mL k - (lg_sl (av.map (ab_cv ad sb))).length) Slot.unset).toArray = ls at hl ⊢
    have cx : ab_cx p l (headSpec (mW k) (mRm (d + 1) k)).room s m (av.map (ab_cv ad sb)).toArray meth c D dA sb A k d none :=
      ⟨hx, hb, hml, hown, hts, hK, hex, hA, fun q => hin.trans q, ⟨rfl, rfl, Nat.le_refl _, Nat.le_refl _⟩, fun x hx => (by cases hx), ih⟩
    have hret : ab_ret p l e (headSpec (mW k) (mRm (d + 1) k)).room s m (av.map (ab_cv ad sb)).toArray below meth c (MQ below (ab_Q D dA sb ad h.length (mB k).1 A post) (av.map (ab_cv ad sb)).toArray s (mB k).1 (mB k).2 A) D dA sb A ad h.length k post := by
      intro i r pc h' ad' H locs ls hd hrk hp g1 g2 g3 hw' hS'
      have fin : ∀ t : State, t.heap = H → s.WarmedH t.vm → ab_Q D dA sb ad h.length (mB k).1 A post (av.map (ab_cv ad sb)).toArray s (.returned (r.map (ab_cv ad' sb))) t := fun t ht hW => ⟨⟨r, h', ad', rfl, hp, g2, g3, g1, by rw [ht]; exact hw'⟩, hS'.F ht⟩
      rcases hrk with ⟨rfl, v, rfl, hz⟩ | ⟨rfl, hz, v, rfl⟩ | ⟨rfl, ⟨C, hz⟩, v, rfl, hv⟩ | ⟨rfl, hz, rfl⟩
      · cases hmr : mR k with
        | none => rw [hmr] at hz; cases hz
        | some ty =>
          rw [hmr] at hz hr
          have hnar : narrow ty (.int v) = .int v := by
            cases ty with
            | int => rfl
            | boolean =>
              have hz : (v == 0 || v == 1) = true := hz
              rw [Bool.or_eq_true, beq_iff_eq, beq_iff_eq] at hz
              rcases hz with rfl | rfl <;> rfl
            | _ => cases hz
          exact W.zret (v := v) hx hb hr hnar fin hS'.2.2 hd
      · rw [hz] at hr
        exact W.lret (v := v) hx hb hr fin hS'.2.2 hd
      · rw [hz] at hr
        exact W.aret (v := ab_cv ad' sb v) hx hb hr (Or.inl ⟨C, rfl⟩) (by
          rcases hv with rfl | ⟨a, rfl⟩
          · exact Or.inl rfl
          · exact Or.inr ⟨_, rfl⟩) fin hS'.2.2 hd
      · rw [hz] at hr
        exact W.vret hx hb hr fin hS'.2.2 hd
    have fin := ab_body cx hret w ad s.heap [] ls (Nat.le_refl _) (fun _ _ => rfl) (fun _ => rfl) hl (ab_lv_len av (mL k) w0) ⟨hP, hD⟩ hS (Nat.le_refl _) (Nat.le_refl _)
    exact W.cs (Nat.sub_self _).symm (Nat.sub_self _).symm fin
end
section
/-! rows for walking a method's code on the abstract machine -/
theorem mm (d : Nat) : ab_mono (mCC d) := ab_CC.mono mT mB mF mR mL d
section ABW
variable {F : ab_S → ab_R} {C : ab_C} {post : ab_P} {c : ab_S}
theorem ab_W.itT (hC : ab_mono C) {c1 c2 : ab_S} {p : Prop} [Decidable p] (e : F c = if p then some (.inl c1) else some (.inl c2)) (hp : p) (w1 : ab_W F C post c1) : ab_W F C post c := ab_W.ite hC e (fun _ => w1) (fun q => absurd hp q)
theorem ab_W.itF (hC : ab_mono C) {c1 c2 : ab_S} {p : Prop} [Decidable p] (e : F c = if p then some (.inl c1) else some (.inl c2)) (hp : ¬ p) (w1 : ab_W F C post c2) : ab_W F C post c := ab_W.ite hC e (fun q => absurd q hp) (fun _ => w1)
theorem ab_W.topi {pc : Nat} {lv st : List Value} {b : Nat × Nat} {h : ab_H} {x y : Int32} (e : x = y) (w : ab_W F C post (pc, lv, .int y :: st, b, h)) : ab_W F C post (pc, lv, .int x :: st, b, h) := by rw [e]; exact w
theorem ab_W.topl {pc : Nat} {lv st : List Value} {b : Nat × Nat} {h : ab_H} {x y : Int64} (e : x = y) (w : ab_W F C post (pc, lv, .long y :: st, b, h)) : ab_W F C post (pc, lv, .long x :: st, b, h) := by rw [e]; exact w
theorem ab_W.hp {pc : Nat} {lv st : List Value} {b : Nat × Nat} {h h' : ab_H} (e : h = h') (w : ab_W F C post (pc, lv, st, b, h')) : ab_W F C post (pc, lv, st, b, h) := by rw [e]; exact w
theorem ab_W.o (hC : ab_mono C) {h : ab_H} {a ci : Nat} {fs : List Value} {f : Nat → List Value → ab_R} {c' : ab_S} (hh : h[a]? = some (.inr (ci, fs))) (e : F c = ab_o h a f) (e2 : f ci fs = some (.inl c')) (w : ab_W F C post c') : ab_W F C post c := by
  refine ab_W.fold hC ?_
  rw [e]
  unfold ab_o
  rw [hh]
  show ab_rs _ _ _ _ (f ci fs)
  rw [e2]
  exact w
theorem ab_in_nI {i : Int32} {j n : Nat} (hi : i = nI j) (hj : j < n) (hn : Nat.ble n 2147483647 = true) : ab_in i n = true ∧ i.toNatClampNeg = j := by
  have hn := Nat.le_of_ble_eq_true hn
  have hc : (nI j).toNatClampNeg = j := nI_clamp (by omega)
  subst hi
  refine ⟨?_, hc⟩
  unfold ab_in
  rw [hc, Bool.and_eq_true, Bool.not_eq_true', decide_eq_false_iff_not]
  exact ⟨nI_pos (by omega), Nat.ble_eq_true_of_le hj⟩
variable {h : ab_H} {a n j nx : Nat} {i : Int32} {lv r : List Value} {b : Nat × Nat}
theorem ab_W.iald (hC : ab_mono C) {g : Nat → Int32} (hh : h[a]? = some (.inl (0, n, .inl g))) (hi : i = nI j) (hj : j < n) (hn : Nat.ble n 2147483647 = true) (e : F c = ab_ai h a fun t n g => ab_gd (Nat.beq t 0 && ab_in i n) (ab_nx nx lv (.int (g i.toNatClampNeg) :: r) b h)) (w : ab_W F C post (nx, lv, .int (g j) :: r, b, h)) : ab_W F C post c := by
  obtain ⟨h1, h2⟩ := ab_in_nI hi hj hn
  refine ab_W.fold hC ?_
  rw [e]
  unfold ab_ai
  rw [hh]
  show ab_rs _ _ _ _ (ab_gd (true && ab_in i n) (ab_nx nx lv (.int (g i.toNatClampNeg) :: r) b h))
  rw [h1, h2]
  exact w
theorem ab_W.bald (hC : ab_mono C) {g : Nat → Int32} (hh : h[a]? = some (.inl (2, n, .inl g))) (hi : i = nI j) (hj : j < n) (hn : Nat.ble n 2147483647 = true) (e : F c = ab_ai h a fun t n g => ab_gd (Nat.beq t 2 && ab_in i n) (ab_nx nx lv (.int (g i.toNatClampNeg) :: r) b h)) (w : ab_W F C post (nx, lv, .int (g j) :: r, b, h)) : ab_W F C post c := by
  obtain ⟨h1, h2⟩ := ab_in_nI hi hj hn
  refine ab_W.fold hC ?_
  rw [e]
  unfold ab_ai
  rw [hh]
  show ab_rs _ _ _ _ (ab_gd (true && ab_in i n) (ab_nx nx lv (.int (g i.toNatClampNeg) :: r) b h))
  rw [h1, h2]
  exact w
theorem ab_W.lald (hC : ab_mono C) {g : Nat → Int64} (hh : h[a]? = some (.inl (1, n, .inr (.inl g)))) (hi : i = nI j) (hj : j < n) (hn : Nat.ble n 2147483647 = true) (e : F c = ab_al h a fun t n g => ab_gd (Nat.beq t 1 && ab_in i n) (ab_nx nx lv (.long (g i.toNatClampNeg) :: r) b h)) (w : ab_W F C post (nx, lv, .long (g j) :: r, b, h)) : ab_W F C post c := by
  obtain ⟨h1, h2⟩ := ab_in_nI hi hj hn
  refine ab_W.fold hC ?_
  rw [e]
  unfold ab_al
  rw [hh]
  show ab_rs _ _ _ _ (ab_gd (true && ab_in i n) (ab_nx nx lv (.long (g i.toNatClampNeg) :: r) b h))
  rw [h1, h2]
  exact w
theorem ab_W.aald (hC : ab_mono C) {t : Nat} {g : Nat → Option Nat} (hh : h[a]? = some (.inl (t, n, .inr (.inr (.inr (.inr g)))))) (hi : i = nI j) (hj : j < n) (hn : Nat.ble n 2147483647 = true) (ht : (Nat.beq t 3 || Nat.beq t 4) = true) (e : F c = ab_aq h a fun t n g => ab_gd ((Nat.beq t 3 || Nat.beq t 4) && ab_in i n) (ab_nx nx lv (va_rf (g i.toNatClampNeg) :: r) b h)) (w : ab_W F C post (nx, lv, va_rf (g j) :: r, b, h)) : ab_W F C post c := by
  obtain ⟨h1, h2⟩ := ab_in_nI hi hj hn
  refine ab_W.fold hC ?_
  rw [e]
  unfold ab_aq
  rw [hh]
  show ab_rs _ _ _ _ (ab_gd ((Nat.beq t 3 || Nat.beq t 4) && ab_in i n) (ab_nx nx lv (va_rf (g i.toNatClampNeg) :: r) b h))
  rw [ht, h1, h2]
  exact w
theorem ab_W.iast (hC : ab_mono C) {g : Nat → Int32} {x : Int32} (hh : h[a]? = some (.inl (0, n, .inl g))) (hi : i = nI j) (hj : j < n) (hn : Nat.ble n 2147483647 = true) (e : F c = ab_ai h a fun t n g => ab_gd (Nat.beq t 0 && ab_in i n) (ab_nx nx lv r b (h.set a (.inl (t, n, .inl (upd g i.toNatClampNeg x)))))) (w : ab_W F C post (nx, lv, r, b, h.set a (.inl (0, n, .inl (upd g j x))))) : ab_W F C post c := by
  obtain ⟨h1, h2⟩ := ab_in_nI hi hj hn
  refine ab_W.fold hC ?_
  rw [e]
  unfold ab_ai
  rw [hh]
  show ab_rs _ _ _ _ (ab_gd (true && ab_in i n) (ab_nx nx lv r b (h.set a (.inl (0, n, .inl (upd g i.toNatClampNeg x))))))
  rw [h1, h2]
  exact w
theorem ab_W.bast (hC : ab_mono C) {g : Nat → Int32} {x : Int32} (hh : h[a]? = some (.inl (2, n, .inl g))) (hi : i = nI j) (hj : j < n) (hn : Nat.ble n 2147483647 = true) (hx : (x == 0 || x == 1) = true) (e : F c = ab_ai h a fun t n g => ab_gd (Nat.beq t 2 && ((x == 0 || x == 1) && ab_in i n)) (ab_nx nx lv r b (h.set a (.inl (t, n, .inl (upd g i.toNatClampNeg x)))))) (w : ab_W F C post (nx, lv, r, b, h.set a (.inl (2, n, .inl (upd g j x))))) : ab_W F C post c := by
  obtain ⟨h1, h2⟩ := ab_in_nI hi hj hn
  refine ab_W.fold hC ?_
  rw [e]
  unfold ab_ai
  rw [hh]
  show ab_rs _ _ _ _ (ab_gd (true && ((x == 0 || x == 1) && ab_in i n)) (ab_nx nx lv r b (h.set a (.inl (2, n, .inl (upd g i.toNatClampNeg x))))))
  rw [h1, h2, hx]
  exact w
theorem ab_W.last (hC : ab_mono C) {g : Nat → Int64} {x : Int64} (hh : h[a]? = some (.inl (1, n, .inr (.inl g)))) (hi : i = nI j) (hj : j < n) (hn : Nat.ble n 2147483647 = true) (e : F c = ab_al h a fun t n g => ab_gd (Nat.beq t 1 && ab_in i n) (ab_nx nx lv r b (h.set a (.inl (t, n, .inr (.inl (vp_updL g i.toNatClampNeg x))))))) (w : ab_W F C post (nx, lv, r, b, h.set a (.inl (1, n, .inr (.inl (vp_updL g j x)))))) : ab_W F C post c := by
  obtain ⟨h1, h2⟩ := ab_in_nI hi hj hn
  refine ab_W.fold hC ?_
  rw [e]
  unfold ab_al
  rw [hh]
  show ab_rs _ _ _ _ (ab_gd (true && ab_in i n) (ab_nx nx lv r b (h.set a (.inl (1, n, .inr (.inl (vp_updL g i.toNatClampNeg x)))))))
  rw [h1, h2]
  exact w
theorem ab_W.retI (hC : ab_mono C) {rt : Option FieldType} {v : Int32} (e : F c = ab_gd (ab_nr rt v) (some (.inr (.inr (some (.int v)))))) (hb : ab_nr rt v = true) (w : post (some (.int v)) c.2.2.2.2) : ab_W F C post c := by
  refine ab_W.fold hC ?_
  rw [e, hb]
  exact w
end ABW
end
section
/-! SPANS, by the numbers 1 to 127: the halves of k are 2 k and 2 k + 1 -/
def sz (δ : Nat) : Nat := 64 / 2 ^ δ
def dep (k : Nat) : Nat := Nat.log2 k
def siz (k : Nat) : Nat := sz (dep k)
def beg (k : Nat) : Nat := (k - 2 ^ dep k) * siz k
def msk (k : Nat) : Int64 := lN ((2 ^ siz k - 1) * 2 ^ beg k)
def anc (c δ : Nat) : Nat := 2 ^ δ + c / sz δ
theorem sz_pos : ∀ δ, δ ≤ 6 → 1 ≤ sz δ ∧ sz δ ≤ 64 := by decide +kernel
theorem sz_shr : ∀ δ, δ ≤ 6 → (nI 64 >>> (nI δ &&& 31)) = nI (sz δ) := by decide +kernel
theorem sp_le : ∀ k, k < 128 → 1 ≤ k → dep k ≤ 6 ∧ beg k + siz k ≤ 64 ∧ 1 ≤ siz k ∧ beg k < 64 := by decide +kernel
theorem sp_half : ∀ k, k < 64 → 1 ≤ k → dep (2 * k) = dep k + 1 ∧ dep (2 * k + 1) = dep k + 1 ∧ beg (2 * k) = beg k ∧ beg (2 * k + 1) = beg k + sz (dep k + 1) ∧ siz k = sz (dep k + 1) + sz (dep k + 1) ∧ siz (2 * k) = sz (dep k + 1) ∧ siz (2 * k + 1) = sz (dep k + 1) ∧ dep k + 1 ≤ 6 := by decide +kernel
theorem sp_leaf : ∀ k, k < 128 → 64 ≤ k → dep k = 6 ∧ siz k = 1 := by decide +kernel
theorem sp_deep : ∀ k, k < 128 → 1 ≤ k → (6 ≤ dep k ↔ 64 ≤ k) := by decide +kernel
theorem sp_dep0 : ∀ k, k < 128 → 1 ≤ k → (dep k = 0 ↔ k = 1) := by decide +kernel
theorem anc_ok : ∀ δ, δ ≤ 6 → ∀ c, c < 64 → 1 ≤ anc c δ ∧ anc c δ < 128 ∧ dep (anc c δ) = δ ∧ beg (anc c δ) ≤ c ∧ c < beg (anc c δ) + siz (anc c δ) := by decide +kernel
theorem anc_first : ∀ δ, δ ≤ 6 → ∀ c, c < 64 → (nI c &&& (-(nI (sz δ)))) = nI (beg (anc c δ)) := by decide +kernel
theorem anc_beg : ∀ k, k < 128 → 1 ≤ k → ∀ δ, δ ≤ dep k → anc (beg k) δ = k / 2 ^ (dep k - δ) := by decide +kernel
theorem anc_of : ∀ k, k < 128 → 1 ≤ k → ∀ c, c < 64 → beg k ≤ c → c < beg k + siz k → anc c (dep k) = k := by decide +kernel
theorem anc_up : ∀ c, c < 64 → ∀ δ, δ < 6 → anc c (δ + 1) / 2 = anc c δ ∧ (anc c (δ + 1) = 2 * anc c δ ∨ anc c (δ + 1) = 2 * anc c δ + 1) := by decide +kernel
theorem msk_f : ∀ k, k < 128 → 1 ≤ k → ¬ k = 1 → ((lN 1 <<< ((nI (siz k)).toInt64 &&& 63)) - lN 1) <<< ((nI (beg k)).toInt64 &&& 63) = msk k := by decide +kernel
theorem msk_1 : -(lN 1) = msk 1 := by decide +kernel
/-- a bit of a set -/
def bt (N : Int64) (j : Nat) : Bool := N.toBitVec.getLsbD j
theorem msk_bt : ∀ k, k < 128 → 1 ≤ k → ∀ j, j < 64 → bt (msk k) j = (decide (beg k ≤ j) && decide (j < beg k + siz k)) := by decide +kernel
/-! the class's rows on spans -/
theorem sp_sizeOf (d : Nat) {h : ab_H} {δ : Nat} (hδ : δ ≤ 6) {post : ab_P} (hp : post (some (.int (nI (sz δ)))) h) : mCC (d + 1) kSpan_sizeOf [.int (nI δ)] h post := by
  refine ⟨rfl, ?_⟩
  show ab_W _ _ _ (0, [.int (nI δ)], [], (0, 0), h)
  refine ab_W.go (mm _) 3 (c' := (4, [.int (nI δ)], [.int ((nI 64) >>> ((nI δ) &&& 31))], (0, 0), h)) rfl ?_
  refine ab_W.topi (sz_shr δ hδ) ?_
  refine ab_W.retI (mm _) (rt := some .int) (v := nI (sz δ)) rfl rfl ?_
  exact hp
theorem nI_dep0 {k : Nat} (h1 : 1 ≤ k) (hk : k < 128) : nI (dep k) = 0 ↔ k = 1 := by
  rw [← nI_0, nI_eq (by have := (sp_le k hk h1).1; omega) (by omega), sp_dep0 k hk h1]
theorem sp_cellsOf (d : Nat) {h : ab_H} {k : Nat} (h1 : 1 ≤ k) (hk : k < 128) {post : ab_P} (hp : post (some (.long (msk k))) h) : mCC (d + 2) kSpan_cellsOf [.int (nI (beg k)), .int (nI (dep k))] h post := by
  refine ⟨rfl, ?_⟩
  show ab_W _ _ _ (0, [.int (nI (beg k)), .int (nI (dep k))], [], (0, 0), h)
  refine ab_W.go (mm _) 1 (c' := (1, [.int (nI (beg k)), .int (nI (dep k))], [.int (nI (dep k))], (0, 0), h)) rfl ?_
  refine ab_W.ite (mm _) (p := (nI (dep k)) = 0) (c1 := (4, [.int (nI (beg k)), .int (nI (dep k))], [], (0, 0), h)) (c2 := (10, [.int (nI (beg k)), .int (nI (dep k))], [], (0, 0), h)) rfl (fun q => ?_) (fun q => ?_)
  · skip
    have q1 := (nI_dep0 h1 hk).mp q
    refine ab_W.go (mm _) 2 (c' := (20, [.int (nI (beg k)), .int (nI (dep k))], [.long (-(lN 1))], (0, 0), h)) rfl ?_
    refine ab_W.ret (mm _) (v := (some (.long (-(lN 1))))) rfl ?_
    rw [msk_1, ← q1]
    exact hp
  · skip
    have q : ¬ k = 1 := fun z => q ((nI_dep0 h1 hk).mpr z)
    refine ab_W.go (mm _) 2 (c' := (12, [.int (nI (beg k)), .int (nI (dep k))], [.int (nI (dep k)), .long (lN 1)], (0, 0), h)) rfl ?_
    refine ab_W.call (mm _) (k := 22) (av := [.int (nI (dep k))]) (c' := (15, [.int (nI (beg k)), .int (nI (dep k))], [.long (lN 1)], (0, 0), h)) rfl ?_
    refine sp_sizeOf _ (sp_le k hk h1).1 ?_
    show ab_W _ _ _ (15, [.int (nI (beg k)), .int (nI (dep k))], [.int (nI (siz k)), .long (lN 1)], (0, 0), h)
    refine ab_W.go (mm _) 5 (c' := (20, [.int (nI (beg k)), .int (nI (dep k))], [.long ((((lN 1) <<< ((nI (siz k)).toInt64 &&& 63)) - (lN 1)) <<< ((nI (beg k)).toInt64 &&& 63))], (0, 0), h)) rfl ?_
    refine ab_W.topl (msk_f k hk h1 q) ?_
    refine ab_W.ret (mm _) (v := (some (.long (msk k)))) rfl ?_
    exact hp
theorem sp_upperFirst (d : Nat) {h : ab_H} {k : Nat} (h1 : 1 ≤ k) (hk : k < 64) {post : ab_P} (hp : post (some (.int (nI (beg (2 * k + 1))))) h) : mCC (d + 2) kSpan_upperFirst [.int (nI (beg k)), .int (nI (dep k))] h post := by
  obtain ⟨e1, e2, e3, e4, e5, e6, e7, e8⟩ := sp_half k hk h1
  refine ⟨rfl, ?_⟩
  show ab_W _ _ _ (0, [.int (nI (beg k)), .int (nI (dep k))], [], (0, 0), h)
  refine ab_W.go (mm _) 4 (c' := (4, [.int (nI (beg k)), .int (nI (dep k))], [.int ((nI (dep k)) + (nI 1)), .int (nI (beg k))], (0, 0), h)) rfl ?_
  refine ab_W.topi (nI_add (dep k) 1) ?_
  refine ab_W.call (mm _) (k := 22) (av := [.int (nI ((dep k) + 1))]) (c' := (7, [.int (nI (beg k)), .int (nI (dep k))], [.int (nI (beg k))], (0, 0), h)) rfl ?_
  refine sp_sizeOf _ e8 ?_
  show ab_W _ _ _ (7, [.int (nI (beg k)), .int (nI (dep k))], [.int (nI (sz (dep k + 1))), .int (nI (beg k))], (0, 0), h)
  refine ab_W.go (mm _) 1 (c' := (8, [.int (nI (beg k)), .int (nI (dep k))], [.int ((nI (beg k)) + (nI (sz (dep k + 1))))], (0, 0), h)) rfl ?_
  refine ab_W.topi (nI_add (beg k) (sz (dep k + 1))) ?_
  refine ab_W.retI (mm _) (rt := some .int) (v := nI ((beg k) + (sz (dep k + 1)))) rfl rfl ?_
  rw [← e4]
  exact hp
theorem sp_firstAround (d : Nat) {h : ab_H} {c δ : Nat} (hc : c < 64) (hδ : δ ≤ 6) {post : ab_P} (hp : post (some (.int (nI (beg (anc c δ))))) h) : mCC (d + 2) kSpan_firstAround [.int (nI c), .int (nI δ)] h post := by
  refine ⟨rfl, ?_⟩
  show ab_W _ _ _ (0, [.int (nI c), .int (nI δ)], [], (0, 0), h)
  refine ab_W.go (mm _) 2 (c' := (2, [.int (nI c), .int (nI δ)], [.int (nI δ), .int (nI c)], (0, 0), h)) rfl ?_
  refine ab_W.call (mm _) (k := 22) (av := [.int (nI δ)]) (c' := (5, [.int (nI c), .int (nI δ)], [.int (nI c)], (0, 0), h)) rfl ?_
  refine sp_sizeOf _ hδ ?_
  show ab_W _ _ _ (5, [.int (nI c), .int (nI δ)], [.int (nI (sz δ)), .int (nI c)], (0, 0), h)
  refine ab_W.go (mm _) 2 (c' := (7, [.int (nI c), .int (nI δ)], [.int ((nI c) &&& (-(nI (sz δ))))], (0, 0), h)) rfl ?_
  refine ab_W.topi (anc_first δ hδ c hc) ?_
  refine ab_W.retI (mm _) (rt := some .int) (v := nI (beg (anc c δ))) rfl rfl ?_
  exact hp
/-- a span lies in a name; it has some of it -/
def lies (N : Int64) (k : Nat) : Prop := (msk k &&& (N ^^^ (-(lN 1)))) = lN 0
def hits (N : Int64) (k : Nat) : Prop := ¬ (msk k &&& N) = lN 0
theorem lg_cmp0 (x y : Int64) : lg_cmp x y = 0 ↔ x = y := by
  unfold lg_cmp
  by_cases h1 : x > y
  · rw [if_pos h1]
    constructor
    · intro h; cases h
    · intro h; subst h; exact absurd h1 (by simp)
  · rw [if_neg h1]
    by_cases h2 : x = y
    · rw [if_pos h2]; exact ⟨fun _ => h2, fun _ => rfl⟩
    · rw [if_neg h2]
      constructor
      · intro h; cases h
      · intro h; exact absurd h h2
theorem sp_liesIn (d : Nat) {h : ab_H} {N : Int64} {k : Nat} (h1 : 1 ≤ k) (hk : k < 128) {post : ab_P} (hp : ∀ v : Int32, (lies N k ∧ v = nI 1) ∨ (¬ lies N k ∧ v = nI 0) → post (some (.int v)) h) : mCC (d + 3) kSpan_liesIn [.long N, .int (nI (beg k)), .int (nI (dep k))] h post := by
  refine ⟨rfl, ?_⟩
  show ab_W _ _ _ (0, [.long N, .retAddr 0, .int (nI (beg k)), .int (nI (dep k))], [], (0, 0), h)
  refine ab_W.go (mm _) 2 (c' := (2, [.long N, .retAddr 0, .int (nI (beg k)), .int (nI (dep k))], [.int (nI (dep k)), .int (nI (beg k))], (0, 0), h)) rfl ?_
  refine ab_W.call (mm _) (k := 23) (av := [.int (nI (beg k)), .int (nI (dep k))]) (c' := (5, [.long N, .retAddr 0, .int (nI (beg k)), .int (nI (dep k))], [], (0, 0), h)) rfl ?_
  refine sp_cellsOf _ h1 hk ?_
  show ab_W _ _ _ (5, [.long N, .retAddr 0, .int (nI (beg k)), .int (nI (dep k))], [.long (msk k)], (0, 0), h)
  refine ab_W.go (mm _) 6 (c' := (13, [.long N, .retAddr 0, .int (nI (beg k)), .int (nI (dep k))], [.int (lg_cmp ((msk k) &&& (N ^^^ (-(lN 1)))) (lN 0))], (0, 0), h)) rfl ?_
  refine ab_W.ite (mm _) (p := (lg_cmp ((msk k) &&& (N ^^^ (-(lN 1)))) (lN 0)) = 0) (c1 := (16, [.long N, .retAddr 0, .int (nI (beg k)), .int (nI (dep k))], [], (0, 0), h)) (c2 := (20, [.long N, .retAddr 0, .int (nI (beg k)), .int (nI (dep k))], [], (0, 0), h)) rfl (fun q => ?_) (fun q => ?_)
  · skip
    have q := (lg_cmp0 _ _).mp q
    refine ab_W.go (mm _) 2 (c' := (21, [.long N, .retAddr 0, .int (nI (beg k)), .int (nI (dep k))], [.int (nI 1)], (0, 0), h)) rfl ?_
    refine ab_W.retI (mm _) (rt := some .boolean) (v := nI 1) rfl rfl ?_
    exact hp _ (Or.inl ⟨q, rfl⟩)
  · skip
    have q : ¬ lies N k := fun z => q ((lg_cmp0 _ _).mpr z)
    refine ab_W.go (mm _) 1 (c' := (21, [.long N, .retAddr 0, .int (nI (beg k)), .int (nI (dep k))], [.int (nI 0)], (0, 0), h)) rfl ?_
    refine ab_W.retI (mm _) (rt := some .boolean) (v := nI 0) rfl rfl ?_
    exact hp _ (Or.inr ⟨q, rfl⟩)
end
section
/-! the reference's rows on spans and sets -/
theorem down {Q : Nat → Prop} (e : Nat) (he : Q e) (hs : ∀ c, c < e → Q (c + 1) → Q c) : ∀ c, c ≤ e → Q c := by
  have key : ∀ n, n ≤ e → Q (e - n) := by
    intro n
    induction n with
    | zero => intro _; exact he
    | succ n ih =>
      intro hn
      have h1 := ih (by omega)
      refine hs (e - (n + 1)) (by omega) ?_
      rw [show e - (n + 1) + 1 = e - n by omega]
      exact h1
  intro c hc
  have := key (e - c) (by omega)
  rw [show e - (e - c) = c by omega] at this
  exact this
theorem dep_shr : ∀ k, k < 128 → 1 ≤ k → ∀ j, j ≤ 6 → ((nI k >>> (nI j &&& 31)) ≤ nI 1 ↔ dep k ≤ j) := by decide +kernel
theorem mdepthOf (d : Nat) {h : ab_H} {k : Nat} (h1 : 1 ≤ k) (hk : k < 128) {post : ab_P} (hp : post (some (.int (nI (dep k)))) h) : mCC (d + 1) kSpanStampsModel_depthOf [.int (nI k)] h post := by
  have h6 := (sp_le k hk h1).1
  have loop : ∀ j, j ≤ dep k → ab_W (ab_st (mT kSpanStampsModel_depthOf) mB mF (mR kSpanStampsModel_depthOf) none) (mCC d) post (2, [.int (nI k), .int (nI j)], [], (0, 0), h) := by
    refine down (dep k) ?_ ?_
    · skip
      refine ab_W.go (mm _) 4 (c' := (6, [.int (nI k), .int (nI (dep k))], [.int (nI 1), .int ((nI k) >>> ((nI (dep k)) &&& 31))], (0, 0), h)) rfl ?_
      refine ab_W.itT (mm _) (p := ((nI k) >>> ((nI (dep k)) &&& 31)) ≤ (nI 1)) (c1 := (15, [.int (nI k), .int (nI (dep k))], [], (0, 0), h)) (c2 := (9, [.int (nI k), .int (nI (dep k))], [], (0, 0), h)) rfl ((dep_shr k hk h1 _ h6).mpr (Nat.le_refl _)) ?_
      refine ab_W.go (mm _) 1 (c' := (16, [.int (nI k), .int (nI (dep k))], [.int (nI (dep k))], (0, 0), h)) rfl ?_
      refine ab_W.retI (mm _) (rt := some .int) (v := nI (dep k)) rfl rfl ?_
      exact hp
    · intro j hj ih
      refine ab_W.go (mm _) 4 (c' := (6, [.int (nI k), .int (nI j)], [.int (nI 1), .int ((nI k) >>> ((nI j) &&& 31))], (0, 0), h)) rfl ?_
      refine ab_W.itF (mm _) (p := ((nI k) >>> ((nI j) &&& 31)) ≤ (nI 1)) (c1 := (15, [.int (nI k), .int (nI j)], [], (0, 0), h)) (c2 := (9, [.int (nI k), .int (nI j)], [], (0, 0), h)) rfl (fun z => absurd ((dep_shr k hk h1 j (by omega)).mp z) (by omega)) ?_
      refine ab_W.go (mm _) 1 (c' := (12, [.int (nI k), .int (nI j + nI 1)], [], (0, 0), h)) rfl ?_
      rw [nI_add j 1]
      refine ab_W.go (mm _) 1 (c' := (2, [.int (nI k), .int (nI (j + 1))], [], (0, 0), h)) rfl ?_
      exact ih
  refine ⟨rfl, ?_⟩
  show ab_W _ _ _ (0, [.int (nI k), .retAddr 0], [], (0, 0), h)
  refine ab_W.go (mm _) 2 (c' := (2, [.int (nI k), .int (nI 0)], [], (0, 0), h)) rfl ?_
  exact loop 0 (Nat.zero_le _)
theorem msizeOf (d : Nat) {h : ab_H} {k : Nat} (h1 : 1 ≤ k) (hk : k < 128) {post : ab_P} (hp : post (some (.int (nI (siz k)))) h) : mCC (d + 2) kSpanStampsModel_sizeOf [.int (nI k)] h post := by
  refine ⟨rfl, ?_⟩
  show ab_W _ _ _ (0, [.int (nI k)], [], (0, 0), h)
  refine ab_W.go (mm _) 2 (c' := (3, [.int (nI k)], [.int (nI k), .int (nI 64)], (0, 0), h)) rfl ?_
  refine ab_W.call (mm _) (k := 70) (av := [.int (nI k)]) (c' := (6, [.int (nI k)], [.int (nI 64)], (0, 0), h)) rfl ?_
  refine mdepthOf _ h1 hk ?_
  show ab_W _ _ _ (6, [.int (nI k)], [.int (nI (dep k)), .int (nI 64)], (0, 0), h)
  refine ab_W.go (mm _) 1 (c' := (7, [.int (nI k)], [.int ((nI 64) >>> ((nI (dep k)) &&& 31))], (0, 0), h)) rfl ?_
  refine ab_W.topi (sz_shr _ (sp_le k hk h1).1) ?_
  refine ab_W.retI (mm _) (rt := some .int) (v := nI (siz k)) rfl rfl ?_
  exact hp
theorem beg_sub : ∀ k, k < 128 → 1 ≤ k → (nI k - (nI 1 <<< (nI (dep k) &&& 31))) * nI (siz k) = nI (beg k) := by decide +kernel
theorem mbeginOf (d : Nat) {h : ab_H} {k : Nat} (h1 : 1 ≤ k) (hk : k < 128) {post : ab_P} (hp : post (some (.int (nI (beg k)))) h) : mCC (d + 3) kSpanStampsModel_beginOf [.int (nI k)] h post := by
  refine ⟨rfl, ?_⟩
  show ab_W _ _ _ (0, [.int (nI k)], [], (0, 0), h)
  refine ab_W.go (mm _) 3 (c' := (3, [.int (nI k)], [.int (nI k), .int (nI 1), .int (nI k)], (0, 0), h)) rfl ?_
  refine ab_W.call (mm _) (k := 70) (av := [.int (nI k)]) (c' := (6, [.int (nI k)], [.int (nI 1), .int (nI k)], (0, 0), h)) rfl ?_
  refine mdepthOf _ h1 hk ?_
  show ab_W _ _ _ (6, [.int (nI k)], [.int (nI (dep k)), .int (nI 1), .int (nI k)], (0, 0), h)
  refine ab_W.go (mm _) 3 (c' := (9, [.int (nI k)], [.int (nI k), .int ((nI k) - ((nI 1) <<< ((nI (dep k)) &&& 31)))], (0, 0), h)) rfl ?_
  refine ab_W.call (mm _) (k := 71) (av := [.int (nI k)]) (c' := (12, [.int (nI k)], [.int ((nI k) - ((nI 1) <<< ((nI (dep k)) &&& 31)))], (0, 0), h)) rfl ?_
  refine msizeOf _ h1 hk ?_
  show ab_W _ _ _ (12, [.int (nI k)], [.int (nI (siz k)), .int ((nI k) - ((nI 1) <<< ((nI (dep k)) &&& 31)))], (0, 0), h)
  refine ab_W.go (mm _) 1 (c' := (13, [.int (nI k)], [.int (((nI k) - ((nI 1) <<< ((nI (dep k)) &&& 31))) * (nI (siz k)))], (0, 0), h)) rfl ?_
  refine ab_W.topi (beg_sub k hk h1) ?_
  refine ab_W.retI (mm _) (rt := some .int) (v := nI (beg k)) rfl rfl ?_
  exact hp
def orB (b : Nat) : Nat → Int64
  | 0 => lN 0
  | i + 1 => orB b i ||| (lN 1 <<< ((nI (b + i)).toInt64 &&& 63))
theorem orB_msk : ∀ k, k < 128 → 1 ≤ k → orB (beg k) (siz k) = msk k := by decide +kernel
theorem mcellsOf (d : Nat) {h : ab_H} {k : Nat} (h1 : 1 ≤ k) (hk : k < 128) {post : ab_P} (hp : post (some (.long (msk k))) h) : mCC (d + 4) kSpanStampsModel_cellsOf [.int (nI k)] h post := by
  obtain ⟨s1, s2, s3, s4⟩ := sp_le k hk h1
  have loop : ∀ i, i ≤ siz k → ab_W (ab_st (mT kSpanStampsModel_cellsOf) mB mF (mR kSpanStampsModel_cellsOf) none) (mCC (d + 3)) post (4, [.int (nI k), .long (orB (beg k) i), .retAddr 0, .int (nI i)], [], (0, 0), h) := by
    refine down (siz k) ?_ ?_
    · skip
      refine ab_W.go (mm _) 2 (c' := (6, [.int (nI k), .long (orB (beg k) (siz k)), .retAddr 0, .int (nI (siz k))], [.int (nI k), .int (nI (siz k))], (0, 0), h)) rfl ?_
      refine ab_W.call (mm _) (k := 71) (av := [.int (nI k)]) (c' := (9, [.int (nI k), .long (orB (beg k) (siz k)), .retAddr 0, .int (nI (siz k))], [.int (nI (siz k))], (0, 0), h)) rfl ?_
      refine msizeOf _ h1 hk ?_
      show ab_W _ _ _ (9, [.int (nI k), .long (orB (beg k) (siz k)), .retAddr 0, .int (nI (siz k))], [.int (nI (siz k)), .int (nI (siz k))], (0, 0), h)
      refine ab_W.itT (mm _) (p := (nI (siz k)) ≤ (nI (siz k))) (c1 := (29, [.int (nI k), .long (orB (beg k) (siz k)), .retAddr 0, .int (nI (siz k))], [], (0, 0), h)) (c2 := (12, [.int (nI k), .long (orB (beg k) (siz k)), .retAddr 0, .int (nI (siz k))], [], (0, 0), h)) rfl ((nI_leI (by omega) (by omega)).mpr (Nat.le_refl _)) ?_
      refine ab_W.go (mm _) 1 (c' := (30, [.int (nI k), .long (orB (beg k) (siz k)), .retAddr 0, .int (nI (siz k))], [.long (orB (beg k) (siz k))], (0, 0), h)) rfl ?_
      refine ab_W.ret (mm _) (v := (some (.long (orB (beg k) (siz k))))) rfl ?_
      rw [orB_msk k hk h1]
      exact hp
    · intro i hi ih
      refine ab_W.go (mm _) 2 (c' := (6, [.int (nI k), .long (orB (beg k) i), .retAddr 0, .int (nI i)], [.int (nI k), .int (nI i)], (0, 0), h)) rfl ?_
      refine ab_W.call (mm _) (k := 71) (av := [.int (nI k)]) (c' := (9, [.int (nI k), .long (orB (beg k) i), .retAddr 0, .int (nI i)], [.int (nI i)], (0, 0), h)) rfl ?_
      refine msizeOf _ h1 hk ?_
      show ab_W _ _ _ (9, [.int (nI k), .long (orB (beg k) i), .retAddr 0, .int (nI i)], [.int (nI (siz k)), .int (nI i)], (0, 0), h)
      refine ab_W.itF (mm _) (p := (nI (siz k)) ≤ (nI i)) (c1 := (29, [.int (nI k), .long (orB (beg k) i), .retAddr 0, .int (nI i)], [], (0, 0), h)) (c2 := (12, [.int (nI k), .long (orB (beg k) i), .retAddr 0, .int (nI i)], [], (0, 0), h)) rfl (fun z => absurd ((nI_leI (by omega) (by omega)).mp z) (by omega)) ?_
      refine ab_W.go (mm _) 3 (c' := (15, [.int (nI k), .long (orB (beg k) i), .retAddr 0, .int (nI i)], [.int (nI k), .long (lN 1), .long (orB (beg k) i)], (0, 0), h)) rfl ?_
      refine ab_W.call (mm _) (k := 72) (av := [.int (nI k)]) (c' := (18, [.int (nI k), .long (orB (beg k) i), .retAddr 0, .int (nI i)], [.long (lN 1), .long (orB (beg k) i)], (0, 0), h)) rfl ?_
      refine mbeginOf _ h1 hk ?_
      show ab_W _ _ _ (18, [.int (nI k), .long (orB (beg k) i), .retAddr 0, .int (nI i)], [.int (nI (beg k)), .long (lN 1), .long (orB (beg k) i)], (0, 0), h)
      refine ab_W.go (mm _) 2 (c' := (20, [.int (nI k), .long (orB (beg k) i), .retAddr 0, .int (nI i)], [.int ((nI (beg k)) + (nI i)), .long (lN 1), .long (orB (beg k) i)], (0, 0), h)) rfl ?_
      refine ab_W.topi (nI_add (beg k) i) ?_
      refine ab_W.go (mm _) 4 (c' := (26, [.int (nI k), .long ((orB (beg k) i) ||| ((lN 1) <<< ((nI ((beg k) + i)).toInt64 &&& 63))), .retAddr 0, .int (nI i + nI 1)], [], (0, 0), h)) rfl ?_
      rw [nI_add i 1]
      refine ab_W.go (mm _) 1 (c' := (4, [.int (nI k), .long ((orB (beg k) i) ||| ((lN 1) <<< ((nI ((beg k) + i)).toInt64 &&& 63))), .retAddr 0, .int (nI (i + 1))], [], (0, 0), h)) rfl ?_
      exact ih
  refine ⟨rfl, ?_⟩
  show ab_W _ _ _ (0, [.int (nI k), .retAddr 0, .retAddr 0, .retAddr 0], [], (0, 0), h)
  refine ab_W.go (mm _) 4 (c' := (4, [.int (nI k), .long (lN 0), .retAddr 0, .int (nI 0)], [], (0, 0), h)) rfl ?_
  exact loop 0 (Nat.zero_le _)
theorem mliesIn (d : Nat) {h : ab_H} {N : Int64} {k : Nat} (h1 : 1 ≤ k) (hk : k < 128) {post : ab_P} (hp : ∀ v : Int32, (lies N k ∧ v = nI 1) ∨ (¬ lies N k ∧ v = nI 0) → post (some (.int v)) h) : mCC (d + 5) kSpanStampsModel_liesIn [.int (nI k), .long N] h post := by
  refine ⟨rfl, ?_⟩
  show ab_W _ _ _ (0, [.int (nI k), .long N, .retAddr 0], [], (0, 0), h)
  refine ab_W.go (mm _) 1 (c' := (1, [.int (nI k), .long N, .retAddr 0], [.int (nI k)], (0, 0), h)) rfl ?_
  refine ab_W.call (mm _) (k := 73) (av := [.int (nI k)]) (c' := (4, [.int (nI k), .long N, .retAddr 0], [], (0, 0), h)) rfl ?_
  refine mcellsOf _ h1 hk ?_
  show ab_W _ _ _ (4, [.int (nI k), .long N, .retAddr 0], [.long (msk k)], (0, 0), h)
  refine ab_W.go (mm _) 6 (c' := (12, [.int (nI k), .long N, .retAddr 0], [.int (lg_cmp ((msk k) &&& (N ^^^ (-(lN 1)))) (lN 0))], (0, 0), h)) rfl ?_
  refine ab_W.ite (mm _) (p := (lg_cmp ((msk k) &&& (N ^^^ (-(lN 1)))) (lN 0)) = 0) (c1 := (15, [.int (nI k), .long N, .retAddr 0], [], (0, 0), h)) (c2 := (19, [.int (nI k), .long N, .retAddr 0], [], (0, 0), h)) rfl (fun q => ?_) (fun q => ?_)
  · skip
    have q := (lg_cmp0 _ _).mp q
    refine ab_W.go (mm _) 2 (c' := (20, [.int (nI k), .long N, .retAddr 0], [.int (nI 1)], (0, 0), h)) rfl ?_
    refine ab_W.retI (mm _) (rt := some .boolean) (v := nI 1) rfl rfl ?_
    exact hp _ (Or.inl ⟨q, rfl⟩)
  · skip
    have q : ¬ lies N k := fun z => q ((lg_cmp0 _ _).mpr z)
    refine ab_W.go (mm _) 1 (c' := (20, [.int (nI k), .long N, .retAddr 0], [.int (nI 0)], (0, 0), h)) rfl ?_
    refine ab_W.retI (mm _) (rt := some .boolean) (v := nI 0) rfl rfl ?_
    exact hp _ (Or.inr ⟨q, rfl⟩)
/-- a name within a span; the least one, as the reference seeks it -/
def inS (N : Int64) (k : Nat) : Prop := (N &&& (msk k ^^^ (-(lN 1)))) = lN 0
def lsp (N : Int64) : Nat → Nat
  | 0 => 1
  | m + 1 => if 1 ≤ m ∧ (N &&& (msk m ^^^ (-(lN 1)))) = lN 0 then m else lsp N m
theorem lsp_1 (N : Int64) : lsp N 1 = 1 := by
  unfold lsp
  rw [if_neg (fun h => absurd h.1 (by decide))]
  rfl
theorem mleastSpan (d : Nat) {h : ab_H} {N : Int64} {post : ab_P} (hp : post (some (.int (nI (lsp N 128)))) h) : mCC (d + 5) kSpanStampsModel_leastSpan [.long N] h post := by
  have loop : ∀ m, m ≤ 128 → 1 ≤ m → ab_W (ab_st (mT kSpanStampsModel_leastSpan) mB mF (mR kSpanStampsModel_leastSpan) none) (mCC (d + 4)) post (4, [.long N, .retAddr 0, .int (nI (lsp N m)), .int (nI m)], [], (0, 0), h) := by
    refine down 128 ?_ ?_
    · intro _
      refine ab_W.go (mm _) 2 (c' := (8, [.long N, .retAddr 0, .int (nI (lsp N 128)), .int (nI 128)], [.int (nI 128), .int (nI 128)], (0, 0), h)) rfl ?_
      refine ab_W.itT (mm _) (p := (nI 128) ≤ (nI 128)) (c1 := (38, [.long N, .retAddr 0, .int (nI (lsp N 128)), .int (nI 128)], [], (0, 0), h)) (c2 := (11, [.long N, .retAddr 0, .int (nI (lsp N 128)), .int (nI 128)], [], (0, 0), h)) rfl ((by decide)) ?_
      refine ab_W.go (mm _) 1 (c' := (39, [.long N, .retAddr 0, .int (nI (lsp N 128)), .int (nI 128)], [.int (nI (lsp N 128))], (0, 0), h)) rfl ?_
      refine ab_W.retI (mm _) (rt := some .int) (v := nI (lsp N 128)) rfl rfl ?_
      exact hp
    · intro m hm ih h1
      refine ab_W.go (mm _) 2 (c' := (8, [.long N, .retAddr 0, .int (nI (lsp N m)), .int (nI m)], [.int (nI 128), .int (nI m)], (0, 0), h)) rfl ?_
      refine ab_W.itF (mm _) (p := (nI 128) ≤ (nI m)) (c1 := (38, [.long N, .retAddr 0, .int (nI (lsp N m)), .int (nI m)], [], (0, 0), h)) (c2 := (11, [.long N, .retAddr 0, .int (nI (lsp N m)), .int (nI m)], [], (0, 0), h)) rfl (fun z => absurd ((nI_leI (by omega) (by omega)).mp z) (by omega)) ?_
      refine ab_W.go (mm _) 2 (c' := (13, [.long N, .retAddr 0, .int (nI (lsp N m)), .int (nI m)], [.int (nI m), .long N], (0, 0), h)) rfl ?_
      refine ab_W.call (mm _) (k := 73) (av := [.int (nI m)]) (c' := (16, [.long N, .retAddr 0, .int (nI (lsp N m)), .int (nI m)], [.long N], (0, 0), h)) rfl ?_
      refine mcellsOf _ h1 hm ?_
      show ab_W _ _ _ (16, [.long N, .retAddr 0, .int (nI (lsp N m)), .int (nI m)], [.long (msk m), .long N], (0, 0), h)
      refine ab_W.go (mm _) 5 (c' := (23, [.long N, .retAddr 0, .int (nI (lsp N m)), .int (nI m)], [.int (lg_cmp (N &&& ((msk m) ^^^ (-(lN 1)))) (lN 0))], (0, 0), h)) rfl ?_
      have ih := ih (by omega)
      refine ab_W.ite (mm _) (p := (lg_cmp (N &&& ((msk m) ^^^ (-(lN 1)))) (lN 0)) = 0) (c1 := (26, [.long N, .retAddr 0, .int (nI (lsp N m)), .int (nI m)], [], (0, 0), h)) (c2 := (30, [.long N, .retAddr 0, .int (nI (lsp N m)), .int (nI m)], [], (0, 0), h)) rfl (fun q => ?_) (fun q => ?_)
      · skip
        have q := (lg_cmp0 _ _).mp q
        rw [show lsp N (m + 1) = m from if_pos ⟨h1, q⟩] at ih
        refine ab_W.go (mm _) 4 (c' := (35, [.long N, .retAddr 0, .int (nI m), .int (nI m + nI 1)], [], (0, 0), h)) rfl ?_
        rw [nI_add m 1]
        refine ab_W.go (mm _) 1 (c' := (4, [.long N, .retAddr 0, .int (nI m), .int (nI (m + 1))], [], (0, 0), h)) rfl ?_
        exact ih
      · skip
        have q : ¬ inS N m := fun z => q ((lg_cmp0 _ _).mpr z)
        rw [show lsp N (m + 1) = lsp N m from if_neg (fun z => q z.2)] at ih
        refine ab_W.go (mm _) 3 (c' := (35, [.long N, .retAddr 0, .int (nI (lsp N m)), .int (nI m + nI 1)], [], (0, 0), h)) rfl ?_
        rw [nI_add m 1]
        refine ab_W.go (mm _) 1 (c' := (4, [.long N, .retAddr 0, .int (nI (lsp N m)), .int (nI (m + 1))], [], (0, 0), h)) rfl ?_
        exact ih
  refine ⟨rfl, ?_⟩
  show ab_W _ _ _ (0, [.long N, .retAddr 0, .retAddr 0, .retAddr 0], [], (0, 0), h)
  refine ab_W.go (mm _) 4 (c' := (4, [.long N, .retAddr 0, .int (nI 1), .int (nI 1)], [], (0, 0), h)) rfl ?_
  have := loop 1 (by omega) (by omega)
  rw [lsp_1] at this
  exact this
/-! in, has, bits -/
theorem min_ (d : Nat) {h : ab_H} {x lo hi : Int32} {post : ab_P} (hp : ∀ v : Int32, ((lo ≤ x ∧ x ≤ hi) ∧ v = nI 1) ∨ (¬ (lo ≤ x ∧ x ≤ hi) ∧ v = nI 0) → post (some (.int v)) h) : mCC (d + 1) kSpanStampsModel_in [.int x, .int lo, .int hi] h post := by
  refine ⟨rfl, ?_⟩
  show ab_W _ _ _ (0, [.int x, .int lo, .int hi], [], (0, 0), h)
  refine ab_W.go (mm _) 2 (c' := (2, [.int x, .int lo, .int hi], [.int lo, .int x], (0, 0), h)) rfl ?_
  refine ab_W.ite (mm _) (p := x < lo) (c1 := (14, [.int x, .int lo, .int hi], [], (0, 0), h)) (c2 := (5, [.int x, .int lo, .int hi], [], (0, 0), h)) rfl (fun q => ?_) (fun q => ?_)
  · skip
    refine ab_W.go (mm _) 1 (c' := (15, [.int x, .int lo, .int hi], [.int (nI 0)], (0, 0), h)) rfl ?_
    refine ab_W.retI (mm _) (rt := some .boolean) (v := nI 0) rfl rfl ?_
    exact hp _ (Or.inr ⟨fun z => absurd q (Int32.not_lt.mpr z.1), rfl⟩)
  · skip
    refine ab_W.go (mm _) 2 (c' := (7, [.int x, .int lo, .int hi], [.int hi, .int x], (0, 0), h)) rfl ?_
    refine ab_W.ite (mm _) (p := hi < x) (c1 := (14, [.int x, .int lo, .int hi], [], (0, 0), h)) (c2 := (10, [.int x, .int lo, .int hi], [], (0, 0), h)) rfl (fun q2 => ?_) (fun q2 => ?_)
    · skip
      refine ab_W.go (mm _) 1 (c' := (15, [.int x, .int lo, .int hi], [.int (nI 0)], (0, 0), h)) rfl ?_
      refine ab_W.retI (mm _) (rt := some .boolean) (v := nI 0) rfl rfl ?_
      exact hp _ (Or.inr ⟨fun z => absurd q2 (Int32.not_lt.mpr z.2), rfl⟩)
    · skip
      refine ab_W.go (mm _) 2 (c' := (15, [.int x, .int lo, .int hi], [.int (nI 1)], (0, 0), h)) rfl ?_
      refine ab_W.retI (mm _) (rt := some .boolean) (v := nI 1) rfl rfl ?_
      exact hp _ (Or.inl ⟨⟨Int32.not_lt.mp q, Int32.not_lt.mp q2⟩, rfl⟩)
theorem sh_amt : ∀ i, i < 64 → ((nI i).toInt64 &&& 63).toBitVec.smod 64 = BitVec.ofNat 64 i := by decide +kernel
theorem has_bt (N : Int64) {i : Nat} (hi : i < 64) : ((N >>> ((nI i).toInt64 &&& 63)) &&& lN 1) = lN 1 ↔ bt N i = true := by
  rw [← Int64.toBitVec_inj, Int64.toBitVec_and, Int64.toBitVec_shiftRight, sh_amt i hi]
  have e1 : (lN 1).toBitVec = 1#64 := by decide
  rw [e1, BitVec.and_one_eq_setWidth_ofBool_getLsbD]
  have e2 : (N.toBitVec.sshiftRight' (BitVec.ofNat 64 i)).getLsbD 0 = bt N i := by
    rw [BitVec.sshiftRight', BitVec.getLsbD_sshiftRight]
    have e3 : (BitVec.ofNat 64 i).toNat = i := by rw [BitVec.toNat_ofNat]; exact Nat.mod_eq_of_lt (by omega)
    rw [e3]
    simp [hi, bt]
  rw [e2]
  cases bt N i <;> decide
theorem mhas (d : Nat) {h : ab_H} {N : Int64} {i : Nat} (hi : i < 64) {post : ab_P} (hp : ∀ v : Int32, (bt N i = true ∧ v = nI 1) ∨ (bt N i = false ∧ v = nI 0) → post (some (.int v)) h) : mCC (d + 1) kSpanStampsModel_has [.long N, .int (nI i)] h post := by
  refine ⟨rfl, ?_⟩
  show ab_W _ _ _ (0, [.long N, .retAddr 0, .int (nI i)], [], (0, 0), h)
  refine ab_W.go (mm _) 7 (c' := (7, [.long N, .retAddr 0, .int (nI i)], [.int (lg_cmp ((N >>> ((nI i).toInt64 &&& 63)) &&& (lN 1)) (lN 1))], (0, 0), h)) rfl ?_
  refine ab_W.ite (mm _) (p := (lg_cmp ((N >>> ((nI i).toInt64 &&& 63)) &&& (lN 1)) (lN 1)) = 0) (c1 := (10, [.long N, .retAddr 0, .int (nI i)], [], (0, 0), h)) (c2 := (14, [.long N, .retAddr 0, .int (nI i)], [], (0, 0), h)) rfl (fun q => ?_) (fun q => ?_)
  · skip
    have q := (has_bt N hi).mp ((lg_cmp0 _ _).mp q)
    refine ab_W.go (mm _) 2 (c' := (15, [.long N, .retAddr 0, .int (nI i)], [.int (nI 1)], (0, 0), h)) rfl ?_
    refine ab_W.retI (mm _) (rt := some .boolean) (v := nI 1) rfl rfl ?_
    exact hp _ (Or.inl ⟨q, rfl⟩)
  · skip
    have q : ¬ bt N i = true := fun z => q ((lg_cmp0 _ _).mpr ((has_bt N hi).mpr z))
    refine ab_W.go (mm _) 1 (c' := (15, [.long N, .retAddr 0, .int (nI i)], [.int (nI 0)], (0, 0), h)) rfl ?_
    refine ab_W.retI (mm _) (rt := some .boolean) (v := nI 0) rfl rfl ?_
    exact hp _ (Or.inr ⟨by simpa using q, rfl⟩)
def cnt (N : Int64) : Nat → Nat
  | 0 => 0
  | i + 1 => cnt N i + (if bt N i = true then 1 else 0)
theorem cnt_le (N : Int64) : ∀ i, cnt N i ≤ i := by
  intro i
  induction i with
  | zero => exact Nat.le_refl _
  | succ i ih =>
    unfold cnt
    split <;> omega
theorem cnt_t {N : Int64} {i : Nat} (h : bt N i = true) : cnt N (i + 1) = cnt N i + 1 := by
  show cnt N i + _ = _
  rw [if_pos h]
theorem cnt_f {N : Int64} {i : Nat} (h : bt N i = false) : cnt N (i + 1) = cnt N i := by
  show cnt N i + _ = _
  rw [if_neg (by rw [h]; decide)]
  rfl
theorem nI_ne01 : ¬ nI 1 = 0 := by decide
theorem mbits (d : Nat) {h : ab_H} {N : Int64} {post : ab_P} (hp : post (some (.int (nI (cnt N 64)))) h) : mCC (d + 2) kSpanStampsModel_bits [.long N] h post := by
  have loop : ∀ i, i ≤ 64 → ab_W (ab_st (mT kSpanStampsModel_bits) mB mF (mR kSpanStampsModel_bits) none) (mCC (d + 1)) post (4, [.long N, .retAddr 0, .int (nI (cnt N i)), .int (nI i)], [], (0, 0), h) := by
    refine down 64 ?_ ?_
    · skip
      refine ab_W.go (mm _) 2 (c' := (7, [.long N, .retAddr 0, .int (nI (cnt N 64)), .int (nI 64)], [.int (nI 64), .int (nI 64)], (0, 0), h)) rfl ?_
      refine ab_W.itT (mm _) (p := (nI 64) ≤ (nI 64)) (c1 := (32, [.long N, .retAddr 0, .int (nI (cnt N 64)), .int (nI 64)], [], (0, 0), h)) (c2 := (10, [.long N, .retAddr 0, .int (nI (cnt N 64)), .int (nI 64)], [], (0, 0), h)) rfl ((by decide)) ?_
      refine ab_W.go (mm _) 1 (c' := (33, [.long N, .retAddr 0, .int (nI (cnt N 64)), .int (nI 64)], [.int (nI (cnt N 64))], (0, 0), h)) rfl ?_
      refine ab_W.retI (mm _) (rt := some .int) (v := nI (cnt N 64)) rfl rfl ?_
      exact hp
    · intro i hi ih
      refine ab_W.go (mm _) 2 (c' := (7, [.long N, .retAddr 0, .int (nI (cnt N i)), .int (nI i)], [.int (nI 64), .int (nI i)], (0, 0), h)) rfl ?_
      refine ab_W.itF (mm _) (p := (nI 64) ≤ (nI i)) (c1 := (32, [.long N, .retAddr 0, .int (nI (cnt N i)), .int (nI i)], [], (0, 0), h)) (c2 := (10, [.long N, .retAddr 0, .int (nI (cnt N i)), .int (nI i)], [], (0, 0), h)) rfl (fun z => absurd ((nI_leI (by omega) (by omega)).mp z) (by omega)) ?_
      refine ab_W.go (mm _) 3 (c' := (13, [.long N, .retAddr 0, .int (nI (cnt N i)), .int (nI i)], [.int (nI i), .long N, .int (nI (cnt N i))], (0, 0), h)) rfl ?_
      refine ab_W.call (mm _) (k := 66) (av := [.long N, .int (nI i)]) (c' := (16, [.long N, .retAddr 0, .int (nI (cnt N i)), .int (nI i)], [.int (nI (cnt N i))], (0, 0), h)) rfl ?_
      refine mhas _ hi (fun v hv => ?_)
      rcases hv with ⟨hb, rfl⟩ | ⟨hb, rfl⟩
      · rw [cnt_t hb] at ih
        show ab_W _ _ _ (16, [.long N, .retAddr 0, .int (nI (cnt N i)), .int (nI i)], [.int (nI 1), .int (nI (cnt N i))], (0, 0), h)
        refine ab_W.itF (mm _) (p := (nI 1) = 0) (c1 := (23, [.long N, .retAddr 0, .int (nI (cnt N i)), .int (nI i)], [.int (nI (cnt N i))], (0, 0), h)) (c2 := (19, [.long N, .retAddr 0, .int (nI (cnt N i)), .int (nI i)], [.int (nI (cnt N i))], (0, 0), h)) rfl (nI_ne01) ?_
        refine ab_W.go (mm _) 3 (c' := (25, [.long N, .retAddr 0, .int (nI (cnt N i)), .int (nI i)], [.int ((nI (cnt N i)) + (nI 1))], (0, 0), h)) rfl ?_
        refine ab_W.topi (nI_add (cnt N i) 1) ?_
        refine ab_W.go (mm _) 2 (c' := (29, [.long N, .retAddr 0, .int (nI ((cnt N i) + 1)), .int (nI i + nI 1)], [], (0, 0), h)) rfl ?_
        rw [nI_add i 1]
        refine ab_W.go (mm _) 1 (c' := (4, [.long N, .retAddr 0, .int (nI ((cnt N i) + 1)), .int (nI (i + 1))], [], (0, 0), h)) rfl ?_
        exact ih
      · rw [cnt_f hb] at ih
        show ab_W _ _ _ (16, [.long N, .retAddr 0, .int (nI (cnt N i)), .int (nI i)], [.int (nI 0), .int (nI (cnt N i))], (0, 0), h)
        refine ab_W.itT (mm _) (p := (nI 0) = 0) (c1 := (23, [.long N, .retAddr 0, .int (nI (cnt N i)), .int (nI i)], [.int (nI (cnt N i))], (0, 0), h)) (c2 := (19, [.long N, .retAddr 0, .int (nI (cnt N i)), .int (nI i)], [.int (nI (cnt N i))], (0, 0), h)) rfl (nI_0) ?_
        refine ab_W.go (mm _) 2 (c' := (25, [.long N, .retAddr 0, .int (nI (cnt N i)), .int (nI i)], [.int ((nI (cnt N i)) + (nI 0))], (0, 0), h)) rfl ?_
        refine ab_W.topi (nI_add (cnt N i) 0) ?_
        refine ab_W.go (mm _) 2 (c' := (29, [.long N, .retAddr 0, .int (nI ((cnt N i) + 0)), .int (nI i + nI 1)], [], (0, 0), h)) rfl ?_
        rw [nI_add i 1]
        refine ab_W.go (mm _) 1 (c' := (4, [.long N, .retAddr 0, .int (nI ((cnt N i) + 0)), .int (nI (i + 1))], [], (0, 0), h)) rfl ?_
        exact ih
  refine ⟨rfl, ?_⟩
  show ab_W _ _ _ (0, [.long N, .retAddr 0, .retAddr 0, .retAddr 0], [], (0, 0), h)
  refine ab_W.go (mm _) 4 (c' := (4, [.long N, .retAddr 0, .int (nI 0), .int (nI 0)], [], (0, 0), h)) rfl ?_
  exact loop 0 (Nat.zero_le _)
end
section
/-! heights over spans: pure rows, and the class's -/
def hA (h : ab_H) (a : Nat) (f : Nat → Int32) : ab_H := h.set a (.inl (0, 64, .inl f))
theorem hA_at {h : ab_H} {a : Nat} {f : Nat → Int32} (ha : a < h.length) : (hA h a f)[a]? = some (.inl (0, 64, .inl f)) := List.getElem?_set_self ha
theorem hA_ne {h : ab_H} {a b : Nat} {f : Nat → Int32} (hb : a ≠ b) : (hA h a f)[b]? = h[b]? := List.getElem?_set_ne hb
theorem hA_hA {h : ab_H} {a : Nat} {f g : Nat → Int32} : (hA h a f).set a (.inl (0, 64, .inl g)) = hA h a g := List.set_set _
theorem hA_len {h : ab_H} {a : Nat} {f : Nat → Int32} : (hA h a f).length = h.length := List.length_set
theorem hA_self {h : ab_H} {a : Nat} {f : Nat → Int32} (ha : h[a]? = some (.inl (0, 64, .inl f))) : hA h a f = h := by
  apply List.ext_getElem?
  intro j
  by_cases hj : a = j
  · subst hj
    rw [hA_at (List.getElem?_eq_some_iff.mp ha).1, ha]
  · rw [hA_ne hj]
theorem hA_lt {h : ab_H} {a : Nat} {e : va_E} (ha : h[a]? = some e) : a < h.length := (List.getElem?_eq_some_iff.mp ha).1
def mnF (f : Nat → Int32) (b : Nat) : Nat → Int32
  | 0 => f b
  | i + 1 => if f (b + i) < mnF f b i then f (b + i) else mnF f b i
def mxF (f : Nat → Int32) (b : Nat) : Nat → Int32
  | 0 => f b
  | i + 1 => if mxF f b i < f (b + i) then f (b + i) else mxF f b i
theorem mnF_1 (f : Nat → Int32) (b : Nat) : mnF f b 1 = f b := by
  show (if f (b + 0) < f b then f (b + 0) else f b) = f b
  split <;> rfl
theorem mxF_1 (f : Nat → Int32) (b : Nat) : mxF f b 1 = f b := by
  show (if f b < f (b + 0) then f (b + 0) else f b) = f b
  split <;> rfl
def mn (f : Nat → Int32) (k : Nat) : Int32 := mnF f (beg k) (siz k)
def mx (f : Nat → Int32) (k : Nat) : Int32 := mxF f (beg k) (siz k)
def inK (k j : Nat) : Prop := beg k ≤ j ∧ j < beg k + siz k
def alk (f : Nat → Int32) (k : Nat) : Prop := ∀ j, inK k j → f j = f (beg k)
def lvF (f : Nat → Int32) (b c : Nat) (v : Int32) : Nat → Int32 := fun j => if b ≤ j ∧ j < c then v else f j
def lev (f : Nat → Int32) (k : Nat) (v : Int32) : Nat → Int32 := lvF f (beg k) (beg k + siz k) v
theorem lvF_0 (f : Nat → Int32) (b : Nat) (v : Int32) : lvF f b b v = f := by
  funext j
  exact if_neg (by omega)
theorem lvF_s (f : Nat → Int32) {b c : Nat} (v : Int32) (h : b ≤ c) : upd (lvF f b c v) c v = lvF f b (c + 1) v := by
  funext j
  unfold upd lvF
  by_cases hj : j = c
  · subst hj
    rw [if_pos rfl, if_pos (by omega)]
  · rw [if_neg hj]
    by_cases h1 : b ≤ j ∧ j < c
    · rw [if_pos h1, if_pos (by omega)]
    · rw [if_neg h1, if_neg (by omega)]
theorem sp_isAlike (d : Nat) {h : ab_H} {a k : Nat} {f : Nat → Int32} (ha : h[a]? = some (.inl (0, 64, .inl f))) (h1 : 1 ≤ k) (hk : k < 128) {post : ab_P} (hp : ∀ v : Int32, (alk f k ∧ v = nI 1) ∨ (¬ alk f k ∧ v = nI 0) → post (some (.int v)) h) : mCC (d + 2) kSpan_isAlike [.ref a, .int (nI (beg k)), .int (nI (dep k))] h post := by
  obtain ⟨s1, s2, s3, s4⟩ := sp_le k hk h1
  have loop : ∀ c, c ≤ beg k + siz k → beg k < c → (∀ j, beg k ≤ j → j < c → f j = f (beg k)) → ab_W (ab_st (mT kSpan_isAlike) mB mF (mR kSpan_isAlike) none) (mCC (d + 1)) post (12, [.ref a, .int (nI (beg k)), .int (nI (dep k)), .int (nI (beg k + siz k)), .int (nI c)], [], (0, 0), h) := by
    refine down (beg k + siz k) ?_ ?_
    · intro h2 hall
      refine ab_W.go (mm _) 2 (c' := (15, [.ref a, .int (nI (beg k)), .int (nI (dep k)), .int (nI (beg k + siz k)), .int (nI (beg k + siz k))], [.int (nI (beg k + siz k)), .int (nI (beg k + siz k))], (0, 0), h)) rfl ?_
      refine ab_W.itT (mm _) (p := (nI (beg k + siz k)) ≤ (nI (beg k + siz k))) (c1 := (36, [.ref a, .int (nI (beg k)), .int (nI (dep k)), .int (nI (beg k + siz k)), .int (nI (beg k + siz k))], [], (0, 0), h)) (c2 := (18, [.ref a, .int (nI (beg k)), .int (nI (dep k)), .int (nI (beg k + siz k)), .int (nI (beg k + siz k))], [], (0, 0), h)) rfl ((nI_leI (by omega) (by omega)).mpr (Nat.le_refl _)) ?_
      refine ab_W.go (mm _) 1 (c' := (37, [.ref a, .int (nI (beg k)), .int (nI (dep k)), .int (nI (beg k + siz k)), .int (nI (beg k + siz k))], [.int (nI 1)], (0, 0), h)) rfl ?_
      refine ab_W.retI (mm _) (rt := some .boolean) (v := nI 1) rfl rfl ?_
      exact hp _ (Or.inl ⟨fun j hj => hall j hj.1 hj.2, rfl⟩)
    · intro c hc ih h2 hall
      refine ab_W.go (mm _) 2 (c' := (15, [.ref a, .int (nI (beg k)), .int (nI (dep k)), .int (nI (beg k + siz k)), .int (nI c)], [.int (nI (beg k + siz k)), .int (nI c)], (0, 0), h)) rfl ?_
      refine ab_W.itF (mm _) (p := (nI (beg k + siz k)) ≤ (nI c)) (c1 := (36, [.ref a, .int (nI (beg k)), .int (nI (dep k)), .int (nI (beg k + siz k)), .int (nI c)], [], (0, 0), h)) (c2 := (18, [.ref a, .int (nI (beg k)), .int (nI (dep k)), .int (nI (beg k + siz k)), .int (nI c)], [], (0, 0), h)) rfl (fun z => absurd ((nI_leI (by omega) (by omega)).mp z) (by omega)) ?_
      refine ab_W.go (mm _) 2 (c' := (21, [.ref a, .int (nI (beg k)), .int (nI (dep k)), .int (nI (beg k + siz k)), .int (nI c)], [.int (nI c), .ref a], (0, 0), h)) rfl ?_
      refine ab_W.iald (mm _) (j := c) (ha) rfl (by omega) rfl rfl ?_
      show ab_W _ _ _ (22, [.ref a, .int (nI (beg k)), .int (nI (dep k)), .int (nI (beg k + siz k)), .int (nI c)], [.int (f c)], (0, 0), h)
      refine ab_W.go (mm _) 2 (c' := (24, [.ref a, .int (nI (beg k)), .int (nI (dep k)), .int (nI (beg k + siz k)), .int (nI c)], [.int (nI (beg k)), .ref a, .int (f c)], (0, 0), h)) rfl ?_
      refine ab_W.iald (mm _) (j := (beg k)) (ha) rfl (by omega) rfl rfl ?_
      show ab_W _ _ _ (25, [.ref a, .int (nI (beg k)), .int (nI (dep k)), .int (nI (beg k + siz k)), .int (nI c)], [.int (f (beg k)), .int (f c)], (0, 0), h)
      refine ab_W.ite (mm _) (p := (f c) = (f (beg k))) (c1 := (30, [.ref a, .int (nI (beg k)), .int (nI (dep k)), .int (nI (beg k + siz k)), .int (nI c)], [], (0, 0), h)) (c2 := (28, [.ref a, .int (nI (beg k)), .int (nI (dep k)), .int (nI (beg k + siz k)), .int (nI c)], [], (0, 0), h)) rfl (fun q2 => ?_) (fun q2 => ?_)
      · skip
        refine ab_W.go (mm _) 1 (c' := (33, [.ref a, .int (nI (beg k)), .int (nI (dep k)), .int (nI (beg k + siz k)), .int (nI c + nI 1)], [], (0, 0), h)) rfl ?_
        rw [nI_add c 1]
        refine ab_W.go (mm _) 1 (c' := (12, [.ref a, .int (nI (beg k)), .int (nI (dep k)), .int (nI (beg k + siz k)), .int (nI (c + 1))], [], (0, 0), h)) rfl ?_
        exact ih (by omega) (fun j h1 h2 => by
          rcases Nat.lt_or_ge j c with z | z
          · exact hall j h1 z
          · rw [show j = c by omega]; exact q2)
      · skip
        refine ab_W.go (mm _) 1 (c' := (29, [.ref a, .int (nI (beg k)), .int (nI (dep k)), .int (nI (beg k + siz k)), .int (nI c)], [.int (nI 0)], (0, 0), h)) rfl ?_
        refine ab_W.retI (mm _) (rt := some .boolean) (v := nI 0) rfl rfl ?_
        exact hp _ (Or.inr ⟨fun z => q2 (z c ⟨by omega, hc⟩), rfl⟩)
  refine ⟨rfl, ?_⟩
  show ab_W _ _ _ (0, [.ref a, .int (nI (beg k)), .int (nI (dep k)), .retAddr 0, .retAddr 0], [], (0, 0), h)
  refine ab_W.go (mm _) 2 (c' := (2, [.ref a, .int (nI (beg k)), .int (nI (dep k)), .retAddr 0, .retAddr 0], [.int (nI (dep k)), .int (nI (beg k))], (0, 0), h)) rfl ?_
  refine ab_W.call (mm _) (k := 22) (av := [.int (nI (dep k))]) (c' := (5, [.ref a, .int (nI (beg k)), .int (nI (dep k)), .retAddr 0, .retAddr 0], [.int (nI (beg k))], (0, 0), h)) rfl ?_
  refine sp_sizeOf _ s1 ?_
  show ab_W _ _ _ (5, [.ref a, .int (nI (beg k)), .int (nI (dep k)), .retAddr 0, .retAddr 0], [.int (nI (siz k)), .int (nI (beg k))], (0, 0), h)
  refine ab_W.go (mm _) 1 (c' := (6, [.ref a, .int (nI (beg k)), .int (nI (dep k)), .retAddr 0, .retAddr 0], [.int ((nI (beg k)) + (nI (siz k)))], (0, 0), h)) rfl ?_
  refine ab_W.topi (nI_add (beg k) (siz k)) ?_
  refine ab_W.go (mm _) 4 (c' := (10, [.ref a, .int (nI (beg k)), .int (nI (dep k)), .int (nI ((beg k) + (siz k))), .retAddr 0], [.int ((nI (beg k)) + (nI 1))], (0, 0), h)) rfl ?_
  refine ab_W.topi (nI_add (beg k) 1) ?_
  refine ab_W.go (mm _) 1 (c' := (12, [.ref a, .int (nI (beg k)), .int (nI (dep k)), .int (nI ((beg k) + (siz k))), .int (nI ((beg k) + 1))], [], (0, 0), h)) rfl ?_
  exact loop (beg k + 1) (by omega) (by omega) (fun j h1 h2 => by rw [show j = beg k by omega])
theorem sp_greatestOf (d : Nat) {h : ab_H} {a k : Nat} {f : Nat → Int32} (ha : h[a]? = some (.inl (0, 64, .inl f))) (h1 : 1 ≤ k) (hk : k < 128) {post : ab_P} (hp : post (some (.int (mx f k))) h) : mCC (d + 2) kSpan_greatestOf [.ref a, .int (nI (beg k)), .int (nI (dep k))] h post := by
  obtain ⟨s1, s2, s3, s4⟩ := sp_le k hk h1
  have loop : ∀ i, i ≤ siz k → 1 ≤ i → ab_W (ab_st (mT kSpan_greatestOf) mB mF (mR kSpan_greatestOf) none) (mCC (d + 1)) post (17, [.ref a, .int (nI (beg k)), .int (nI (dep k)), .int (nI (beg k + siz k)), .int (mxF f (beg k) i), .int (nI (beg k + i))], [], (0, 0), h) := by
    refine down (siz k) ?_ ?_
    · intro h2
      refine ab_W.go (mm _) 2 (c' := (20, [.ref a, .int (nI (beg k)), .int (nI (dep k)), .int (nI (beg k + siz k)), .int (mxF f (beg k) (siz k)), .int (nI (beg k + siz k))], [.int (nI (beg k + siz k)), .int (nI (beg k + siz k))], (0, 0), h)) rfl ?_
      refine ab_W.itT (mm _) (p := (nI (beg k + siz k)) ≤ (nI (beg k + siz k))) (c1 := (40, [.ref a, .int (nI (beg k)), .int (nI (dep k)), .int (nI (beg k + siz k)), .int (mxF f (beg k) (siz k)), .int (nI (beg k + siz k))], [], (0, 0), h)) (c2 := (23, [.ref a, .int (nI (beg k)), .int (nI (dep k)), .int (nI (beg k + siz k)), .int (mxF f (beg k) (siz k)), .int (nI (beg k + siz k))], [], (0, 0), h)) rfl ((nI_leI (by omega) (by omega)).mpr (Nat.le_refl _)) ?_
      refine ab_W.go (mm _) 1 (c' := (42, [.ref a, .int (nI (beg k)), .int (nI (dep k)), .int (nI (beg k + siz k)), .int (mxF f (beg k) (siz k)), .int (nI (beg k + siz k))], [.int (mxF f (beg k) (siz k))], (0, 0), h)) rfl ?_
      refine ab_W.retI (mm _) (rt := some .int) (v := mxF f (beg k) (siz k)) rfl rfl ?_
      exact hp
    · intro i hi ih h2
      refine ab_W.go (mm _) 2 (c' := (20, [.ref a, .int (nI (beg k)), .int (nI (dep k)), .int (nI (beg k + siz k)), .int (mxF f (beg k) i), .int (nI (beg k + i))], [.int (nI (beg k + siz k)), .int (nI (beg k + i))], (0, 0), h)) rfl ?_
      refine ab_W.itF (mm _) (p := (nI (beg k + siz k)) ≤ (nI (beg k + i))) (c1 := (40, [.ref a, .int (nI (beg k)), .int (nI (dep k)), .int (nI (beg k + siz k)), .int (mxF f (beg k) i), .int (nI (beg k + i))], [], (0, 0), h)) (c2 := (23, [.ref a, .int (nI (beg k)), .int (nI (dep k)), .int (nI (beg k + siz k)), .int (mxF f (beg k) i), .int (nI (beg k + i))], [], (0, 0), h)) rfl (fun z => absurd ((nI_leI (by omega) (by omega)).mp z) (by omega)) ?_
      refine ab_W.go (mm _) 3 (c' := (28, [.ref a, .int (nI (beg k)), .int (nI (dep k)), .int (nI (beg k + siz k)), .int (mxF f (beg k) i), .int (nI (beg k + i))], [.int (nI (beg k + i)), .ref a, .int (mxF f (beg k) i)], (0, 0), h)) rfl ?_
      refine ab_W.iald (mm _) (j := (beg k + i)) (ha) rfl (by omega) rfl rfl ?_
      show ab_W _ _ _ (29, [.ref a, .int (nI (beg k)), .int (nI (dep k)), .int (nI (beg k + siz k)), .int (mxF f (beg k) i), .int (nI (beg k + i))], [.int (f (beg k + i)), .int (mxF f (beg k) i)], (0, 0), h)
      refine ab_W.go (mm _) 3 (c' := (37, [.ref a, .int (nI (beg k)), .int (nI (dep k)), .int (nI (beg k + siz k)), .int (if (mxF f (beg k) i) < (f (beg k + i)) then (f (beg k + i)) else (mxF f (beg k) i)), .int (nI (beg k + i) + nI 1)], [], (0, 0), h)) rfl ?_
      rw [nI_add (beg k + i) 1]
      refine ab_W.go (mm _) 1 (c' := (17, [.ref a, .int (nI (beg k)), .int (nI (dep k)), .int (nI (beg k + siz k)), .int (if (mxF f (beg k) i) < (f (beg k + i)) then (f (beg k + i)) else (mxF f (beg k) i)), .int (nI ((beg k + i) + 1))], [], (0, 0), h)) rfl ?_
      exact ih (by omega)
  refine ⟨rfl, ?_⟩
  show ab_W _ _ _ (0, [.ref a, .int (nI (beg k)), .int (nI (dep k)), .retAddr 0, .retAddr 0, .retAddr 0], [], (0, 0), h)
  refine ab_W.go (mm _) 2 (c' := (2, [.ref a, .int (nI (beg k)), .int (nI (dep k)), .retAddr 0, .retAddr 0, .retAddr 0], [.int (nI (dep k)), .int (nI (beg k))], (0, 0), h)) rfl ?_
  refine ab_W.call (mm _) (k := 22) (av := [.int (nI (dep k))]) (c' := (5, [.ref a, .int (nI (beg k)), .int (nI (dep k)), .retAddr 0, .retAddr 0, .retAddr 0], [.int (nI (beg k))], (0, 0), h)) rfl ?_
  refine sp_sizeOf _ s1 ?_
  show ab_W _ _ _ (5, [.ref a, .int (nI (beg k)), .int (nI (dep k)), .retAddr 0, .retAddr 0, .retAddr 0], [.int (nI (siz k)), .int (nI (beg k))], (0, 0), h)
  refine ab_W.go (mm _) 1 (c' := (6, [.ref a, .int (nI (beg k)), .int (nI (dep k)), .retAddr 0, .retAddr 0, .retAddr 0], [.int ((nI (beg k)) + (nI (siz k)))], (0, 0), h)) rfl ?_
  refine ab_W.topi (nI_add (beg k) (siz k)) ?_
  refine ab_W.go (mm _) 3 (c' := (9, [.ref a, .int (nI (beg k)), .int (nI (dep k)), .int (nI ((beg k) + (siz k))), .retAddr 0, .retAddr 0], [.int (nI (beg k)), .ref a], (0, 0), h)) rfl ?_
  refine ab_W.iald (mm _) (j := (beg k)) (ha) rfl (by omega) rfl rfl ?_
  show ab_W _ _ _ (10, [.ref a, .int (nI (beg k)), .int (nI (dep k)), .int (nI ((beg k) + (siz k))), .retAddr 0, .retAddr 0], [.int (f (beg k))], (0, 0), h)
  refine ab_W.go (mm _) 4 (c' := (15, [.ref a, .int (nI (beg k)), .int (nI (dep k)), .int (nI ((beg k) + (siz k))), .int (f (beg k)), .retAddr 0], [.int ((nI (beg k)) + (nI 1))], (0, 0), h)) rfl ?_
  refine ab_W.topi (nI_add (beg k) 1) ?_
  refine ab_W.go (mm _) 1 (c' := (17, [.ref a, .int (nI (beg k)), .int (nI (dep k)), .int (nI ((beg k) + (siz k))), .int (f (beg k)), .int (nI ((beg k) + 1))], [], (0, 0), h)) rfl ?_
  have := loop 1 (by omega) (by omega)
  rw [mxF_1] at this
  exact this
theorem sp_leastOf (d : Nat) {h : ab_H} {a k : Nat} {f : Nat → Int32} (ha : h[a]? = some (.inl (0, 64, .inl f))) (h1 : 1 ≤ k) (hk : k < 128) {post : ab_P} (hp : post (some (.int (mn f k))) h) : mCC (d + 2) kSpan_leastOf [.ref a, .int (nI (beg k)), .int (nI (dep k))] h post := by
  obtain ⟨s1, s2, s3, s4⟩ := sp_le k hk h1
  have loop : ∀ i, i ≤ siz k → 1 ≤ i → ab_W (ab_st (mT kSpan_leastOf) mB mF (mR kSpan_leastOf) none) (mCC (d + 1)) post (17, [.ref a, .int (nI (beg k)), .int (nI (dep k)), .int (nI (beg k + siz k)), .int (mnF f (beg k) i), .int (nI (beg k + i))], [], (0, 0), h) := by
    refine down (siz k) ?_ ?_
    · intro h2
      refine ab_W.go (mm _) 2 (c' := (20, [.ref a, .int (nI (beg k)), .int (nI (dep k)), .int (nI (beg k + siz k)), .int (mnF f (beg k) (siz k)), .int (nI (beg k + siz k))], [.int (nI (beg k + siz k)), .int (nI (beg k + siz k))], (0, 0), h)) rfl ?_
      refine ab_W.itT (mm _) (p := (nI (beg k + siz k)) ≤ (nI (beg k + siz k))) (c1 := (40, [.ref a, .int (nI (beg k)), .int (nI (dep k)), .int (nI (beg k + siz k)), .int (mnF f (beg k) (siz k)), .int (nI (beg k + siz k))], [], (0, 0), h)) (c2 := (23, [.ref a, .int (nI (beg k)), .int (nI (dep k)), .int (nI (beg k + siz k)), .int (mnF f (beg k) (siz k)), .int (nI (beg k + siz k))], [], (0, 0), h)) rfl ((nI_leI (by omega) (by omega)).mpr (Nat.le_refl _)) ?_
      refine ab_W.go (mm _) 1 (c' := (42, [.ref a, .int (nI (beg k)), .int (nI (dep k)), .int (nI (beg k + siz k)), .int (mnF f (beg k) (siz k)), .int (nI (beg k + siz k))], [.int (mnF f (beg k) (siz k))], (0, 0), h)) rfl ?_
      refine ab_W.retI (mm _) (rt := some .int) (v := mnF f (beg k) (siz k)) rfl rfl ?_
      exact hp
    · intro i hi ih h2
      refine ab_W.go (mm _) 2 (c' := (20, [.ref a, .int (nI (beg k)), .int (nI (dep k)), .int (nI (beg k + siz k)), .int (mnF f (beg k) i), .int (nI (beg k + i))], [.int (nI (beg k + siz k)), .int (nI (beg k + i))], (0, 0), h)) rfl ?_
      refine ab_W.itF (mm _) (p := (nI (beg k + siz k)) ≤ (nI (beg k + i))) (c1 := (40, [.ref a, .int (nI (beg k)), .int (nI (dep k)), .int (nI (beg k + siz k)), .int (mnF f (beg k) i), .int (nI (beg k + i))], [], (0, 0), h)) (c2 := (23, [.ref a, .int (nI (beg k)), .int (nI (dep k)), .int (nI (beg k + siz k)), .int (mnF f (beg k) i), .int (nI (beg k + i))], [], (0, 0), h)) rfl (fun z => absurd ((nI_leI (by omega) (by omega)).mp z) (by omega)) ?_
      refine ab_W.go (mm _) 3 (c' := (28, [.ref a, .int (nI (beg k)), .int (nI (dep k)), .int (nI (beg k + siz k)), .int (mnF f (beg k) i), .int (nI (beg k + i))], [.int (nI (beg k + i)), .ref a, .int (mnF f (beg k) i)], (0, 0), h)) rfl ?_
      refine ab_W.iald (mm _) (j := (beg k + i)) (ha) rfl (by omega) rfl rfl ?_
      show ab_W _ _ _ (29, [.ref a, .int (nI (beg k)), .int (nI (dep k)), .int (nI (beg k + siz k)), .int (mnF f (beg k) i), .int (nI (beg k + i))], [.int (f (beg k + i)), .int (mnF f (beg k) i)], (0, 0), h)
      refine ab_W.go (mm _) 3 (c' := (37, [.ref a, .int (nI (beg k)), .int (nI (dep k)), .int (nI (beg k + siz k)), .int (if (f (beg k + i)) < (mnF f (beg k) i) then (f (beg k + i)) else (mnF f (beg k) i)), .int (nI (beg k + i) + nI 1)], [], (0, 0), h)) rfl ?_
      rw [nI_add (beg k + i) 1]
      refine ab_W.go (mm _) 1 (c' := (17, [.ref a, .int (nI (beg k)), .int (nI (dep k)), .int (nI (beg k + siz k)), .int (if (f (beg k + i)) < (mnF f (beg k) i) then (f (beg k + i)) else (mnF f (beg k) i)), .int (nI ((beg k + i) + 1))], [], (0, 0), h)) rfl ?_
      exact ih (by omega)
  refine ⟨rfl, ?_⟩
  show ab_W _ _ _ (0, [.ref a, .int (nI (beg k)), .int (nI (dep k)), .retAddr 0, .retAddr 0, .retAddr 0], [], (0, 0), h)
  refine ab_W.go (mm _) 2 (c' := (2, [.ref a, .int (nI (beg k)), .int (nI (dep k)), .retAddr 0, .retAddr 0, .retAddr 0], [.int (nI (dep k)), .int (nI (beg k))], (0, 0), h)) rfl ?_
  refine ab_W.call (mm _) (k := 22) (av := [.int (nI (dep k))]) (c' := (5, [.ref a, .int (nI (beg k)), .int (nI (dep k)), .retAddr 0, .retAddr 0, .retAddr 0], [.int (nI (beg k))], (0, 0), h)) rfl ?_
  refine sp_sizeOf _ s1 ?_
  show ab_W _ _ _ (5, [.ref a, .int (nI (beg k)), .int (nI (dep k)), .retAddr 0, .retAddr 0, .retAddr 0], [.int (nI (siz k)), .int (nI (beg k))], (0, 0), h)
  refine ab_W.go (mm _) 1 (c' := (6, [.ref a, .int (nI (beg k)), .int (nI (dep k)), .retAddr 0, .retAddr 0, .retAddr 0], [.int ((nI (beg k)) + (nI (siz k)))], (0, 0), h)) rfl ?_
  refine ab_W.topi (nI_add (beg k) (siz k)) ?_
  refine ab_W.go (mm _) 3 (c' := (9, [.ref a, .int (nI (beg k)), .int (nI (dep k)), .int (nI ((beg k) + (siz k))), .retAddr 0, .retAddr 0], [.int (nI (beg k)), .ref a], (0, 0), h)) rfl ?_
  refine ab_W.iald (mm _) (j := (beg k)) (ha) rfl (by omega) rfl rfl ?_
  show ab_W _ _ _ (10, [.ref a, .int (nI (beg k)), .int (nI (dep k)), .int (nI ((beg k) + (siz k))), .retAddr 0, .retAddr 0], [.int (f (beg k))], (0, 0), h)
  refine ab_W.go (mm _) 4 (c' := (15, [.ref a, .int (nI (beg k)), .int (nI (dep k)), .int (nI ((beg k) + (siz k))), .int (f (beg k)), .retAddr 0], [.int ((nI (beg k)) + (nI 1))], (0, 0), h)) rfl ?_
  refine ab_W.topi (nI_add (beg k) 1) ?_
  refine ab_W.go (mm _) 1 (c' := (17, [.ref a, .int (nI (beg k)), .int (nI (dep k)), .int (nI ((beg k) + (siz k))), .int (f (beg k)), .int (nI ((beg k) + 1))], [], (0, 0), h)) rfl ?_
  have := loop 1 (by omega) (by omega)
  rw [mnF_1] at this
  exact this
theorem sp_level (d : Nat) {h : ab_H} {a k : Nat} {f : Nat → Int32} {v : Int32} (ha : a < h.length) (h1 : 1 ≤ k) (hk : k < 128) {post : ab_P} (hp : post none (hA h a (lev f k v))) : mCC (d + 2) kSpan_level [.ref a, .int (nI (beg k)), .int (nI (dep k)), .int v] (hA h a f) post := by
  obtain ⟨s1, s2, s3, s4⟩ := sp_le k hk h1
  have loop : ∀ c, c ≤ beg k + siz k → beg k ≤ c → ab_W (ab_st (mT kSpan_level) mB mF (mR kSpan_level) none) (mCC (d + 1)) post (11, [.ref a, .int (nI (beg k)), .int (nI (dep k)), .int v, .int (nI (beg k + siz k)), .int (nI c)], [], (0, 0), hA h a (lvF f (beg k) c v)) := by
    refine down (beg k + siz k) ?_ ?_
    · intro h2
      refine ab_W.go (mm _) 2 (c' := (15, [.ref a, .int (nI (beg k)), .int (nI (dep k)), .int v, .int (nI (beg k + siz k)), .int (nI (beg k + siz k))], [.int (nI (beg k + siz k)), .int (nI (beg k + siz k))], (0, 0), hA h a (lvF f (beg k) (beg k + siz k) v))) rfl ?_
      refine ab_W.itT (mm _) (p := (nI (beg k + siz k)) ≤ (nI (beg k + siz k))) (c1 := (29, [.ref a, .int (nI (beg k)), .int (nI (dep k)), .int v, .int (nI (beg k + siz k)), .int (nI (beg k + siz k))], [], (0, 0), hA h a (lvF f (beg k) (beg k + siz k) v))) (c2 := (18, [.ref a, .int (nI (beg k)), .int (nI (dep k)), .int v, .int (nI (beg k + siz k)), .int (nI (beg k + siz k))], [], (0, 0), hA h a (lvF f (beg k) (beg k + siz k) v))) rfl ((nI_leI (by omega) (by omega)).mpr (Nat.le_refl _)) ?_
      refine ab_W.ret (mm _) (v := none) rfl ?_
      exact hp
    · intro c hc ih h2
      refine ab_W.go (mm _) 2 (c' := (15, [.ref a, .int (nI (beg k)), .int (nI (dep k)), .int v, .int (nI (beg k + siz k)), .int (nI c)], [.int (nI (beg k + siz k)), .int (nI c)], (0, 0), hA h a (lvF f (beg k) c v))) rfl ?_
      refine ab_W.itF (mm _) (p := (nI (beg k + siz k)) ≤ (nI c)) (c1 := (29, [.ref a, .int (nI (beg k)), .int (nI (dep k)), .int v, .int (nI (beg k + siz k)), .int (nI c)], [], (0, 0), hA h a (lvF f (beg k) c v))) (c2 := (18, [.ref a, .int (nI (beg k)), .int (nI (dep k)), .int v, .int (nI (beg k + siz k)), .int (nI c)], [], (0, 0), hA h a (lvF f (beg k) c v))) rfl (fun z => absurd ((nI_leI (by omega) (by omega)).mp z) (by omega)) ?_
      refine ab_W.go (mm _) 3 (c' := (22, [.ref a, .int (nI (beg k)), .int (nI (dep k)), .int v, .int (nI (beg k + siz k)), .int (nI c)], [.int v, .int (nI c), .ref a], (0, 0), hA h a (lvF f (beg k) c v))) rfl ?_
      refine ab_W.iast (mm _) (j := c) (hA_at ha) rfl (by omega) rfl rfl ?_
      refine ab_W.hp (hA_hA.trans (congrArg (hA h a) (lvF_s f v h2))) ?_
      show ab_W _ _ _ (23, [.ref a, .int (nI (beg k)), .int (nI (dep k)), .int v, .int (nI (beg k + siz k)), .int (nI c)], [], (0, 0), hA h a (lvF f (beg k) (c + 1) v))
      refine ab_W.go (mm _) 1 (c' := (26, [.ref a, .int (nI (beg k)), .int (nI (dep k)), .int v, .int (nI (beg k + siz k)), .int (nI c + nI 1)], [], (0, 0), hA h a (lvF f (beg k) (c + 1) v))) rfl ?_
      rw [nI_add c 1]
      refine ab_W.go (mm _) 1 (c' := (11, [.ref a, .int (nI (beg k)), .int (nI (dep k)), .int v, .int (nI (beg k + siz k)), .int (nI (c + 1))], [], (0, 0), hA h a (lvF f (beg k) (c + 1) v))) rfl ?_
      exact ih (by omega)
  refine ⟨rfl, ?_⟩
  show ab_W _ _ _ (0, [.ref a, .int (nI (beg k)), .int (nI (dep k)), .int v, .retAddr 0, .retAddr 0], [], (0, 0), hA h a f)
  refine ab_W.go (mm _) 2 (c' := (2, [.ref a, .int (nI (beg k)), .int (nI (dep k)), .int v, .retAddr 0, .retAddr 0], [.int (nI (dep k)), .int (nI (beg k))], (0, 0), hA h a f)) rfl ?_
  refine ab_W.call (mm _) (k := 22) (av := [.int (nI (dep k))]) (c' := (5, [.ref a, .int (nI (beg k)), .int (nI (dep k)), .int v, .retAddr 0, .retAddr 0], [.int (nI (beg k))], (0, 0), hA h a f)) rfl ?_
  refine sp_sizeOf _ s1 ?_
  show ab_W _ _ _ (5, [.ref a, .int (nI (beg k)), .int (nI (dep k)), .int v, .retAddr 0, .retAddr 0], [.int (nI (siz k)), .int (nI (beg k))], (0, 0), hA h a f)
  refine ab_W.go (mm _) 1 (c' := (6, [.ref a, .int (nI (beg k)), .int (nI (dep k)), .int v, .retAddr 0, .retAddr 0], [.int ((nI (beg k)) + (nI (siz k)))], (0, 0), hA h a f)) rfl ?_
  refine ab_W.topi (nI_add (beg k) (siz k)) ?_
  refine ab_W.go (mm _) 3 (c' := (11, [.ref a, .int (nI (beg k)), .int (nI (dep k)), .int v, .int (nI ((beg k) + (siz k))), .int (nI (beg k))], [], (0, 0), hA h a f)) rfl ?_
  have := loop (beg k) (by omega) (by omega)
  rw [lvF_0] at this
  exact this
end
section
/-! bits of sets; the class's fill -/
noncomputable def ci {α : Type} (p : Prop) (a b : α) : α := @ite α p (Classical.propDecidable p) a b
theorem ci_t {α : Type} {p : Prop} {a b : α} (h : p) : ci p a b = a := if_pos h
theorem ci_f {α : Type} {p : Prop} {a b : α} (h : ¬ p) : ci p a b = b := if_neg h
theorem bt_ext {A B : Int64} (h : ∀ j, j < 64 → bt A j = bt B j) : A = B := by
  rw [← Int64.toBitVec_inj]
  apply BitVec.eq_of_getLsbD_eq
  intro j hj
  exact h j hj
theorem bt_and (A B : Int64) (j : Nat) : bt (A &&& B) j = (bt A j && bt B j) := by
  unfold bt
  rw [Int64.toBitVec_and, BitVec.getLsbD_and]
theorem bt_or (A B : Int64) (j : Nat) : bt (A ||| B) j = (bt A j || bt B j) := by
  unfold bt
  rw [Int64.toBitVec_or, BitVec.getLsbD_or]
theorem bt_xor (A B : Int64) (j : Nat) : bt (A ^^^ B) j = (bt A j ^^ bt B j) := by
  unfold bt
  rw [Int64.toBitVec_xor, BitVec.getLsbD_xor]
theorem bt_m1 : ∀ j, j < 64 → bt (-(lN 1)) j = true := by decide +kernel
theorem bt_0 : ∀ j, j < 64 → bt (lN 0) j = false := by decide +kernel
theorem bt_not (A : Int64) {j : Nat} (hj : j < 64) : bt (A ^^^ (-(lN 1))) j = !(bt A j) := by
  rw [bt_xor, bt_m1 j hj]
  cases bt A j <;> rfl
theorem bt_sub (A N : Int64) : (A &&& (N ^^^ (-(lN 1)))) = lN 0 ↔ ∀ j, j < 64 → bt A j = true → bt N j = true := by
  constructor
  · intro h j hj ha
    have h1 : bt (A &&& (N ^^^ (-(lN 1)))) j = bt (lN 0) j := by rw [h]
    rw [bt_and, bt_not N hj, bt_0 j hj, ha] at h1
    cases hn : bt N j with
    | true => rfl
    | false => rw [hn] at h1; cases h1
  · intro h
    apply bt_ext
    intro j hj
    rw [bt_and, bt_not N hj, bt_0 j hj]
    cases ha : bt A j with
    | false => rfl
    | true => rw [h j hj ha]; rfl
theorem bt_cut (A N : Int64) : (A &&& N) = lN 0 ↔ ∀ j, j < 64 → bt A j = true → bt N j = false := by
  constructor
  · intro h j hj ha
    have h1 : bt (A &&& N) j = bt (lN 0) j := by rw [h]
    rw [bt_and, bt_0 j hj, ha] at h1
    exact h1
  · intro h
    apply bt_ext
    intro j hj
    rw [bt_and, bt_0 j hj]
    cases ha : bt A j with
    | false => rfl
    | true => rw [h j hj ha]; rfl
theorem and_comm64 (A B : Int64) : A &&& B = B &&& A := by
  apply bt_ext
  intro j _
  rw [bt_and, bt_and, Bool.and_comm]
theorem inK_lt {k j : Nat} (h1 : 1 ≤ k) (hk : k < 128) (h : inK k j) : j < 64 := by
  have := sp_le k hk h1
  have := h.2
  omega
theorem msk_in {k j : Nat} (h1 : 1 ≤ k) (hk : k < 128) (hj : j < 64) : bt (msk k) j = true ↔ inK k j := by
  rw [msk_bt k hk h1 j hj, Bool.and_eq_true, decide_eq_true_eq, decide_eq_true_eq]
  rfl
theorem lies_iff {N : Int64} {k : Nat} (h1 : 1 ≤ k) (hk : k < 128) : lies N k ↔ ∀ j, inK k j → bt N j = true := by
  unfold lies
  rw [bt_sub]
  exact ⟨fun h j hj => h j (inK_lt h1 hk hj) ((msk_in h1 hk (inK_lt h1 hk hj)).mpr hj), fun h j hj ha => h j ((msk_in h1 hk hj).mp ha)⟩
theorem hits_iff {N : Int64} {k : Nat} (h1 : 1 ≤ k) (hk : k < 128) : hits N k ↔ ∃ j, inK k j ∧ bt N j = true := by
  unfold hits
  rw [bt_cut]
  constructor
  · intro h
    apply Classical.byContradiction
    intro hn
    apply h
    intro j hj ha
    cases hb : bt N j with
    | false => rfl
    | true => exact absurd ⟨j, (msk_in h1 hk hj).mp ha, hb⟩ hn
  · rintro ⟨j, hj, hb⟩ h
    have hl := inK_lt h1 hk hj
    rw [h j hl ((msk_in h1 hk hl).mpr hj)] at hb
    cases hb
def mxI (x y : Int32) : Int32 := if x < y then y else x
def lft (g : Nat → Int32) (own oth : Nat) : Nat → Int32 := lev g own (mxI (mx g own) (mn g oth))
/-- what FILLING a span makes of heights; n: how many levels are below it -/
noncomputable def fl (N : Int64) : Nat → Nat → (Nat → Int32) → Nat → Int32
  | 0, _, f => f
  | n + 1, k, f => ci (¬ hits N k ∨ alk f k) f (ci (lies N k) (lev f k (mx f k)) (ci (lies N (2 * k)) (lft (fl N n (2 * k + 1) f) (2 * k) (2 * k + 1)) (ci (lies N (2 * k + 1)) (lft (fl N n (2 * k) f) (2 * k + 1) (2 * k)) (fl N n (2 * k + 1) (fl N n (2 * k) f)))))
theorem sp_lift (d : Nat) {h : ab_H} {a own oth δ : Nat} {f : Nat → Int32} (ha : a < h.length) (h1 : 1 ≤ own) (hk : own < 128) (h2 : 1 ≤ oth) (hk2 : oth < 128) (e1 : dep own = δ) (e2 : dep oth = δ) {post : ab_P} (hp : post none (hA h a (lft f own oth))) : mCC (d + 3) kForecast_lift [.ref a, .int (nI (beg own)), .int (nI (beg oth)), .int (nI δ)] (hA h a f) post := by
  refine ⟨rfl, ?_⟩
  show ab_W _ _ _ (0, [.ref a, .int (nI (beg own)), .int (nI (beg oth)), .int (nI δ), .retAddr 0], [], (0, 0), hA h a f)
  refine ab_W.go (mm _) 3 (c' := (3, [.ref a, .int (nI (beg own)), .int (nI (beg oth)), .int (nI δ), .retAddr 0], [.int (nI δ), .int (nI (beg own)), .ref a], (0, 0), hA h a f)) rfl ?_
  refine ab_W.call (mm _) (k := 33) (av := [.ref a, .int (nI (beg own)), .int (nI δ)]) (c' := (6, [.ref a, .int (nI (beg own)), .int (nI (beg oth)), .int (nI δ), .retAddr 0], [], (0, 0), hA h a f)) rfl ?_
  rw [← e1]
  refine sp_greatestOf _ (hA_at ha) h1 hk ?_
  rw [e1]
  show ab_W _ _ _ (6, [.ref a, .int (nI (beg own)), .int (nI (beg oth)), .int (nI δ), .retAddr 0], [.int (mx f own)], (0, 0), hA h a f)
  refine ab_W.go (mm _) 3 (c' := (9, [.ref a, .int (nI (beg own)), .int (nI (beg oth)), .int (nI δ), .retAddr 0], [.int (nI δ), .int (nI (beg oth)), .ref a, .int (mx f own)], (0, 0), hA h a f)) rfl ?_
  refine ab_W.call (mm _) (k := 34) (av := [.ref a, .int (nI (beg oth)), .int (nI δ)]) (c' := (12, [.ref a, .int (nI (beg own)), .int (nI (beg oth)), .int (nI δ), .retAddr 0], [.int (mx f own)], (0, 0), hA h a f)) rfl ?_
  rw [← e2]
  refine sp_leastOf _ (hA_at ha) h2 hk2 ?_
  rw [e2]
  show ab_W _ _ _ (12, [.ref a, .int (nI (beg own)), .int (nI (beg oth)), .int (nI δ), .retAddr 0], [.int (mn f oth), .int (mx f own)], (0, 0), hA h a f)
  refine ab_W.go (mm _) 6 (c' := (22, [.ref a, .int (nI (beg own)), .int (nI (beg oth)), .int (nI δ), .int (if (mx f own) < (mn f oth) then (mn f oth) else (mx f own))], [.int (if (mx f own) < (mn f oth) then (mn f oth) else (mx f own)), .int (nI δ), .int (nI (beg own)), .ref a], (0, 0), hA h a f)) rfl ?_
  refine ab_W.call (mm _) (k := 35) (av := [.ref a, .int (nI (beg own)), .int (nI δ), .int (mxI (mx f own) (mn f oth))]) (c' := (25, [.ref a, .int (nI (beg own)), .int (nI (beg oth)), .int (nI δ), .int (mxI (mx f own) (mn f oth))], [], (0, 0), hA h a f)) rfl ?_
  rw [← e1]
  refine sp_level _ ha h1 hk ?_
  rw [e1]
  show ab_W _ _ _ (25, [.ref a, .int (nI (beg own)), .int (nI (beg oth)), .int (nI δ), .int (mxI (mx f own) (mn f oth))], [], (0, 0), hA h a (lft f own oth))
  refine ab_W.ret (mm _) (v := none) rfl ?_
  exact hp
theorem sp_fill {h : ab_H} {a : Nat} {N : Int64} (ha : a < h.length) : ∀ (n k : Nat), 1 ≤ k → k < 128 → dep k + n = 6 → ∀ (D : Nat), n + 4 ≤ D → ∀ (f : Nat → Int32) {post : ab_P}, post none (hA h a (fl N n k f)) → mCC D kForecast_fill [.ref a, .long N, .int (nI (beg k)), .int (nI (dep k))] (hA h a f) post := by
  intro n
  induction n with
  | zero =>
    intro k h1 hk hd D hD f post hp
    obtain ⟨x, rfl⟩ : ∃ x, D = x + 1 := ⟨D - 1, by omega⟩
    refine ⟨rfl, ?_⟩
    show ab_W _ _ _ (0, [.ref a, .long N, .retAddr 0, .int (nI (beg k)), .int (nI (dep k)), .retAddr 0, .retAddr 0], [], (0, 0), hA h a f)
    refine ab_W.go (mm _) 2 (c' := (4, [.ref a, .long N, .retAddr 0, .int (nI (beg k)), .int (nI (dep k)), .retAddr 0, .retAddr 0], [.int (nI 6), .int (nI (dep k))], (0, 0), hA h a f)) rfl ?_
    refine ab_W.itT (mm _) (p := (nI 6) ≤ (nI (dep k))) (c1 := (30, [.ref a, .long N, .retAddr 0, .int (nI (beg k)), .int (nI (dep k)), .retAddr 0, .retAddr 0], [], (0, 0), hA h a f)) (c2 := (7, [.ref a, .long N, .retAddr 0, .int (nI (beg k)), .int (nI (dep k)), .retAddr 0, .retAddr 0], [], (0, 0), hA h a f)) rfl (by rw [show dep k = 6 by omega]; decide) ?_
    refine ab_W.ret (mm _) (v := none) rfl ?_
    exact hp
  | succ n ih =>
    intro k h1 hk hd D hD f post hp
    obtain ⟨x, rfl⟩ : ∃ x, D = x + 5 := ⟨D - 5, by omega⟩
    have h6 := (sp_le k hk h1).1
    have hk64 : k < 64 := by
      rcases Nat.lt_or_ge k 64 with q | q
      · exact q
      · have := (sp_leaf k hk q).1
        omega
    obtain ⟨e1, e2, e3, e4, e5, e6, e7, e8⟩ := sp_half k hk64 h1
    refine ⟨rfl, ?_⟩
    show ab_W _ _ _ (0, [.ref a, .long N, .retAddr 0, .int (nI (beg k)), .int (nI (dep k)), .retAddr 0, .retAddr 0], [], (0, 0), hA h a f)
    refine ab_W.go (mm _) 2 (c' := (4, [.ref a, .long N, .retAddr 0, .int (nI (beg k)), .int (nI (dep k)), .retAddr 0, .retAddr 0], [.int (nI 6), .int (nI (dep k))], (0, 0), hA h a f)) rfl ?_
    refine ab_W.itF (mm _) (p := (nI 6) ≤ (nI (dep k))) (c1 := (30, [.ref a, .long N, .retAddr 0, .int (nI (beg k)), .int (nI (dep k)), .retAddr 0, .retAddr 0], [], (0, 0), hA h a f)) (c2 := (7, [.ref a, .long N, .retAddr 0, .int (nI (beg k)), .int (nI (dep k)), .retAddr 0, .retAddr 0], [], (0, 0), hA h a f)) rfl (fun z => absurd ((nI_leI (by omega) (by omega)).mp z) (by omega)) ?_
    refine ab_W.go (mm _) 3 (c' := (11, [.ref a, .long N, .retAddr 0, .int (nI (beg k)), .int (nI (dep k)), .retAddr 0, .retAddr 0], [.int (nI (dep k)), .int (nI (beg k)), .long N], (0, 0), hA h a f)) rfl ?_
    refine ab_W.call (mm _) (k := 23) (av := [.int (nI (beg k)), .int (nI (dep k))]) (c' := (14, [.ref a, .long N, .retAddr 0, .int (nI (beg k)), .int (nI (dep k)), .retAddr 0, .retAddr 0], [.long N], (0, 0), hA h a f)) rfl ?_
    refine sp_cellsOf (x + 2) h1 hk ?_
    show ab_W _ _ _ (14, [.ref a, .long N, .retAddr 0, .int (nI (beg k)), .int (nI (dep k)), .retAddr 0, .retAddr 0], [.long (msk k), .long N], (0, 0), hA h a f)
    refine ab_W.go (mm _) 3 (c' := (17, [.ref a, .long N, .retAddr 0, .int (nI (beg k)), .int (nI (dep k)), .retAddr 0, .retAddr 0], [.int (lg_cmp (N &&& (msk k)) (lN 0))], (0, 0), hA h a f)) rfl ?_
    refine ab_W.ite (mm _) (p := (lg_cmp (N &&& (msk k)) (lN 0)) = 0) (c1 := (30, [.ref a, .long N, .retAddr 0, .int (nI (beg k)), .int (nI (dep k)), .retAddr 0, .retAddr 0], [], (0, 0), hA h a f)) (c2 := (20, [.ref a, .long N, .retAddr 0, .int (nI (beg k)), .int (nI (dep k)), .retAddr 0, .retAddr 0], [], (0, 0), hA h a f)) rfl (fun q1 => ?_) (fun q1 => ?_)
    · skip
      have q1 := (lg_cmp0 _ _).mp q1
      rw [and_comm64] at q1
      refine ab_W.ret (mm _) (v := none) rfl ?_
      rw [show fl N (n + 1) k f = f from ci_t (Or.inl (fun z => z q1))] at hp
      exact hp
    · skip
      have q1 : hits N k := fun z => q1 ((lg_cmp0 _ _).mpr (by rw [and_comm64]; exact z))
      refine ab_W.go (mm _) 3 (c' := (24, [.ref a, .long N, .retAddr 0, .int (nI (beg k)), .int (nI (dep k)), .retAddr 0, .retAddr 0], [.int (nI (dep k)), .int (nI (beg k)), .ref a], (0, 0), hA h a f)) rfl ?_
      refine ab_W.call (mm _) (k := 32) (av := [.ref a, .int (nI (beg k)), .int (nI (dep k))]) (c' := (27, [.ref a, .long N, .retAddr 0, .int (nI (beg k)), .int (nI (dep k)), .retAddr 0, .retAddr 0], [], (0, 0), hA h a f)) rfl ?_
      refine sp_isAlike (x + 2) (hA_at ha) h1 hk (fun v hv => ?_)
      rcases hv with ⟨q2, rfl⟩ | ⟨q2, rfl⟩
      · skip
        show ab_W _ _ _ (27, [.ref a, .long N, .retAddr 0, .int (nI (beg k)), .int (nI (dep k)), .retAddr 0, .retAddr 0], [.int (nI 1)], (0, 0), hA h a f)
        refine ab_W.itF (mm _) (p := (nI 1) = 0) (c1 := (31, [.ref a, .long N, .retAddr 0, .int (nI (beg k)), .int (nI (dep k)), .retAddr 0, .retAddr 0], [], (0, 0), hA h a f)) (c2 := (30, [.ref a, .long N, .retAddr 0, .int (nI (beg k)), .int (nI (dep k)), .retAddr 0, .retAddr 0], [], (0, 0), hA h a f)) rfl (nI_ne01) ?_
        refine ab_W.ret (mm _) (v := none) rfl ?_
        rw [show fl N (n + 1) k f = f from ci_t (Or.inr q2)] at hp
        exact hp
      · skip
        show ab_W _ _ _ (27, [.ref a, .long N, .retAddr 0, .int (nI (beg k)), .int (nI (dep k)), .retAddr 0, .retAddr 0], [.int (nI 0)], (0, 0), hA h a f)
        refine ab_W.itT (mm _) (p := (nI 0) = 0) (c1 := (31, [.ref a, .long N, .retAddr 0, .int (nI (beg k)), .int (nI (dep k)), .retAddr 0, .retAddr 0], [], (0, 0), hA h a f)) (c2 := (30, [.ref a, .long N, .retAddr 0, .int (nI (beg k)), .int (nI (dep k)), .retAddr 0, .retAddr 0], [], (0, 0), hA h a f)) rfl (nI_0) ?_
        have hno : ¬ (¬ hits N k ∨ alk f k) := fun z => z.elim (fun y => y q1) q2
        refine ab_W.go (mm _) 3 (c' := (35, [.ref a, .long N, .retAddr 0, .int (nI (beg k)), .int (nI (dep k)), .retAddr 0, .retAddr 0], [.int ((nI (dep k)) + (nI 1))], (0, 0), hA h a f)) rfl ?_
        refine ab_W.topi (nI_add (dep k) 1) ?_
        refine ab_W.go (mm _) 3 (c' := (40, [.ref a, .long N, .retAddr 0, .int (nI (beg k)), .int (nI (dep k)), .int (nI ((dep k) + 1)), .retAddr 0], [.int (nI (dep k)), .int (nI (beg k))], (0, 0), hA h a f)) rfl ?_
        refine ab_W.call (mm _) (k := 24) (av := [.int (nI (beg k)), .int (nI (dep k))]) (c' := (43, [.ref a, .long N, .retAddr 0, .int (nI (beg k)), .int (nI (dep k)), .int (nI ((dep k) + 1)), .retAddr 0], [], (0, 0), hA h a f)) rfl ?_
        refine sp_upperFirst (x + 2) h1 hk64 ?_
        show ab_W _ _ _ (43, [.ref a, .long N, .retAddr 0, .int (nI (beg k)), .int (nI (dep k)), .int (nI ((dep k) + 1)), .retAddr 0], [.int (nI (beg (2 * k + 1)))], (0, 0), hA h a f)
        refine ab_W.go (mm _) 4 (c' := (49, [.ref a, .long N, .retAddr 0, .int (nI (beg k)), .int (nI (dep k)), .int (nI ((dep k) + 1)), .int (nI (beg (2 * k + 1)))], [.int (nI (dep k)), .int (nI (beg k)), .long N], (0, 0), hA h a f)) rfl ?_
        refine ab_W.call (mm _) (k := 26) (av := [.long N, .int (nI (beg k)), .int (nI (dep k))]) (c' := (52, [.ref a, .long N, .retAddr 0, .int (nI (beg k)), .int (nI (dep k)), .int (nI (dep k + 1)), .int (nI (beg (2 * k + 1)))], [], (0, 0), hA h a f)) rfl ?_
        refine sp_liesIn (x + 1) h1 hk (fun v hv => ?_)
        rcases hv with ⟨q3, rfl⟩ | ⟨q3, rfl⟩
        · skip
          show ab_W _ _ _ (52, [.ref a, .long N, .retAddr 0, .int (nI (beg k)), .int (nI (dep k)), .int (nI (dep k + 1)), .int (nI (beg (2 * k + 1)))], [.int (nI 1)], (0, 0), hA h a f)
          refine ab_W.itF (mm _) (p := (nI 1) = 0) (c1 := (72, [.ref a, .long N, .retAddr 0, .int (nI (beg k)), .int (nI (dep k)), .int (nI (dep k + 1)), .int (nI (beg (2 * k + 1)))], [], (0, 0), hA h a f)) (c2 := (55, [.ref a, .long N, .retAddr 0, .int (nI (beg k)), .int (nI (dep k)), .int (nI (dep k + 1)), .int (nI (beg (2 * k + 1)))], [], (0, 0), hA h a f)) rfl (nI_ne01) ?_
          refine ab_W.go (mm _) 6 (c' := (63, [.ref a, .long N, .retAddr 0, .int (nI (beg k)), .int (nI (dep k)), .int (nI (dep k + 1)), .int (nI (beg (2 * k + 1)))], [.int (nI (dep k)), .int (nI (beg k)), .ref a, .int (nI (dep k)), .int (nI (beg k)), .ref a], (0, 0), hA h a f)) rfl ?_
          refine ab_W.call (mm _) (k := 33) (av := [.ref a, .int (nI (beg k)), .int (nI (dep k))]) (c' := (66, [.ref a, .long N, .retAddr 0, .int (nI (beg k)), .int (nI (dep k)), .int (nI (dep k + 1)), .int (nI (beg (2 * k + 1)))], [.int (nI (dep k)), .int (nI (beg k)), .ref a], (0, 0), hA h a f)) rfl ?_
          refine sp_greatestOf (x + 2) (hA_at ha) h1 hk ?_
          show ab_W _ _ _ (66, [.ref a, .long N, .retAddr 0, .int (nI (beg k)), .int (nI (dep k)), .int (nI (dep k + 1)), .int (nI (beg (2 * k + 1)))], [.int (mx f k), .int (nI (dep k)), .int (nI (beg k)), .ref a], (0, 0), hA h a f)
          refine ab_W.call (mm _) (k := 35) (av := [.ref a, .int (nI (beg k)), .int (nI (dep k)), .int (mx f k)]) (c' := (69, [.ref a, .long N, .retAddr 0, .int (nI (beg k)), .int (nI (dep k)), .int (nI (dep k + 1)), .int (nI (beg (2 * k + 1)))], [], (0, 0), hA h a f)) rfl ?_
          refine sp_level (x + 2) ha h1 hk ?_
          show ab_W _ _ _ (69, [.ref a, .long N, .retAddr 0, .int (nI (beg k)), .int (nI (dep k)), .int (nI (dep k + 1)), .int (nI (beg (2 * k + 1)))], [], (0, 0), hA h a (lev f k (mx f k)))
          refine ab_W.go (mm _) 1 (c' := (151, [.ref a, .long N, .retAddr 0, .int (nI (beg k)), .int (nI (dep k)), .int (nI (dep k + 1)), .int (nI (beg (2 * k + 1)))], [], (0, 0), hA h a (lev f k (mx f k)))) rfl ?_
          refine ab_W.ret (mm _) (v := none) rfl ?_
          rw [show fl N (n + 1) k f = _ from (ci_f hno).trans (ci_t q3)] at hp
          exact hp
        · skip
          show ab_W _ _ _ (52, [.ref a, .long N, .retAddr 0, .int (nI (beg k)), .int (nI (dep k)), .int (nI (dep k + 1)), .int (nI (beg (2 * k + 1)))], [.int (nI 0)], (0, 0), hA h a f)
          refine ab_W.itT (mm _) (p := (nI 0) = 0) (c1 := (72, [.ref a, .long N, .retAddr 0, .int (nI (beg k)), .int (nI (dep k)), .int (nI (dep k + 1)), .int (nI (beg (2 * k + 1)))], [], (0, 0), hA h a f)) (c2 := (55, [.ref a, .long N, .retAddr 0, .int (nI (beg k)), .int (nI (dep k)), .int (nI (dep k + 1)), .int (nI (beg (2 * k + 1)))], [], (0, 0), hA h a f)) rfl (nI_0) ?_
          refine ab_W.go (mm _) 3 (c' := (76, [.ref a, .long N, .retAddr 0, .int (nI (beg k)), .int (nI (dep k)), .int (nI (dep k + 1)), .int (nI (beg (2 * k + 1)))], [.int (nI (dep k + 1)), .int (nI (beg k)), .long N], (0, 0), hA h a f)) rfl ?_
          rw [← e1]
          show ab_W _ _ _ (76, [.ref a, .long N, .retAddr 0, .int (nI (beg k)), .int (nI (dep k)), .int (nI (dep (2 * k))), .int (nI (beg (2 * k + 1)))], [.int (nI (dep (2 * k))), .int (nI (beg k)), .long N], (0, 0), hA h a f)
          refine ab_W.call (mm _) (k := 26) (av := [.long N, .int (nI (beg k)), .int (nI (dep (2 * k)))]) (c' := (79, [.ref a, .long N, .retAddr 0, .int (nI (beg k)), .int (nI (dep k)), .int (nI (dep (2 * k))), .int (nI (beg (2 * k + 1)))], [], (0, 0), hA h a f)) rfl ?_
          have eb : nI (beg k) = nI (beg (2 * k)) := by rw [e3]
          have ed : nI (dep (2 * k)) = nI (dep (2 * k + 1)) := by rw [e1, e2]
          rw [eb]
          refine sp_liesIn (x + 1) (k := 2 * k) (by omega) (by omega) (fun v hv => ?_)
          rcases hv with ⟨q4, rfl⟩ | ⟨q4, rfl⟩
          · skip
            show ab_W _ _ _ (79, [.ref a, .long N, .retAddr 0, .int (nI (beg (2 * k))), .int (nI (dep k)), .int (nI (dep (2 * k))), .int (nI (beg (2 * k + 1)))], [.int (nI 1)], (0, 0), hA h a f)
            refine ab_W.itF (mm _) (p := (nI 1) = 0) (c1 := (103, [.ref a, .long N, .retAddr 0, .int (nI (beg (2 * k))), .int (nI (dep k)), .int (nI (dep (2 * k))), .int (nI (beg (2 * k + 1)))], [], (0, 0), hA h a f)) (c2 := (82, [.ref a, .long N, .retAddr 0, .int (nI (beg (2 * k))), .int (nI (dep k)), .int (nI (dep (2 * k))), .int (nI (beg (2 * k + 1)))], [], (0, 0), hA h a f)) rfl (nI_ne01) ?_
            refine ab_W.go (mm _) 4 (c' := (88, [.ref a, .long N, .retAddr 0, .int (nI (beg (2 * k))), .int (nI (dep k)), .int (nI (dep (2 * k))), .int (nI (beg (2 * k + 1)))], [.int (nI (dep (2 * k))), .int (nI (beg (2 * k + 1))), .long N, .ref a], (0, 0), hA h a f)) rfl ?_
            refine ab_W.call (mm _) (k := 14) (av := [.ref a, .long N, .int (nI (beg (2 * k + 1))), .int (nI (dep (2 * k)))]) (c' := (91, [.ref a, .long N, .retAddr 0, .int (nI (beg (2 * k))), .int (nI (dep k)), .int (nI (dep (2 * k))), .int (nI (beg (2 * k + 1)))], [], (0, 0), hA h a f)) rfl ?_
            rw [ed]
            refine ih (2 * k + 1) (by omega) (by omega) (by omega) (x + 4) (by omega) f ?_
            rw [← ed]
            show ab_W _ _ _ (91, [.ref a, .long N, .retAddr 0, .int (nI (beg (2 * k))), .int (nI (dep k)), .int (nI (dep (2 * k))), .int (nI (beg (2 * k + 1)))], [], (0, 0), hA h a (fl N n (2 * k + 1) f))
            refine ab_W.go (mm _) 4 (c' := (97, [.ref a, .long N, .retAddr 0, .int (nI (beg (2 * k))), .int (nI (dep k)), .int (nI (dep (2 * k))), .int (nI (beg (2 * k + 1)))], [.int (nI (dep (2 * k))), .int (nI (beg (2 * k + 1))), .int (nI (beg (2 * k))), .ref a], (0, 0), hA h a (fl N n (2 * k + 1) f))) rfl ?_
            refine ab_W.call (mm _) (k := 15) (av := [.ref a, .int (nI (beg (2 * k))), .int (nI (beg (2 * k + 1))), .int (nI (dep (2 * k)))]) (c' := (100, [.ref a, .long N, .retAddr 0, .int (nI (beg (2 * k))), .int (nI (dep k)), .int (nI (dep (2 * k))), .int (nI (beg (2 * k + 1)))], [], (0, 0), hA h a (fl N n (2 * k + 1) f))) rfl ?_
            refine sp_lift (x + 1) ha (own := 2 * k) (oth := 2 * k + 1) (by omega) (by omega) (by omega) (by omega) rfl (by rw [e1, e2]) ?_
            show ab_W _ _ _ (100, [.ref a, .long N, .retAddr 0, .int (nI (beg (2 * k))), .int (nI (dep k)), .int (nI (dep (2 * k))), .int (nI (beg (2 * k + 1)))], [], (0, 0), hA h a (lft (fl N n (2 * k + 1) f) (2 * k) (2 * k + 1)))
            refine ab_W.go (mm _) 1 (c' := (151, [.ref a, .long N, .retAddr 0, .int (nI (beg (2 * k))), .int (nI (dep k)), .int (nI (dep (2 * k))), .int (nI (beg (2 * k + 1)))], [], (0, 0), hA h a (lft (fl N n (2 * k + 1) f) (2 * k) (2 * k + 1)))) rfl ?_
            refine ab_W.ret (mm _) (v := none) rfl ?_
            rw [show fl N (n + 1) k f = _ from (ci_f hno).trans ((ci_f q3).trans (ci_t q4))] at hp
            exact hp
          · skip
            show ab_W _ _ _ (79, [.ref a, .long N, .retAddr 0, .int (nI (beg (2 * k))), .int (nI (dep k)), .int (nI (dep (2 * k))), .int (nI (beg (2 * k + 1)))], [.int (nI 0)], (0, 0), hA h a f)
            refine ab_W.itT (mm _) (p := (nI 0) = 0) (c1 := (103, [.ref a, .long N, .retAddr 0, .int (nI (beg (2 * k))), .int (nI (dep k)), .int (nI (dep (2 * k))), .int (nI (beg (2 * k + 1)))], [], (0, 0), hA h a f)) (c2 := (82, [.ref a, .long N, .retAddr 0, .int (nI (beg (2 * k))), .int (nI (dep k)), .int (nI (dep (2 * k))), .int (nI (beg (2 * k + 1)))], [], (0, 0), hA h a f)) rfl (nI_0) ?_
            refine ab_W.go (mm _) 3 (c' := (108, [.ref a, .long N, .retAddr 0, .int (nI (beg (2 * k))), .int (nI (dep k)), .int (nI (dep (2 * k))), .int (nI (beg (2 * k + 1)))], [.int (nI (dep (2 * k))), .int (nI (beg (2 * k + 1))), .long N], (0, 0), hA h a f)) rfl ?_
            refine ab_W.call (mm _) (k := 26) (av := [.long N, .int (nI (beg (2 * k + 1))), .int (nI (dep (2 * k)))]) (c' := (111, [.ref a, .long N, .retAddr 0, .int (nI (beg (2 * k))), .int (nI (dep k)), .int (nI (dep (2 * k))), .int (nI (beg (2 * k + 1)))], [], (0, 0), hA h a f)) rfl ?_
            rw [ed]
            refine sp_liesIn (x + 1) (k := 2 * k + 1) (by omega) (by omega) (fun v hv => ?_)
            rw [← ed]
            rcases hv with ⟨q5, rfl⟩ | ⟨q5, rfl⟩
            · skip
              show ab_W _ _ _ (111, [.ref a, .long N, .retAddr 0, .int (nI (beg (2 * k))), .int (nI (dep k)), .int (nI (dep (2 * k))), .int (nI (beg (2 * k + 1)))], [.int (nI 1)], (0, 0), hA h a f)
              refine ab_W.itF (mm _) (p := (nI 1) = 0) (c1 := (134, [.ref a, .long N, .retAddr 0, .int (nI (beg (2 * k))), .int (nI (dep k)), .int (nI (dep (2 * k))), .int (nI (beg (2 * k + 1)))], [], (0, 0), hA h a f)) (c2 := (114, [.ref a, .long N, .retAddr 0, .int (nI (beg (2 * k))), .int (nI (dep k)), .int (nI (dep (2 * k))), .int (nI (beg (2 * k + 1)))], [], (0, 0), hA h a f)) rfl (nI_ne01) ?_
              refine ab_W.go (mm _) 4 (c' := (119, [.ref a, .long N, .retAddr 0, .int (nI (beg (2 * k))), .int (nI (dep k)), .int (nI (dep (2 * k))), .int (nI (beg (2 * k + 1)))], [.int (nI (dep (2 * k))), .int (nI (beg (2 * k))), .long N, .ref a], (0, 0), hA h a f)) rfl ?_
              refine ab_W.call (mm _) (k := 14) (av := [.ref a, .long N, .int (nI (beg (2 * k))), .int (nI (dep (2 * k)))]) (c' := (122, [.ref a, .long N, .retAddr 0, .int (nI (beg (2 * k))), .int (nI (dep k)), .int (nI (dep (2 * k))), .int (nI (beg (2 * k + 1)))], [], (0, 0), hA h a f)) rfl ?_
              refine ih (2 * k) (by omega) (by omega) (by omega) (x + 4) (by omega) f ?_
              show ab_W _ _ _ (122, [.ref a, .long N, .retAddr 0, .int (nI (beg (2 * k))), .int (nI (dep k)), .int (nI (dep (2 * k))), .int (nI (beg (2 * k + 1)))], [], (0, 0), hA h a (fl N n (2 * k) f))
              refine ab_W.go (mm _) 4 (c' := (128, [.ref a, .long N, .retAddr 0, .int (nI (beg (2 * k))), .int (nI (dep k)), .int (nI (dep (2 * k))), .int (nI (beg (2 * k + 1)))], [.int (nI (dep (2 * k))), .int (nI (beg (2 * k))), .int (nI (beg (2 * k + 1))), .ref a], (0, 0), hA h a (fl N n (2 * k) f))) rfl ?_
              refine ab_W.call (mm _) (k := 15) (av := [.ref a, .int (nI (beg (2 * k + 1))), .int (nI (beg (2 * k))), .int (nI (dep (2 * k)))]) (c' := (131, [.ref a, .long N, .retAddr 0, .int (nI (beg (2 * k))), .int (nI (dep k)), .int (nI (dep (2 * k))), .int (nI (beg (2 * k + 1)))], [], (0, 0), hA h a (fl N n (2 * k) f))) rfl ?_
              refine sp_lift (x + 1) ha (own := 2 * k + 1) (oth := 2 * k) (by omega) (by omega) (by omega) (by omega) (by rw [e1, e2]) rfl ?_
              show ab_W _ _ _ (131, [.ref a, .long N, .retAddr 0, .int (nI (beg (2 * k))), .int (nI (dep k)), .int (nI (dep (2 * k))), .int (nI (beg (2 * k + 1)))], [], (0, 0), hA h a (lft (fl N n (2 * k) f) (2 * k + 1) (2 * k)))
              refine ab_W.go (mm _) 1 (c' := (151, [.ref a, .long N, .retAddr 0, .int (nI (beg (2 * k))), .int (nI (dep k)), .int (nI (dep (2 * k))), .int (nI (beg (2 * k + 1)))], [], (0, 0), hA h a (lft (fl N n (2 * k) f) (2 * k + 1) (2 * k)))) rfl ?_
              refine ab_W.ret (mm _) (v := none) rfl ?_
              rw [show fl N (n + 1) k f = _ from (ci_f hno).trans ((ci_f q3).trans ((ci_f q4).trans (ci_t q5)))] at hp
              exact hp
            · skip
              show ab_W _ _ _ (111, [.ref a, .long N, .retAddr 0, .int (nI (beg (2 * k))), .int (nI (dep k)), .int (nI (dep (2 * k))), .int (nI (beg (2 * k + 1)))], [.int (nI 0)], (0, 0), hA h a f)
              refine ab_W.itT (mm _) (p := (nI 0) = 0) (c1 := (134, [.ref a, .long N, .retAddr 0, .int (nI (beg (2 * k))), .int (nI (dep k)), .int (nI (dep (2 * k))), .int (nI (beg (2 * k + 1)))], [], (0, 0), hA h a f)) (c2 := (114, [.ref a, .long N, .retAddr 0, .int (nI (beg (2 * k))), .int (nI (dep k)), .int (nI (dep (2 * k))), .int (nI (beg (2 * k + 1)))], [], (0, 0), hA h a f)) rfl (nI_0) ?_
              refine ab_W.go (mm _) 4 (c' := (139, [.ref a, .long N, .retAddr 0, .int (nI (beg (2 * k))), .int (nI (dep k)), .int (nI (dep (2 * k))), .int (nI (beg (2 * k + 1)))], [.int (nI (dep (2 * k))), .int (nI (beg (2 * k))), .long N, .ref a], (0, 0), hA h a f)) rfl ?_
              refine ab_W.call (mm _) (k := 14) (av := [.ref a, .long N, .int (nI (beg (2 * k))), .int (nI (dep (2 * k)))]) (c' := (142, [.ref a, .long N, .retAddr 0, .int (nI (beg (2 * k))), .int (nI (dep k)), .int (nI (dep (2 * k))), .int (nI (beg (2 * k + 1)))], [], (0, 0), hA h a f)) rfl ?_
              refine ih (2 * k) (by omega) (by omega) (by omega) (x + 4) (by omega) f ?_
              show ab_W _ _ _ (142, [.ref a, .long N, .retAddr 0, .int (nI (beg (2 * k))), .int (nI (dep k)), .int (nI (dep (2 * k))), .int (nI (beg (2 * k + 1)))], [], (0, 0), hA h a (fl N n (2 * k) f))
              refine ab_W.go (mm _) 4 (c' := (148, [.ref a, .long N, .retAddr 0, .int (nI (beg (2 * k))), .int (nI (dep k)), .int (nI (dep (2 * k))), .int (nI (beg (2 * k + 1)))], [.int (nI (dep (2 * k))), .int (nI (beg (2 * k + 1))), .long N, .ref a], (0, 0), hA h a (fl N n (2 * k) f))) rfl ?_
              refine ab_W.call (mm _) (k := 14) (av := [.ref a, .long N, .int (nI (beg (2 * k + 1))), .int (nI (dep (2 * k)))]) (c' := (151, [.ref a, .long N, .retAddr 0, .int (nI (beg (2 * k))), .int (nI (dep k)), .int (nI (dep (2 * k))), .int (nI (beg (2 * k + 1)))], [], (0, 0), hA h a (fl N n (2 * k) f))) rfl ?_
              rw [ed]
              refine ih (2 * k + 1) (by omega) (by omega) (by omega) (x + 4) (by omega) (fl N n (2 * k) f) ?_
              rw [← ed]
              show ab_W _ _ _ (151, [.ref a, .long N, .retAddr 0, .int (nI (beg (2 * k))), .int (nI (dep k)), .int (nI (dep (2 * k))), .int (nI (beg (2 * k + 1)))], [], (0, 0), hA h a (fl N n (2 * k + 1) (fl N n (2 * k) f)))
              refine ab_W.ret (mm _) (v := none) rfl ?_
              rw [show fl N (n + 1) k f = _ from (ci_f hno).trans ((ci_f q3).trans ((ci_f q4).trans (ci_f q5)))] at hp
              exact hp
end
section
/-! pieces of a name; the class's rows on them -/
noncomputable def alD (f : Nat → Int32) (c δ : Nat) : Nat → Nat
  | 0 => δ
  | n + 1 => ci (alk f (anc c (δ - (n + 1)))) (δ - (n + 1)) (alD f c δ n)
theorem alD_le (f : Nat → Int32) (c δ : Nat) : ∀ n, alD f c δ n ≤ δ := by
  intro n
  induction n with
  | zero => exact Nat.le_refl _
  | succ n ih =>
    by_cases h : alk f (anc c (δ - (n + 1)))
    · rw [show alD f c δ (n + 1) = _ from ci_t h]; omega
    · rw [show alD f c δ (n + 1) = _ from ci_f h]; exact ih
noncomputable def wid (f : Nat → Int32) (k : Nat) : Nat := alD f (beg k) (dep k) (dep k)
noncomputable def cst (f : Nat → Int32) (k : Nat) : Nat := dep k + 1000 * (dep k - wid f k)
theorem wid_le (f : Nat → Int32) (k : Nat) : wid f k ≤ dep k := alD_le f _ _ _
theorem sp_alikeDepth (d : Nat) {h : ab_H} {a k : Nat} {f : Nat → Int32} (ha : h[a]? = some (.inl (0, 64, .inl f))) (h1 : 1 ≤ k) (hk : k < 128) {post : ab_P} (hp : post (some (.int (nI (wid f k)))) h) : mCC (d + 3) kSpan_alikeDepth [.ref a, .int (nI (beg k)), .int (nI (dep k))] h post := by
  obtain ⟨s1, s2, s3, s4⟩ := sp_le k hk h1
  have loop : ∀ i, i ≤ dep k → post (some (.int (nI (alD f (beg k) (dep k) (dep k - i))))) h → ab_W (ab_st (mT kSpan_alikeDepth) mB mF (mR kSpan_alikeDepth) none) (mCC (d + 2)) post (2, [.ref a, .int (nI (beg k)), .int (nI (dep k)), .int (nI i)], [], (0, 0), h) := by
    refine down (dep k) ?_ ?_
    · intro hp
      rw [Nat.sub_self] at hp
      refine ab_W.go (mm _) 2 (c' := (4, [.ref a, .int (nI (beg k)), .int (nI (dep k)), .int (nI (dep k))], [.int (nI (dep k)), .int (nI (dep k))], (0, 0), h)) rfl ?_
      refine ab_W.itT (mm _) (p := (nI (dep k)) ≤ (nI (dep k))) (c1 := (28, [.ref a, .int (nI (beg k)), .int (nI (dep k)), .int (nI (dep k))], [], (0, 0), h)) (c2 := (7, [.ref a, .int (nI (beg k)), .int (nI (dep k)), .int (nI (dep k))], [], (0, 0), h)) rfl ((nI_leI (by omega) (by omega)).mpr (Nat.le_refl _)) ?_
      refine ab_W.go (mm _) 1 (c' := (29, [.ref a, .int (nI (beg k)), .int (nI (dep k)), .int (nI (dep k))], [.int (nI (dep k))], (0, 0), h)) rfl ?_
      refine ab_W.retI (mm _) (rt := some .int) (v := nI (dep k)) rfl rfl ?_
      exact hp
    · intro i hi ih hp
      refine ab_W.go (mm _) 2 (c' := (4, [.ref a, .int (nI (beg k)), .int (nI (dep k)), .int (nI i)], [.int (nI (dep k)), .int (nI i)], (0, 0), h)) rfl ?_
      refine ab_W.itF (mm _) (p := (nI (dep k)) ≤ (nI i)) (c1 := (28, [.ref a, .int (nI (beg k)), .int (nI (dep k)), .int (nI i)], [], (0, 0), h)) (c2 := (7, [.ref a, .int (nI (beg k)), .int (nI (dep k)), .int (nI i)], [], (0, 0), h)) rfl (fun z => absurd ((nI_leI (by omega) (by omega)).mp z) (by omega)) ?_
      refine ab_W.go (mm _) 3 (c' := (10, [.ref a, .int (nI (beg k)), .int (nI (dep k)), .int (nI i)], [.int (nI i), .int (nI (beg k)), .ref a], (0, 0), h)) rfl ?_
      obtain ⟨a1, a2, a3, a4, a5⟩ := anc_ok i (by omega) (beg k) s4
      refine ab_W.call (mm _) (k := 25) (av := [.int (nI (beg k)), .int (nI i)]) (c' := (13, [.ref a, .int (nI (beg k)), .int (nI (dep k)), .int (nI i)], [.ref a], (0, 0), h)) rfl ?_
      refine sp_firstAround _ s4 (by omega) ?_
      show ab_W _ _ _ (13, [.ref a, .int (nI (beg k)), .int (nI (dep k)), .int (nI i)], [.int (nI (beg (anc (beg k) i))), .ref a], (0, 0), h)
      refine ab_W.go (mm _) 1 (c' := (14, [.ref a, .int (nI (beg k)), .int (nI (dep k)), .int (nI i)], [.int (nI i), .int (nI (beg (anc (beg k) i))), .ref a], (0, 0), h)) rfl ?_
      refine ab_W.call (mm _) (k := 32) (av := [.ref a, .int (nI (beg (anc (beg k) i))), .int (nI i)]) (c' := (17, [.ref a, .int (nI (beg k)), .int (nI (dep k)), .int (nI i)], [], (0, 0), h)) rfl ?_
      have ei : nI i = nI (dep (anc (beg k) i)) := by rw [a3]
      rw [show dep k - i = (dep k - (i + 1)) + 1 by omega] at hp
      have hi2 : dep k - ((dep k - (i + 1)) + 1) = i := by omega
      have key : mCC (d + 2) kSpan_isAlike [.ref a, .int (nI (beg (anc (beg k) i))), .int (nI (dep (anc (beg k) i)))] h (fun v h' => ab_W (ab_st (mT kSpan_alikeDepth) mB mF (mR kSpan_alikeDepth) none) (mCC (d + 2)) post (17, [.ref a, .int (nI (beg k)), .int (nI (dep k)), .int (nI i)], v.toList ++ [], (0, 0), h')) := by
        refine sp_isAlike d ha a1 a2 (fun v hv => ?_)
        rcases hv with ⟨q2, rfl⟩ | ⟨q2, rfl⟩
        · rw [show alD f (beg k) (dep k) ((dep k - (i + 1)) + 1) = i from (ci_t (by rw [hi2]; exact q2)).trans hi2] at hp
          show ab_W _ _ _ (17, [.ref a, .int (nI (beg k)), .int (nI (dep k)), .int (nI i)], [.int (nI 1)], (0, 0), h)
          refine ab_W.itF (mm _) (p := (nI 1) = 0) (c1 := (22, [.ref a, .int (nI (beg k)), .int (nI (dep k)), .int (nI i)], [], (0, 0), h)) (c2 := (20, [.ref a, .int (nI (beg k)), .int (nI (dep k)), .int (nI i)], [], (0, 0), h)) rfl (nI_ne01) ?_
          refine ab_W.go (mm _) 1 (c' := (21, [.ref a, .int (nI (beg k)), .int (nI (dep k)), .int (nI i)], [.int (nI i)], (0, 0), h)) rfl ?_
          refine ab_W.retI (mm _) (rt := some .int) (v := nI i) rfl rfl ?_
          exact hp
        · rw [show alD f (beg k) (dep k) ((dep k - (i + 1)) + 1) = alD f (beg k) (dep k) (dep k - (i + 1)) from ci_f (by rw [hi2]; exact q2)] at hp
          show ab_W _ _ _ (17, [.ref a, .int (nI (beg k)), .int (nI (dep k)), .int (nI i)], [.int (nI 0)], (0, 0), h)
          refine ab_W.itT (mm _) (p := (nI 0) = 0) (c1 := (22, [.ref a, .int (nI (beg k)), .int (nI (dep k)), .int (nI i)], [], (0, 0), h)) (c2 := (20, [.ref a, .int (nI (beg k)), .int (nI (dep k)), .int (nI i)], [], (0, 0), h)) rfl (nI_0) ?_
          refine ab_W.go (mm _) 1 (c' := (25, [.ref a, .int (nI (beg k)), .int (nI (dep k)), .int (nI i + nI 1)], [], (0, 0), h)) rfl ?_
          rw [nI_add i 1]
          refine ab_W.go (mm _) 1 (c' := (2, [.ref a, .int (nI (beg k)), .int (nI (dep k)), .int (nI (i + 1))], [], (0, 0), h)) rfl ?_
          exact ih hp
      rw [← ei] at key
      exact key
  refine ⟨rfl, ?_⟩
  show ab_W _ _ _ (0, [.ref a, .int (nI (beg k)), .int (nI (dep k)), .retAddr 0], [], (0, 0), h)
  refine ab_W.go (mm _) 2 (c' := (2, [.ref a, .int (nI (beg k)), .int (nI (dep k)), .int (nI 0)], [], (0, 0), h)) rfl ?_
  exact loop 0 (Nat.zero_le _) hp
def isP (N : Int64) (k : Nat) : Prop := lies N k ∧ (k = 1 ∨ ¬ lies N (k / 2))
theorem anc_sub : ∀ i, i ≤ 6 → ∀ j, j ≤ i → ∀ c, c < 64 → beg (anc c j) ≤ beg (anc c i) ∧ beg (anc c i) + siz (anc c i) ≤ beg (anc c j) + siz (anc c j) := by decide +kernel
theorem anc_0 : ∀ c, c < 64 → anc c 0 = 1 := by decide +kernel
theorem lies_anc {N : Int64} {c i j : Nat} (hc : c < 64) (hi : i ≤ 6) (hj : j ≤ i) (h : lies N (anc c j)) : lies N (anc c i) := by
  obtain ⟨a1, a2, a3, a4, a5⟩ := anc_ok i hi c hc
  obtain ⟨b1, b2, b3, b4, b5⟩ := anc_ok j (by omega) c hc
  obtain ⟨c1, c2⟩ := anc_sub i hi j hj c hc
  rw [lies_iff a1 a2]
  rw [lies_iff b1 b2] at h
  intro x hx
  exact h x ⟨by have := hx.1; omega, by have := hx.2; omega⟩
theorem isP_top {N : Int64} {k i : Nat} (h1 : 1 ≤ k) (hk : k < 128) (hp : isP N k) (hi : i < dep k) {c : Nat} (hc : c < 64) (hin : inK k c) : ¬ lies N (anc c i) := by
  obtain ⟨s1, s2, s3, s4⟩ := sp_le k hk h1
  intro hl
  have e := anc_of k hk h1 c hc hin.1 hin.2
  rcases hp.2 with q | q
  · have := (sp_dep0 k hk h1).mpr q
    omega
  · apply q
    have h2 := lies_anc hc (show dep k - 1 ≤ 6 by omega) (show i ≤ dep k - 1 by omega) hl
    have h3 := (anc_up c hc (dep k - 1) (by omega)).1
    rw [show dep k - 1 + 1 = dep k by omega, e] at h3
    rw [h3]
    exact h2
theorem isP_anc {N : Int64} {c i : Nat} (hc : c < 64) (hi : i ≤ 6) (hl : lies N (anc c i)) (hno : ∀ j, j < i → ¬ lies N (anc c j)) : isP N (anc c i) := by
  refine ⟨hl, ?_⟩
  rcases Nat.eq_zero_or_pos i with q | q
  · subst q
    exact Or.inl (anc_0 c hc)
  · right
    have h3 := (anc_up c hc (i - 1) (by omega)).1
    rw [show i - 1 + 1 = i by omega] at h3
    rw [h3]
    exact hno (i - 1) (by omega)
theorem inK_beg {k : Nat} (h1 : 1 ≤ k) (hk : k < 128) : inK k (beg k) := ⟨Nat.le_refl _, by have := sp_le k hk h1; omega⟩
/-- a cell has at most one piece around it -/
theorem isP_one {N : Int64} {k l c : Nat} (h1 : 1 ≤ k) (hk : k < 128) (g1 : 1 ≤ l) (gk : l < 128) (hp : isP N k) (gp : isP N l) (hc : inK k c) (gc : inK l c) : k = l := by
  have hc64 := inK_lt h1 hk hc
  have e := anc_of k hk h1 c hc64 hc.1 hc.2
  have e2 := anc_of l gk g1 c hc64 gc.1 gc.2
  rcases Nat.lt_trichotomy (dep k) (dep l) with q | q | q
  · exact absurd (by rw [e]; exact hp.1) (isP_top g1 gk gp q hc64 gc)
  · rw [← e, ← e2, q]
  · exact absurd (by rw [e2]; exact gp.1) (isP_top h1 hk hp q hc64 hc)
def pcAt (N : Int64) (c k : Nat) : Prop := 1 ≤ k ∧ k < 128 ∧ isP N k ∧ beg k = c
theorem sp_pieceDepth (d : Nat) {h : ab_H} {N : Int64} {c : Nat} (hc : c < 64) {post : ab_P} (hp : ∀ v : Int32, (∃ k, pcAt N c k ∧ v = nI (dep k)) ∨ ((¬ ∃ k, pcAt N c k) ∧ v = -(nI 6)) → post (some (.int v)) h) : mCC (d + 4) kSpan_pieceDepth [.long N, .int (nI c)] h post := by
  have loop : ∀ i, i ≤ 7 → (∀ j, j < i → ¬ lies N (anc c j)) → ∀ v4 : Value, ab_W (ab_st (mT kSpan_pieceDepth) mB mF (mR kSpan_pieceDepth) none) (mCC (d + 3)) post (2, [.long N, .retAddr 0, .int (nI c), .int (nI i), v4], [], (0, 0), h) := by
    refine down 7 ?_ ?_
    · intro hno v4
      refine ab_W.go (mm _) 2 (c' := (5, [.long N, .retAddr 0, .int (nI c), .int (nI 7), v4], [.int (nI 6), .int (nI 7)], (0, 0), h)) rfl ?_
      refine ab_W.itT (mm _) (p := (nI 6) < (nI 7)) (c1 := (44, [.long N, .retAddr 0, .int (nI c), .int (nI 7), v4], [], (0, 0), h)) (c2 := (8, [.long N, .retAddr 0, .int (nI c), .int (nI 7), v4], [], (0, 0), h)) rfl ((by decide)) ?_
      refine ab_W.go (mm _) 1 (c' := (46, [.long N, .retAddr 0, .int (nI c), .int (nI 7), v4], [.int (-(nI 6))], (0, 0), h)) rfl ?_
      refine ab_W.retI (mm _) (rt := some .int) (v := -(nI 6)) rfl rfl ?_
      refine hp _ (Or.inr ⟨?_, rfl⟩)
      rintro ⟨k, k1, k2, k3, k4⟩
      have e := anc_of k k2 k1 c hc (by omega) (by have := sp_le k k2 k1; omega)
      refine hno (dep k) (by have := (sp_le k k2 k1).1; omega) ?_
      rw [e]
      exact k3.1
    · intro i hi ih hno v4
      obtain ⟨a1, a2, a3, a4, a5⟩ := anc_ok i (by omega) c hc
      refine ab_W.go (mm _) 2 (c' := (5, [.long N, .retAddr 0, .int (nI c), .int (nI i), v4], [.int (nI 6), .int (nI i)], (0, 0), h)) rfl ?_
      refine ab_W.itF (mm _) (p := (nI 6) < (nI i)) (c1 := (44, [.long N, .retAddr 0, .int (nI c), .int (nI i), v4], [], (0, 0), h)) (c2 := (8, [.long N, .retAddr 0, .int (nI c), .int (nI i), v4], [], (0, 0), h)) rfl (fun z => absurd ((nI_ltI (by omega) (by omega)).mp z) (by omega)) ?_
      refine ab_W.go (mm _) 2 (c' := (10, [.long N, .retAddr 0, .int (nI c), .int (nI i), v4], [.int (nI i), .int (nI c)], (0, 0), h)) rfl ?_
      refine ab_W.call (mm _) (k := 25) (av := [.int (nI c), .int (nI i)]) (c' := (13, [.long N, .retAddr 0, .int (nI c), .int (nI i), v4], [], (0, 0), h)) rfl ?_
      refine sp_firstAround _ hc (by omega) ?_
      show ab_W _ _ _ (13, [.long N, .retAddr 0, .int (nI c), .int (nI i), v4], [.int (nI (beg (anc c i)))], (0, 0), h)
      refine ab_W.go (mm _) 4 (c' := (19, [.long N, .retAddr 0, .int (nI c), .int (nI i), .int (nI (beg (anc c i)))], [.int (nI i), .int (nI (beg (anc c i))), .long N], (0, 0), h)) rfl ?_
      refine ab_W.call (mm _) (k := 26) (av := [.long N, .int (nI (beg (anc c i))), .int (nI i)]) (c' := (22, [.long N, .retAddr 0, .int (nI c), .int (nI i), .int (nI (beg (anc c i)))], [], (0, 0), h)) rfl ?_
      have ei : nI i = nI (dep (anc c i)) := by rw [a3]
      have key : mCC (d + 3) kSpan_liesIn [.long N, .int (nI (beg (anc c i))), .int (nI (dep (anc c i)))] h (fun v h' => ab_W (ab_st (mT kSpan_pieceDepth) mB mF (mR kSpan_pieceDepth) none) (mCC (d + 3)) post (22, [.long N, .retAddr 0, .int (nI c), .int (nI i), .int (nI (beg (anc c i)))], v.toList ++ [], (0, 0), h')) := by
        refine sp_liesIn d a1 a2 (fun v hv => ?_)
        rcases hv with ⟨q2, rfl⟩ | ⟨q2, rfl⟩
        · skip
          show ab_W _ _ _ (22, [.long N, .retAddr 0, .int (nI c), .int (nI i), .int (nI (beg (anc c i)))], [.int (nI 1)], (0, 0), h)
          have hP := isP_anc hc (by omega) q2 hno
          refine ab_W.itF (mm _) (p := (nI 1) = 0) (c1 := (38, [.long N, .retAddr 0, .int (nI c), .int (nI i), .int (nI (beg (anc c i)))], [], (0, 0), h)) (c2 := (25, [.long N, .retAddr 0, .int (nI c), .int (nI i), .int (nI (beg (anc c i)))], [], (0, 0), h)) rfl (nI_ne01) ?_
          refine ab_W.go (mm _) 2 (c' := (28, [.long N, .retAddr 0, .int (nI c), .int (nI i), .int (nI (beg (anc c i)))], [.int (nI c), .int (nI (beg (anc c i)))], (0, 0), h)) rfl ?_
          refine ab_W.ite (mm _) (p := (nI (beg (anc c i))) = (nI c)) (c1 := (31, [.long N, .retAddr 0, .int (nI c), .int (nI i), .int (nI (beg (anc c i)))], [], (0, 0), h)) (c2 := (35, [.long N, .retAddr 0, .int (nI c), .int (nI i), .int (nI (beg (anc c i)))], [], (0, 0), h)) rfl (fun q3 => ?_) (fun q3 => ?_)
          · skip
            have q3 := (nI_eq (by omega) (by omega)).mp q3
            refine ab_W.go (mm _) 2 (c' := (37, [.long N, .retAddr 0, .int (nI c), .int (nI i), .int (nI (beg (anc c i)))], [.int (nI i)], (0, 0), h)) rfl ?_
            refine ab_W.retI (mm _) (rt := some .int) (v := nI i) rfl rfl ?_
            exact hp _ (Or.inl ⟨anc c i, ⟨a1, a2, hP, q3⟩, ei⟩)
          · skip
            have q3 : ¬ beg (anc c i) = c := fun z => q3 ((nI_eq (by omega) (by omega)).mpr z)
            refine ab_W.go (mm _) 1 (c' := (37, [.long N, .retAddr 0, .int (nI c), .int (nI i), .int (nI (beg (anc c i)))], [.int (-(nI 6))], (0, 0), h)) rfl ?_
            refine ab_W.retI (mm _) (rt := some .int) (v := -(nI 6)) rfl rfl ?_
            refine hp _ (Or.inr ⟨?_, rfl⟩)
            rintro ⟨k, k1, k2, k3, k4⟩
            have := isP_one k1 k2 a1 a2 k3 hP (c := c) (by rw [← k4]; exact inK_beg k1 k2) ⟨a4, a5⟩
            subst this
            exact q3 k4
        · skip
          show ab_W _ _ _ (22, [.long N, .retAddr 0, .int (nI c), .int (nI i), .int (nI (beg (anc c i)))], [.int (nI 0)], (0, 0), h)
          refine ab_W.itT (mm _) (p := (nI 0) = 0) (c1 := (38, [.long N, .retAddr 0, .int (nI c), .int (nI i), .int (nI (beg (anc c i)))], [], (0, 0), h)) (c2 := (25, [.long N, .retAddr 0, .int (nI c), .int (nI i), .int (nI (beg (anc c i)))], [], (0, 0), h)) rfl (nI_0) ?_
          refine ab_W.go (mm _) 1 (c' := (41, [.long N, .retAddr 0, .int (nI c), .int (nI i + nI 1), .int (nI (beg (anc c i)))], [], (0, 0), h)) rfl ?_
          rw [nI_add i 1]
          refine ab_W.go (mm _) 1 (c' := (2, [.long N, .retAddr 0, .int (nI c), .int (nI (i + 1)), .int (nI (beg (anc c i)))], [], (0, 0), h)) rfl ?_
          exact ih (fun j hj => by
            rcases Nat.lt_or_ge j i with z | z
            · exact hno j z
            · rw [show j = i by omega]; exact q2) _
      rw [← ei] at key
      exact key
  refine ⟨rfl, ?_⟩
  show ab_W _ _ _ (0, [.long N, .retAddr 0, .int (nI c), .retAddr 0, .retAddr 0], [], (0, 0), h)
  refine ab_W.go (mm _) 2 (c' := (2, [.long N, .retAddr 0, .int (nI c), .int (nI 0), .retAddr 0], [], (0, 0), h)) rfl ?_
  exact loop 0 (Nat.zero_le _) (fun j hj => absurd hj (Nat.not_lt_zero j)) _
/-! counting -/
noncomputable def cn (p : Nat → Prop) : Nat → Nat
  | 0 => 0
  | i + 1 => cn p i + ci (p i) 1 0
theorem cn_t {p : Nat → Prop} {i : Nat} (h : p i) : cn p (i + 1) = cn p i + 1 := by
  show cn p i + ci (p i) 1 0 = _
  rw [ci_t h]
theorem cn_f {p : Nat → Prop} {i : Nat} (h : ¬ p i) : cn p (i + 1) = cn p i := by
  show cn p i + ci (p i) 1 0 = _
  rw [ci_f h]
  rfl
theorem cn_le (p : Nat → Prop) : ∀ n, cn p n ≤ n := by
  intro n
  induction n with
  | zero => exact Nat.le_refl _
  | succ n ih =>
    by_cases h : p n
    · rw [cn_t h]; omega
    · rw [cn_f h]; omega
theorem cn_list (p : Nat → Prop) (n : Nat) : cn p n = ((List.range n).filter (fun i => ci (p i) true false)).length := by
  induction n with
  | zero => rfl
  | succ n ih =>
    rw [List.range_succ, List.filter_append, List.length_append, ← ih]
    by_cases h : p n
    · rw [cn_t h, List.filter_cons_of_pos (by rw [ci_t h])]; rfl
    · rw [cn_f h, List.filter_cons_of_neg (by rw [ci_f h]; decide)]; rfl
theorem cn_mem {p : Nat → Prop} {n i : Nat} : i ∈ (List.range n).filter (fun i => ci (p i) true false) ↔ i < n ∧ p i := by
  rw [List.mem_filter, List.mem_range]
  refine and_congr_right fun _ => ?_
  by_cases h : p i
  · rw [ci_t h]; exact ⟨fun _ => h, fun _ => rfl⟩
  · rw [ci_f h]; exact ⟨fun z => (by cases z), fun z => absurd z h⟩
theorem cn_bij {p q : Nat → Prop} {n m : Nat} (g : Nat → Nat) (h1 : ∀ k, k < n → p k → g k < m ∧ q (g k)) (h2 : ∀ k l, k < n → l < n → p k → p l → g k = g l → k = l) (h3 : ∀ c, c < m → q c → ∃ k, k < n ∧ p k ∧ g k = c) : cn p n = cn q m := by
  rw [cn_list, cn_list, ← List.length_map (f := g)]
  have nd : ∀ (r : Nat → Prop) (k : Nat), ((List.range k).filter (fun i => ci (r i) true false)).Nodup := fun r k => List.Pairwise.filter _ List.nodup_range
  have nd1 : (((List.range n).filter (fun i => ci (p i) true false)).map g).Nodup := by
    refine List.pairwise_map.mpr ?_
    refine List.Pairwise.imp_of_mem ?_ (nd p n)
    intro a b ha hb hab he
    obtain ⟨a1, a2⟩ := cn_mem.mp ha
    obtain ⟨b1, b2⟩ := cn_mem.mp hb
    exact hab (h2 a b a1 b1 a2 b2 he)
  refine List.Perm.length_eq ((List.perm_ext_iff_of_nodup nd1 (nd q m)).mpr ?_)
  intro c
  rw [cn_mem, List.mem_map]
  constructor
  · rintro ⟨k, hk, rfl⟩
    obtain ⟨a1, a2⟩ := cn_mem.mp hk
    exact h1 k a1 a2
  · rintro ⟨c1, c2⟩
    obtain ⟨k, k1, k2, k3⟩ := h3 c c1 c2
    exact ⟨k, cn_mem.mpr ⟨k1, k2⟩, k3⟩
/-- how many pieces a name has -/
noncomputable def npc (N : Int64) : Nat := cn (fun k => 1 ≤ k ∧ isP N k) 128
theorem npc_cells (N : Int64) : npc N = cn (fun c => ∃ k, pcAt N c k) 64 := by
  refine cn_bij beg ?_ ?_ ?_
  · intro k hk hp
    exact ⟨(sp_le k hk hp.1).2.2.2, k, hp.1, hk, hp.2, rfl⟩
  · intro k l hk hl hp hq he
    exact isP_one hp.1 hk hq.1 hl hp.2 hq.2 (inK_beg hp.1 hk) (by rw [he]; exact inK_beg hq.1 hl)
  · rintro c hc ⟨k, k1, k2, k3, k4⟩
    exact ⟨k, k2, ⟨k1, k3⟩, k4⟩
theorem nI_dep_ne {k : Nat} (h1 : 1 ≤ k) (hk : k < 128) : ¬ nI (dep k) = -(nI 6) := by
  have h6 := (sp_le k hk h1).1
  have key : ∀ δ, δ ≤ 6 → ¬ nI δ = -(nI 6) := by decide
  exact key _ h6
theorem sp_countPieces (d : Nat) {h : ab_H} {N : Int64} {post : ab_P} (hp : post (some (.int (nI (npc N)))) h) : mCC (d + 5) kSpan_countPieces [.long N] h post := by
  rw [npc_cells] at hp
  have loop : ∀ c, c ≤ 64 → ab_W (ab_st (mT kSpan_countPieces) mB mF (mR kSpan_countPieces) none) (mCC (d + 4)) post (4, [.long N, .retAddr 0, .int (nI (cn (fun c => ∃ k, pcAt N c k) c)), .int (nI c)], [], (0, 0), h) := by
    refine down 64 ?_ ?_
    · skip
      refine ab_W.go (mm _) 2 (c' := (7, [.long N, .retAddr 0, .int (nI (cn (fun c => ∃ k, pcAt N c k) 64)), .int (nI 64)], [.int (nI 64), .int (nI 64)], (0, 0), h)) rfl ?_
      refine ab_W.itT (mm _) (p := (nI 64) ≤ (nI 64)) (c1 := (29, [.long N, .retAddr 0, .int (nI (cn (fun c => ∃ k, pcAt N c k) 64)), .int (nI 64)], [], (0, 0), h)) (c2 := (10, [.long N, .retAddr 0, .int (nI (cn (fun c => ∃ k, pcAt N c k) 64)), .int (nI 64)], [], (0, 0), h)) rfl ((by decide)) ?_
      refine ab_W.go (mm _) 1 (c' := (30, [.long N, .retAddr 0, .int (nI (cn (fun c => ∃ k, pcAt N c k) 64)), .int (nI 64)], [.int (nI (cn (fun c => ∃ k, pcAt N c k) 64))], (0, 0), h)) rfl ?_
      refine ab_W.retI (mm _) (rt := some .int) (v := nI (cn (fun c => ∃ k, pcAt N c k) 64)) rfl rfl ?_
      exact hp
    · intro c hc ih
      refine ab_W.go (mm _) 2 (c' := (7, [.long N, .retAddr 0, .int (nI (cn (fun c => ∃ k, pcAt N c k) c)), .int (nI c)], [.int (nI 64), .int (nI c)], (0, 0), h)) rfl ?_
      refine ab_W.itF (mm _) (p := (nI 64) ≤ (nI c)) (c1 := (29, [.long N, .retAddr 0, .int (nI (cn (fun c => ∃ k, pcAt N c k) c)), .int (nI c)], [], (0, 0), h)) (c2 := (10, [.long N, .retAddr 0, .int (nI (cn (fun c => ∃ k, pcAt N c k) c)), .int (nI c)], [], (0, 0), h)) rfl (fun z => absurd ((nI_leI (by omega) (by omega)).mp z) (by omega)) ?_
      refine ab_W.go (mm _) 2 (c' := (12, [.long N, .retAddr 0, .int (nI (cn (fun c => ∃ k, pcAt N c k) c)), .int (nI c)], [.int (nI c), .long N], (0, 0), h)) rfl ?_
      refine ab_W.call (mm _) (k := 31) (av := [.long N, .int (nI c)]) (c' := (15, [.long N, .retAddr 0, .int (nI (cn (fun c => ∃ k, pcAt N c k) c)), .int (nI c)], [], (0, 0), h)) rfl ?_
      refine sp_pieceDepth d hc (fun v hv => ?_)
      rcases hv with ⟨k, hk, rfl⟩ | ⟨hk, rfl⟩
      · rw [cn_t ⟨k, hk⟩] at ih
        show ab_W _ _ _ (15, [.long N, .retAddr 0, .int (nI (cn (fun c => ∃ k, pcAt N c k) c)), .int (nI c)], [.int (nI (dep k))], (0, 0), h)
        refine ab_W.go (mm _) 1 (c' := (17, [.long N, .retAddr 0, .int (nI (cn (fun c => ∃ k, pcAt N c k) c)), .int (nI c)], [.int (-(nI 6)), .int (nI (dep k))], (0, 0), h)) rfl ?_
        refine ab_W.itF (mm _) (p := (nI (dep k)) = (-(nI 6))) (c1 := (23, [.long N, .retAddr 0, .int (nI (cn (fun c => ∃ k, pcAt N c k) c)), .int (nI c)], [], (0, 0), h)) (c2 := (20, [.long N, .retAddr 0, .int (nI (cn (fun c => ∃ k, pcAt N c k) c)), .int (nI c)], [], (0, 0), h)) rfl (nI_dep_ne hk.1 hk.2.1) ?_
        refine ab_W.go (mm _) 1 (c' := (23, [.long N, .retAddr 0, .int (nI (cn (fun c => ∃ k, pcAt N c k) c) + nI 1), .int (nI c)], [], (0, 0), h)) rfl ?_
        rw [nI_add (cn (fun c => ∃ k, pcAt N c k) c) 1]
        refine ab_W.go (mm _) 1 (c' := (26, [.long N, .retAddr 0, .int (nI ((cn (fun c => ∃ k, pcAt N c k) c) + 1)), .int (nI c + nI 1)], [], (0, 0), h)) rfl ?_
        rw [nI_add c 1]
        refine ab_W.go (mm _) 1 (c' := (4, [.long N, .retAddr 0, .int (nI ((cn (fun c => ∃ k, pcAt N c k) c) + 1)), .int (nI (c + 1))], [], (0, 0), h)) rfl ?_
        exact ih
      · rw [cn_f hk] at ih
        show ab_W _ _ _ (15, [.long N, .retAddr 0, .int (nI (cn (fun c => ∃ k, pcAt N c k) c)), .int (nI c)], [.int (-(nI 6))], (0, 0), h)
        refine ab_W.go (mm _) 1 (c' := (17, [.long N, .retAddr 0, .int (nI (cn (fun c => ∃ k, pcAt N c k) c)), .int (nI c)], [.int (-(nI 6)), .int (-(nI 6))], (0, 0), h)) rfl ?_
        refine ab_W.itT (mm _) (p := (-(nI 6)) = (-(nI 6))) (c1 := (23, [.long N, .retAddr 0, .int (nI (cn (fun c => ∃ k, pcAt N c k) c)), .int (nI c)], [], (0, 0), h)) (c2 := (20, [.long N, .retAddr 0, .int (nI (cn (fun c => ∃ k, pcAt N c k) c)), .int (nI c)], [], (0, 0), h)) rfl (rfl) ?_
        refine ab_W.go (mm _) 1 (c' := (26, [.long N, .retAddr 0, .int (nI (cn (fun c => ∃ k, pcAt N c k) c)), .int (nI c + nI 1)], [], (0, 0), h)) rfl ?_
        rw [nI_add c 1]
        refine ab_W.go (mm _) 1 (c' := (4, [.long N, .retAddr 0, .int (nI (cn (fun c => ∃ k, pcAt N c k) c)), .int (nI (c + 1))], [], (0, 0), h)) rfl ?_
        exact ih
  refine ⟨rfl, ?_⟩
  show ab_W _ _ _ (0, [.long N, .retAddr 0, .retAddr 0, .retAddr 0], [], (0, 0), h)
  refine ab_W.go (mm _) 4 (c' := (4, [.long N, .retAddr 0, .int (nI 0), .int (nI 0)], [], (0, 0), h)) rfl ?_
  exact loop 0 (Nat.zero_le _)
end
section
/-! the class's forecast -/
def hF (h : ab_H) (o oh : Nat) (x1 x2 x3 x4 x5 : Int32) : ab_H := h.set o (.inr (1, [.ref oh, .int x1, .int x2, .int x3, .int x4, .int x5]))
theorem hF_at {h : ab_H} {o oh : Nat} {x1 x2 x3 x4 x5 : Int32} (ho : o < h.length) : (hF h o oh x1 x2 x3 x4 x5)[o]? = some (.inr (1, [.ref oh, .int x1, .int x2, .int x3, .int x4, .int x5])) := List.getElem?_set_self ho
theorem hF_ne {h : ab_H} {o oh b : Nat} {x1 x2 x3 x4 x5 : Int32} (hb : o ≠ b) : (hF h o oh x1 x2 x3 x4 x5)[b]? = h[b]? := List.getElem?_set_ne hb
theorem hF_hF {h : ab_H} {o oh : Nat} {x1 x2 x3 x4 x5 y1 y2 y3 y4 y5 : Int32} : (hF h o oh x1 x2 x3 x4 x5).set o (.inr (1, [.ref oh, .int y1, .int y2, .int y3, .int y4, .int y5])) = hF h o oh y1 y2 y3 y4 y5 := List.set_set _
theorem hF_len {h : ab_H} {o oh : Nat} {x1 x2 x3 x4 x5 : Int32} : (hF h o oh x1 x2 x3 x4 x5).length = h.length := List.length_set
theorem hF_self {h : ab_H} {o oh : Nat} {x1 x2 x3 x4 x5 : Int32} (ho : h[o]? = some (.inr (1, [.ref oh, .int x1, .int x2, .int x3, .int x4, .int x5]))) : hF h o oh x1 x2 x3 x4 x5 = h := by
  apply List.ext_getElem?
  intro j
  by_cases hj : o = j
  · subst hj
    rw [hF_at (hA_lt ho), ho]
  · rw [hF_ne hj]
theorem hF_hA {h : ab_H} {o oh : Nat} {x1 x2 x3 x4 x5 : Int32} {g : Nat → Int32} (hne : o ≠ oh) : hF (hA h oh g) o oh x1 x2 x3 x4 x5 = hA (hF h o oh x1 x2 x3 x4 x5) oh g := List.set_comm _ _ (fun z => hne z.symm)
noncomputable def chF (f g : Nat → Int32) (n : Nat) : Nat := cn (fun c => ¬ f c = g c) n
theorem sp_countChanges (d : Nat) {h : ab_H} {o oh a : Nat} {x1 x2 x3 x4 x5 : Int32} {f g : Nat → Int32} (ho : h[o]? = some (.inr (1, [.ref oh, .int x1, .int x2, .int x3, .int x4, .int x5]))) (hg : h[oh]? = some (.inl (0, 64, .inl g))) (hf : h[a]? = some (.inl (0, 64, .inl f))) {post : ab_P} (hp : post (some (.int (nI (chF g f 64)))) h) : mCC (d + 1) kForecast_countChanges [.ref o, .ref a] h post := by
  have loop : ∀ c, c ≤ 64 → ab_W (ab_st (mT kForecast_countChanges) mB mF (mR kForecast_countChanges) none) (mCC d) post (4, [.ref o, .ref a, .int (nI (chF g f c)), .int (nI c)], [], (0, 0), h) := by
    refine down 64 ?_ ?_
    · skip
      refine ab_W.go (mm _) 2 (c' := (7, [.ref o, .ref a, .int (nI (chF g f 64)), .int (nI 64)], [.int (nI 64), .int (nI 64)], (0, 0), h)) rfl ?_
      refine ab_W.itT (mm _) (p := (nI 64) ≤ (nI 64)) (c1 := (31, [.ref o, .ref a, .int (nI (chF g f 64)), .int (nI 64)], [], (0, 0), h)) (c2 := (10, [.ref o, .ref a, .int (nI (chF g f 64)), .int (nI 64)], [], (0, 0), h)) rfl ((by decide)) ?_
      refine ab_W.go (mm _) 1 (c' := (32, [.ref o, .ref a, .int (nI (chF g f 64)), .int (nI 64)], [.int (nI (chF g f 64))], (0, 0), h)) rfl ?_
      refine ab_W.retI (mm _) (rt := some .int) (v := nI (chF g f 64)) rfl rfl ?_
      exact hp
    · intro c hc ih
      refine ab_W.go (mm _) 2 (c' := (7, [.ref o, .ref a, .int (nI (chF g f c)), .int (nI c)], [.int (nI 64), .int (nI c)], (0, 0), h)) rfl ?_
      refine ab_W.itF (mm _) (p := (nI 64) ≤ (nI c)) (c1 := (31, [.ref o, .ref a, .int (nI (chF g f c)), .int (nI c)], [], (0, 0), h)) (c2 := (10, [.ref o, .ref a, .int (nI (chF g f c)), .int (nI c)], [], (0, 0), h)) rfl (fun z => absurd ((nI_leI (by omega) (by omega)).mp z) (by omega)) ?_
      refine ab_W.go (mm _) 1 (c' := (11, [.ref o, .ref a, .int (nI (chF g f c)), .int (nI c)], [.ref o], (0, 0), h)) rfl ?_
      refine ab_W.o (mm _) (ho) rfl (c' := (14, [.ref o, .ref a, .int (nI (chF g f c)), .int (nI c)], [.ref oh], (0, 0), h)) rfl ?_
      refine ab_W.go (mm _) 1 (c' := (15, [.ref o, .ref a, .int (nI (chF g f c)), .int (nI c)], [.int (nI c), .ref oh], (0, 0), h)) rfl ?_
      refine ab_W.iald (mm _) (j := c) (hg) rfl (by omega) rfl rfl ?_
      show ab_W _ _ _ (16, [.ref o, .ref a, .int (nI (chF g f c)), .int (nI c)], [.int (g c)], (0, 0), h)
      refine ab_W.go (mm _) 2 (c' := (18, [.ref o, .ref a, .int (nI (chF g f c)), .int (nI c)], [.int (nI c), .ref a, .int (g c)], (0, 0), h)) rfl ?_
      refine ab_W.iald (mm _) (j := c) (hf) rfl (by omega) rfl rfl ?_
      show ab_W _ _ _ (19, [.ref o, .ref a, .int (nI (chF g f c)), .int (nI c)], [.int (f c), .int (g c)], (0, 0), h)
      refine ab_W.ite (mm _) (p := (g c) = (f c)) (c1 := (25, [.ref o, .ref a, .int (nI (chF g f c)), .int (nI c)], [], (0, 0), h)) (c2 := (22, [.ref o, .ref a, .int (nI (chF g f c)), .int (nI c)], [], (0, 0), h)) rfl (fun q => ?_) (fun q => ?_)
      · skip
        rw [show chF g f (c + 1) = chF g f c from cn_f (fun z => z q)] at ih
        refine ab_W.go (mm _) 1 (c' := (28, [.ref o, .ref a, .int (nI (chF g f c)), .int (nI c + nI 1)], [], (0, 0), h)) rfl ?_
        rw [nI_add c 1]
        refine ab_W.go (mm _) 1 (c' := (4, [.ref o, .ref a, .int (nI (chF g f c)), .int (nI (c + 1))], [], (0, 0), h)) rfl ?_
        exact ih
      · skip
        rw [show chF g f (c + 1) = chF g f c + 1 from cn_t q] at ih
        refine ab_W.go (mm _) 1 (c' := (25, [.ref o, .ref a, .int (nI (chF g f c) + nI 1), .int (nI c)], [], (0, 0), h)) rfl ?_
        rw [nI_add (chF g f c) 1]
        refine ab_W.go (mm _) 1 (c' := (28, [.ref o, .ref a, .int (nI ((chF g f c) + 1)), .int (nI c + nI 1)], [], (0, 0), h)) rfl ?_
        rw [nI_add c 1]
        refine ab_W.go (mm _) 1 (c' := (4, [.ref o, .ref a, .int (nI ((chF g f c) + 1)), .int (nI (c + 1))], [], (0, 0), h)) rfl ?_
        exact ih
  refine ⟨rfl, ?_⟩
  show ab_W _ _ _ (0, [.ref o, .ref a, .retAddr 0, .retAddr 0], [], (0, 0), h)
  refine ab_W.go (mm _) 4 (c' := (4, [.ref o, .ref a, .int (nI 0), .int (nI 0)], [], (0, 0), h)) rfl ?_
  exact loop 0 (Nat.zero_le _)
/-- the piece that grows -/
def Best (N : Int64) (f : Nat → Int32) (k : Nat) : Prop := (1 ≤ k ∧ k < 128 ∧ isP N k) ∧ ∀ l, 1 ≤ l → l < 128 → isP N l → cst f k < cst f l ∨ (cst f k = cst f l ∧ beg l ≤ beg k)
def Upto (N : Int64) (f : Nat → Int32) (c k : Nat) : Prop := (1 ≤ k ∧ k < 128 ∧ isP N k ∧ beg k < c) ∧ ∀ l, 1 ≤ l → l < 128 → isP N l → beg l < c → cst f k < cst f l ∨ (cst f k = cst f l ∧ beg l ≤ beg k)
theorem cst_le {f : Nat → Int32} {k : Nat} (h1 : 1 ≤ k) (hk : k < 128) : cst f k ≤ 6006 := by
  have h6 := (sp_le k hk h1).1
  have hw := wid_le f k
  unfold cst
  omega
theorem nI_cst_ne {f : Nat → Int32} {k : Nat} (h1 : 1 ≤ k) (hk : k < 128) : ¬ nI (cst f k) = -(nI 6) := by
  have h6 := cst_le (f := f) h1 hk
  intro h
  have h2 := congrArg Int32.toInt h
  rw [nI_toInt (by omega)] at h2
  have h3 : (-(nI 6)).toInt = -6 := by decide
  rw [h3] at h2
  omega
theorem sp_choosePiece (d : Nat) {h : ab_H} {o oh : Nat} {x1 x2 : Int32} {N : Int64} {g : Nat → Int32} (hlen : o < h.length) (hne : o ≠ oh) (hg : h[oh]? = some (.inl (0, 64, .inl g))) (hN : ∃ k, 1 ≤ k ∧ k < 128 ∧ isP N k) {post : ab_P} (hp : ∀ k, Best N g k → post none (hF h o oh x1 x2 (nI (cst g k)) (nI (beg k)) (nI (dep k)))) : mCC (d + 5) kForecast_choosePiece [.ref o, .long N] (hF h o oh x1 x2 (-(nI 6)) (-(nI 6)) (-(nI 6))) post := by
  have loop : ∀ c, c ≤ 64 → ∀ (C F E : Int32) (v4 v5 v6 : Value), ((C = -(nI 6) ∧ F = -(nI 6) ∧ E = -(nI 6) ∧ ∀ l, 1 ≤ l → l < 128 → isP N l → c ≤ beg l) ∨ (∃ k, Upto N g c k ∧ C = nI (cst g k) ∧ F = nI (beg k) ∧ E = nI (dep k))) → ab_W (ab_st (mT kForecast_choosePiece) mB mF (mR kForecast_choosePiece) none) (mCC (d + 4)) post (2, [.ref o, .long N, .retAddr 0, .int (nI c), v4, v5, v6], [], (0, 0), hF h o oh x1 x2 C F E) := by
    refine down 64 ?_ ?_
    · intro C F E v4 v5 v6 hI
      refine ab_W.go (mm _) 2 (c' := (5, [.ref o, .long N, .retAddr 0, .int (nI 64), v4, v5, v6], [.int (nI 64), .int (nI 64)], (0, 0), hF h o oh x1 x2 C F E)) rfl ?_
      refine ab_W.itT (mm _) (p := (nI 64) ≤ (nI 64)) (c1 := (92, [.ref o, .long N, .retAddr 0, .int (nI 64), v4, v5, v6], [], (0, 0), hF h o oh x1 x2 C F E)) (c2 := (8, [.ref o, .long N, .retAddr 0, .int (nI 64), v4, v5, v6], [], (0, 0), hF h o oh x1 x2 C F E)) rfl ((by decide)) ?_
      refine ab_W.ret (mm _) (v := none) rfl ?_
      rcases hI with ⟨-, -, -, hno⟩ | ⟨k, hk, rfl, rfl, rfl⟩
      · obtain ⟨k, k1, k2, k3⟩ := hN
        exact absurd (hno k k1 k2 k3) (by have := (sp_le k k2 k1).2.2.2; omega)
      · exact hp k ⟨⟨hk.1.1, hk.1.2.1, hk.1.2.2.1⟩, fun l l1 l2 l3 => hk.2 l l1 l2 l3 (sp_le l l2 l1).2.2.2⟩
    · intro c hc ih C F E v4 v5 v6 hI
      refine ab_W.go (mm _) 2 (c' := (5, [.ref o, .long N, .retAddr 0, .int (nI c), v4, v5, v6], [.int (nI 64), .int (nI c)], (0, 0), hF h o oh x1 x2 C F E)) rfl ?_
      refine ab_W.itF (mm _) (p := (nI 64) ≤ (nI c)) (c1 := (92, [.ref o, .long N, .retAddr 0, .int (nI c), v4, v5, v6], [], (0, 0), hF h o oh x1 x2 C F E)) (c2 := (8, [.ref o, .long N, .retAddr 0, .int (nI c), v4, v5, v6], [], (0, 0), hF h o oh x1 x2 C F E)) rfl (fun z => absurd ((nI_leI (by omega) (by omega)).mp z) (by omega)) ?_
      refine ab_W.go (mm _) 2 (c' := (10, [.ref o, .long N, .retAddr 0, .int (nI c), v4, v5, v6], [.int (nI c), .long N], (0, 0), hF h o oh x1 x2 C F E)) rfl ?_
      refine ab_W.call (mm _) (k := 31) (av := [.long N, .int (nI c)]) (c' := (13, [.ref o, .long N, .retAddr 0, .int (nI c), v4, v5, v6], [], (0, 0), hF h o oh x1 x2 C F E)) rfl ?_
      refine sp_pieceDepth d hc (fun v hv => ?_)
      rcases hv with ⟨k, ⟨k1, k2, k3, k4⟩, rfl⟩ | ⟨hk, rfl⟩
      · skip
        show ab_W _ _ _ (13, [.ref o, .long N, .retAddr 0, .int (nI c), v4, v5, v6], [.int (nI (dep k))], (0, 0), hF h o oh x1 x2 C F E)
        refine ab_W.go (mm _) 3 (c' := (19, [.ref o, .long N, .retAddr 0, .int (nI c), .int (nI (dep k)), v5, v6], [.int (-(nI 6)), .int (nI (dep k))], (0, 0), hF h o oh x1 x2 C F E)) rfl ?_
        refine ab_W.itF (mm _) (p := (nI (dep k)) = (-(nI 6))) (c1 := (22, [.ref o, .long N, .retAddr 0, .int (nI c), .int (nI (dep k)), v5, v6], [], (0, 0), hF h o oh x1 x2 C F E)) (c2 := (25, [.ref o, .long N, .retAddr 0, .int (nI c), .int (nI (dep k)), v5, v6], [], (0, 0), hF h o oh x1 x2 C F E)) rfl (nI_dep_ne k1 k2) ?_
        refine ab_W.go (mm _) 2 (c' := (28, [.ref o, .long N, .retAddr 0, .int (nI c), .int (nI (dep k)), v5, v6], [.ref o, .int (nI (dep k))], (0, 0), hF h o oh x1 x2 C F E)) rfl ?_
        refine ab_W.o (mm _) (hF_at hlen) rfl (c' := (31, [.ref o, .long N, .retAddr 0, .int (nI c), .int (nI (dep k)), v5, v6], [.ref oh, .int (nI (dep k))], (0, 0), hF h o oh x1 x2 C F E)) rfl ?_
        refine ab_W.go (mm _) 2 (c' := (34, [.ref o, .long N, .retAddr 0, .int (nI c), .int (nI (dep k)), v5, v6], [.int (nI (dep k)), .int (nI c), .ref oh, .int (nI (dep k))], (0, 0), hF h o oh x1 x2 C F E)) rfl ?_
        rw [← k4]
        show ab_W _ _ _ (34, [.ref o, .long N, .retAddr 0, .int (nI (beg k)), .int (nI (dep k)), v5, v6], [.int (nI (dep k)), .int (nI (beg k)), .ref oh, .int (nI (dep k))], (0, 0), hF h o oh x1 x2 C F E)
        refine ab_W.call (mm _) (k := 36) (av := [.ref oh, .int (nI (beg k)), .int (nI (dep k))]) (c' := (37, [.ref o, .long N, .retAddr 0, .int (nI (beg k)), .int (nI (dep k)), v5, v6], [.int (nI (dep k))], (0, 0), hF h o oh x1 x2 C F E)) rfl ?_
        refine sp_alikeDepth (d + 1) ((hF_ne hne).trans hg) k1 k2 ?_
        show ab_W _ _ _ (37, [.ref o, .long N, .retAddr 0, .int (nI (beg k)), .int (nI (dep k)), v5, v6], [.int (nI (wid g k)), .int (nI (dep k))], (0, 0), hF h o oh x1 x2 C F E)
        refine ab_W.go (mm _) 1 (c' := (38, [.ref o, .long N, .retAddr 0, .int (nI (beg k)), .int (nI (dep k)), v5, v6], [.int ((nI (dep k)) - (nI (wid g k)))], (0, 0), hF h o oh x1 x2 C F E)) rfl ?_
        refine ab_W.topi (pk_sub (wid_le g k)) ?_
        refine ab_W.go (mm _) 5 (c' := (48, [.ref o, .long N, .retAddr 0, .int (nI (beg k)), .int (nI (dep k)), .int (nI (dep k - wid g k)), v6], [.int ((nI 1000) * (nI (dep k - wid g k))), .int (nI (dep k))], (0, 0), hF h o oh x1 x2 C F E)) rfl ?_
        refine ab_W.topi (pk_mul 1000 (dep k - wid g k)) ?_
        refine ab_W.go (mm _) 1 (c' := (49, [.ref o, .long N, .retAddr 0, .int (nI (beg k)), .int (nI (dep k)), .int (nI (dep k - wid g k)), v6], [.int ((nI (dep k)) + (nI (1000 * (dep k - wid g k))))], (0, 0), hF h o oh x1 x2 C F E)) rfl ?_
        refine ab_W.topi (nI_add (dep k) (1000 * (dep k - wid g k))) ?_
        refine ab_W.go (mm _) 2 (c' := (52, [.ref o, .long N, .retAddr 0, .int (nI (beg k)), .int (nI (dep k)), .int (nI (dep k - wid g k)), .int (nI ((dep k) + (1000 * (dep k - wid g k))))], [.ref o], (0, 0), hF h o oh x1 x2 C F E)) rfl ?_
        refine ab_W.o (mm _) (hF_at hlen) rfl (c' := (55, [.ref o, .long N, .retAddr 0, .int (nI (beg k)), .int (nI (dep k)), .int (nI (dep k - wid g k)), .int (nI ((dep k) + (1000 * (dep k - wid g k))))], [.int C], (0, 0), hF h o oh x1 x2 C F E)) rfl ?_
        refine ab_W.go (mm _) 1 (c' := (57, [.ref o, .long N, .retAddr 0, .int (nI (beg k)), .int (nI (dep k)), .int (nI (dep k - wid g k)), .int (nI ((dep k) + (1000 * (dep k - wid g k))))], [.int (-(nI 6)), .int C], (0, 0), hF h o oh x1 x2 C F E)) rfl ?_
        have fin : ∀ v5 v6, ab_W (ab_st (mT kForecast_choosePiece) mB mF (mR kForecast_choosePiece) none) (mCC (d + 4)) post (86, [.ref o, .long N, .retAddr 0, .int (nI (beg k)), .int (nI (dep k)), v5, v6], [], (0, 0), hF h o oh x1 x2 C F E) → ab_W (ab_st (mT kForecast_choosePiece) mB mF (mR kForecast_choosePiece) none) (mCC (d + 4)) post (86, [.ref o, .long N, .retAddr 0, .int (nI (beg k)), .int (nI (dep k)), v5, v6], [], (0, 0), hF h o oh x1 x2 C F E) := fun _ _ w => w
        have take : Upto N g (c + 1) k → ab_W (ab_st (mT kForecast_choosePiece) mB mF (mR kForecast_choosePiece) none) (mCC (d + 4)) post (69, [.ref o, .long N, .retAddr 0, .int (nI (beg k)), .int (nI (dep k)), .int (nI (dep k - wid g k)), .int (nI (dep k + (1000 * (dep k - wid g k))))], [], (0, 0), hF h o oh x1 x2 C F E) := by
          intro hU
          refine ab_W.go (mm _) 2 (c' := (72, [.ref o, .long N, .retAddr 0, .int (nI (beg k)), .int (nI (dep k)), .int (nI (dep k - wid g k)), .int (nI (dep k + (1000 * (dep k - wid g k))))], [.int (nI (dep k + (1000 * (dep k - wid g k)))), .ref o], (0, 0), hF h o oh x1 x2 C F E)) rfl ?_
          refine ab_W.o (mm _) (hF_at hlen) rfl (c' := (75, [.ref o, .long N, .retAddr 0, .int (nI (beg k)), .int (nI (dep k)), .int (nI (dep k - wid g k)), .int (nI (dep k + (1000 * (dep k - wid g k))))], [], (0, 0), (hF h o oh x1 x2 C F E).set o (.inr (1, [.ref oh, .int x1, .int x2, .int (nI (cst g k)), .int F, .int E])))) rfl ?_
          refine ab_W.hp (hF_hF) ?_
          show ab_W _ _ _ (75, [.ref o, .long N, .retAddr 0, .int (nI (beg k)), .int (nI (dep k)), .int (nI (dep k - wid g k)), .int (nI (dep k + (1000 * (dep k - wid g k))))], [], (0, 0), hF h o oh x1 x2 (nI (cst g k)) F E)
          refine ab_W.go (mm _) 2 (c' := (77, [.ref o, .long N, .retAddr 0, .int (nI (beg k)), .int (nI (dep k)), .int (nI (dep k - wid g k)), .int (nI (dep k + (1000 * (dep k - wid g k))))], [.int (nI (beg k)), .ref o], (0, 0), hF h o oh x1 x2 (nI (cst g k)) F E)) rfl ?_
          refine ab_W.o (mm _) (hF_at hlen) rfl (c' := (80, [.ref o, .long N, .retAddr 0, .int (nI (beg k)), .int (nI (dep k)), .int (nI (dep k - wid g k)), .int (nI (dep k + (1000 * (dep k - wid g k))))], [], (0, 0), (hF h o oh x1 x2 (nI (cst g k)) F E).set o (.inr (1, [.ref oh, .int x1, .int x2, .int (nI (cst g k)), .int (nI (beg k)), .int E])))) rfl ?_
          refine ab_W.hp (hF_hF) ?_
          show ab_W _ _ _ (80, [.ref o, .long N, .retAddr 0, .int (nI (beg k)), .int (nI (dep k)), .int (nI (dep k - wid g k)), .int (nI (dep k + (1000 * (dep k - wid g k))))], [], (0, 0), hF h o oh x1 x2 (nI (cst g k)) (nI (beg k)) E)
          refine ab_W.go (mm _) 2 (c' := (83, [.ref o, .long N, .retAddr 0, .int (nI (beg k)), .int (nI (dep k)), .int (nI (dep k - wid g k)), .int (nI (dep k + (1000 * (dep k - wid g k))))], [.int (nI (dep k)), .ref o], (0, 0), hF h o oh x1 x2 (nI (cst g k)) (nI (beg k)) E)) rfl ?_
          refine ab_W.o (mm _) (hF_at hlen) rfl (c' := (86, [.ref o, .long N, .retAddr 0, .int (nI (beg k)), .int (nI (dep k)), .int (nI (dep k - wid g k)), .int (nI (dep k + (1000 * (dep k - wid g k))))], [], (0, 0), (hF h o oh x1 x2 (nI (cst g k)) (nI (beg k)) E).set o (.inr (1, [.ref oh, .int x1, .int x2, .int (nI (cst g k)), .int (nI (beg k)), .int (nI (dep k))])))) rfl ?_
          refine ab_W.hp (hF_hF) ?_
          show ab_W _ _ _ (86, [.ref o, .long N, .retAddr 0, .int (nI (beg k)), .int (nI (dep k)), .int (nI (dep k - wid g k)), .int (nI (dep k + (1000 * (dep k - wid g k))))], [], (0, 0), hF h o oh x1 x2 (nI (cst g k)) (nI (beg k)) (nI (dep k)))
          refine ab_W.go (mm _) 1 (c' := (89, [.ref o, .long N, .retAddr 0, .int (nI (beg k) + nI 1), .int (nI (dep k)), .int (nI (dep k - wid g k)), .int (nI (dep k + (1000 * (dep k - wid g k))))], [], (0, 0), hF h o oh x1 x2 (nI (cst g k)) (nI (beg k)) (nI (dep k)))) rfl ?_
          rw [nI_add (beg k) 1]
          refine ab_W.go (mm _) 1 (c' := (2, [.ref o, .long N, .retAddr 0, .int (nI ((beg k) + 1)), .int (nI (dep k)), .int (nI (dep k - wid g k)), .int (nI (dep k + (1000 * (dep k - wid g k))))], [], (0, 0), hF h o oh x1 x2 (nI (cst g k)) (nI (beg k)) (nI (dep k)))) rfl ?_
          rw [show beg k + 1 = c + 1 by rw [k4]]
          exact ih _ _ _ _ _ _ (Or.inr ⟨k, hU, rfl, rfl, rfl⟩)
        rcases hI with ⟨rfl, rfl, rfl, hno⟩ | ⟨l, hl, rfl, rfl, rfl⟩
        · skip
          show ab_W _ _ _ (57, [.ref o, .long N, .retAddr 0, .int (nI (beg k)), .int (nI (dep k)), .int (nI (dep k - wid g k)), .int (nI (dep k + (1000 * (dep k - wid g k))))], [.int (-(nI 6)), .int (-(nI 6))], (0, 0), hF h o oh x1 x2 (-(nI 6)) (-(nI 6)) (-(nI 6)))
          refine ab_W.itT (mm _) (p := (-(nI 6)) = (-(nI 6))) (c1 := (69, [.ref o, .long N, .retAddr 0, .int (nI (beg k)), .int (nI (dep k)), .int (nI (dep k - wid g k)), .int (nI (dep k + (1000 * (dep k - wid g k))))], [], (0, 0), hF h o oh x1 x2 (-(nI 6)) (-(nI 6)) (-(nI 6)))) (c2 := (60, [.ref o, .long N, .retAddr 0, .int (nI (beg k)), .int (nI (dep k)), .int (nI (dep k - wid g k)), .int (nI (dep k + (1000 * (dep k - wid g k))))], [], (0, 0), hF h o oh x1 x2 (-(nI 6)) (-(nI 6)) (-(nI 6)))) rfl (rfl) ?_
          refine take ⟨⟨k1, k2, k3, by omega⟩, fun l l1 l2 l3 l4 => ?_⟩
          have := hno l l1 l2 l3
          have hb : beg l = c := by omega
          have : l = k := isP_one l1 l2 k1 k2 l3 k3 (inK_beg l1 l2) (by rw [hb, ← k4]; exact inK_beg k1 k2)
          subst this
          exact Or.inr ⟨rfl, Nat.le_refl _⟩
        · skip
          show ab_W _ _ _ (57, [.ref o, .long N, .retAddr 0, .int (nI (beg k)), .int (nI (dep k)), .int (nI (dep k - wid g k)), .int (nI (dep k + (1000 * (dep k - wid g k))))], [.int (-(nI 6)), .int (nI (cst g l))], (0, 0), hF h o oh x1 x2 (nI (cst g l)) (nI (beg l)) (nI (dep l)))
          have hl1 := hl.1.1
          have hl2 := hl.1.2.1
          have c1 := cst_le (f := g) k1 k2
          have c2 := cst_le (f := g) hl1 hl2
          refine ab_W.itF (mm _) (p := (nI (cst g l)) = (-(nI 6))) (c1 := (69, [.ref o, .long N, .retAddr 0, .int (nI (beg k)), .int (nI (dep k)), .int (nI (dep k - wid g k)), .int (nI (dep k + (1000 * (dep k - wid g k))))], [], (0, 0), hF h o oh x1 x2 (nI (cst g l)) (nI (beg l)) (nI (dep l)))) (c2 := (60, [.ref o, .long N, .retAddr 0, .int (nI (beg k)), .int (nI (dep k)), .int (nI (dep k - wid g k)), .int (nI (dep k + (1000 * (dep k - wid g k))))], [], (0, 0), hF h o oh x1 x2 (nI (cst g l)) (nI (beg l)) (nI (dep l)))) rfl (nI_cst_ne hl1 hl2) ?_
          refine ab_W.go (mm _) 2 (c' := (63, [.ref o, .long N, .retAddr 0, .int (nI (beg k)), .int (nI (dep k)), .int (nI (dep k - wid g k)), .int (nI (dep k + (1000 * (dep k - wid g k))))], [.ref o, .int (nI (dep k + (1000 * (dep k - wid g k))))], (0, 0), hF h o oh x1 x2 (nI (cst g l)) (nI (beg l)) (nI (dep l)))) rfl ?_
          refine ab_W.o (mm _) (hF_at hlen) rfl (c' := (66, [.ref o, .long N, .retAddr 0, .int (nI (beg k)), .int (nI (dep k)), .int (nI (dep k - wid g k)), .int (nI (dep k + (1000 * (dep k - wid g k))))], [.int (nI (cst g l)), .int (nI (dep k + (1000 * (dep k - wid g k))))], (0, 0), hF h o oh x1 x2 (nI (cst g l)) (nI (beg l)) (nI (dep l)))) rfl ?_
          refine ab_W.ite (mm _) (p := (nI (cst g l)) < (nI (dep k + (1000 * (dep k - wid g k))))) (c1 := (86, [.ref o, .long N, .retAddr 0, .int (nI (beg k)), .int (nI (dep k)), .int (nI (dep k - wid g k)), .int (nI (dep k + (1000 * (dep k - wid g k))))], [], (0, 0), hF h o oh x1 x2 (nI (cst g l)) (nI (beg l)) (nI (dep l)))) (c2 := (69, [.ref o, .long N, .retAddr 0, .int (nI (beg k)), .int (nI (dep k)), .int (nI (dep k - wid g k)), .int (nI (dep k + (1000 * (dep k - wid g k))))], [], (0, 0), hF h o oh x1 x2 (nI (cst g l)) (nI (beg l)) (nI (dep l)))) rfl (fun q => ?_) (fun q => ?_)
          · skip
            have q : cst g l < cst g k := (nI_ltI (by omega) (by omega)).mp q
            refine ab_W.go (mm _) 1 (c' := (89, [.ref o, .long N, .retAddr 0, .int (nI (beg k) + nI 1), .int (nI (dep k)), .int (nI (dep k - wid g k)), .int (nI (dep k + (1000 * (dep k - wid g k))))], [], (0, 0), hF h o oh x1 x2 (nI (cst g l)) (nI (beg l)) (nI (dep l)))) rfl ?_
            rw [nI_add (beg k) 1]
            refine ab_W.go (mm _) 1 (c' := (2, [.ref o, .long N, .retAddr 0, .int (nI ((beg k) + 1)), .int (nI (dep k)), .int (nI (dep k - wid g k)), .int (nI (dep k + (1000 * (dep k - wid g k))))], [], (0, 0), hF h o oh x1 x2 (nI (cst g l)) (nI (beg l)) (nI (dep l)))) rfl ?_
            rw [show beg k + 1 = c + 1 by rw [k4]]
            refine ih _ _ _ _ _ _ (Or.inr ⟨l, ⟨⟨hl1, hl2, hl.1.2.2.1, by have := hl.1.2.2.2; omega⟩, fun j j1 j2 j3 j4 => ?_⟩, rfl, rfl, rfl⟩)
            rcases Nat.lt_or_ge (beg j) c with z | z
            · exact hl.2 j j1 j2 j3 z
            · have hb : beg j = c := by omega
              have : j = k := isP_one j1 j2 k1 k2 j3 k3 (inK_beg j1 j2) (by rw [hb, ← k4]; exact inK_beg k1 k2)
              subst this
              exact Or.inl q
          · skip
            have q : ¬ cst g l < cst g k := fun z => q ((nI_ltI (a := cst g l) (b := cst g k) (by omega) (by omega)).mpr z)
            refine take ⟨⟨k1, k2, k3, by omega⟩, fun j j1 j2 j3 j4 => ?_⟩
            rcases Nat.lt_or_ge (beg j) c with z | z
            · rcases hl.2 j j1 j2 j3 z with y | y
              · exact Or.inl (by omega)
              · rcases Nat.lt_or_ge (cst g k) (cst g j) with x | x
                · exact Or.inl x
                · exact Or.inr ⟨by omega, by omega⟩
            · have hb : beg j = c := by omega
              have : j = k := isP_one j1 j2 k1 k2 j3 k3 (inK_beg j1 j2) (by rw [hb, ← k4]; exact inK_beg k1 k2)
              subst this
              exact Or.inr ⟨rfl, Nat.le_refl _⟩
      · skip
        show ab_W _ _ _ (13, [.ref o, .long N, .retAddr 0, .int (nI c), v4, v5, v6], [.int (-(nI 6))], (0, 0), hF h o oh x1 x2 C F E)
        refine ab_W.go (mm _) 3 (c' := (19, [.ref o, .long N, .retAddr 0, .int (nI c), .int (-(nI 6)), v5, v6], [.int (-(nI 6)), .int (-(nI 6))], (0, 0), hF h o oh x1 x2 C F E)) rfl ?_
        refine ab_W.itT (mm _) (p := (-(nI 6)) = (-(nI 6))) (c1 := (22, [.ref o, .long N, .retAddr 0, .int (nI c), .int (-(nI 6)), v5, v6], [], (0, 0), hF h o oh x1 x2 C F E)) (c2 := (25, [.ref o, .long N, .retAddr 0, .int (nI c), .int (-(nI 6)), v5, v6], [], (0, 0), hF h o oh x1 x2 C F E)) rfl (rfl) ?_
        refine ab_W.go (mm _) 2 (c' := (89, [.ref o, .long N, .retAddr 0, .int (nI c + nI 1), .int (-(nI 6)), v5, v6], [], (0, 0), hF h o oh x1 x2 C F E)) rfl ?_
        rw [nI_add c 1]
        refine ab_W.go (mm _) 1 (c' := (2, [.ref o, .long N, .retAddr 0, .int (nI (c + 1)), .int (-(nI 6)), v5, v6], [], (0, 0), hF h o oh x1 x2 C F E)) rfl ?_
        refine ih _ _ _ _ _ _ ?_
        have hno : ∀ l, 1 ≤ l → l < 128 → isP N l → beg l ≠ c := fun l l1 l2 l3 z => hk ⟨l, l1, l2, l3, z⟩
        rcases hI with ⟨e1, e2, e3, hh⟩ | ⟨l, hl, e1, e2, e3⟩
        · exact Or.inl ⟨e1, e2, e3, fun l l1 l2 l3 => by have := hh l l1 l2 l3; have := hno l l1 l2 l3; omega⟩
        · exact Or.inr ⟨l, ⟨⟨hl.1.1, hl.1.2.1, hl.1.2.2.1, by have := hl.1.2.2.2; omega⟩, fun j j1 j2 j3 j4 => hl.2 j j1 j2 j3 (by have := hno j j1 j2 j3; omega)⟩, e1, e2, e3⟩
  refine ⟨rfl, ?_⟩
  show ab_W _ _ _ (0, [.ref o, .long N, .retAddr 0, .retAddr 0, .retAddr 0, .retAddr 0, .retAddr 0], [], (0, 0), hF h o oh x1 x2 (-(nI 6)) (-(nI 6)) (-(nI 6)))
  refine ab_W.go (mm _) 2 (c' := (2, [.ref o, .long N, .retAddr 0, .int (nI 0), .retAddr 0, .retAddr 0, .retAddr 0], [], (0, 0), hF h o oh x1 x2 (-(nI 6)) (-(nI 6)) (-(nI 6)))) rfl ?_
  exact loop 0 (Nat.zero_le _) _ _ _ _ _ _ (Or.inl ⟨rfl, rfl, rfl, fun l _ _ _ => Nat.zero_le _⟩)
end
section
/-! the class's forecast, whole -/
def rsF (g : Nat → Int32) (b c : Nat) : Nat → Int32 := fun j => if b ≤ j ∧ j < c then g j + nI 1 else g j
theorem rsF_0 (g : Nat → Int32) (b : Nat) : rsF g b b = g := by
  funext j
  exact if_neg (by omega)
theorem rsF_s (g : Nat → Int32) {b c : Nat} (h : b ≤ c) : upd (rsF g b c) c (rsF g b c c + nI 1) = rsF g b (c + 1) := by
  funext j
  unfold upd rsF
  by_cases hj : j = c
  · subst hj
    rw [if_pos rfl, if_neg (by omega), if_pos (by omega)]
  · rw [if_neg hj]
    by_cases h1 : b ≤ j ∧ j < c
    · rw [if_pos h1, if_pos (by omega)]
    · rw [if_neg h1, if_neg (by omega)]
theorem sp_raisePiece (d : Nat) {h : ab_H} {o oh k : Nat} {x1 x2 x3 : Int32} {g : Nat → Int32} (hlen : o < h.length) (hlen2 : oh < h.length) (hne : o ≠ oh) (h1 : 1 ≤ k) (hk : k < 128) {post : ab_P} (hp : post none (hA (hF h o oh x1 (nI (siz k)) x3 (nI (beg k)) (nI (dep k))) oh (rsF g (beg k) (beg k + siz k)))) : mCC (d + 2) kForecast_raisePiece [.ref o] (hA (hF h o oh x1 x2 x3 (nI (beg k)) (nI (dep k))) oh g) post := by
  obtain ⟨s1, s2, s3, s4⟩ := sp_le k hk h1
  have hl : oh < (hF h o oh x1 x2 x3 (nI (beg k)) (nI (dep k))).length := by rw [hF_len]; exact hlen2
  have ho : ∀ f, (hA (hF h o oh x1 x2 x3 (nI (beg k)) (nI (dep k))) oh f)[o]? = some (.inr (1, [.ref oh, .int x1, .int x2, .int x3, .int (nI (beg k)), .int (nI (dep k))])) := fun f => (hA_ne (fun z => hne z.symm)).trans (hF_at hlen)
  have loop : ∀ c, c ≤ beg k + siz k → beg k ≤ c → ab_W (ab_st (mT kForecast_raisePiece) mB mF (mR kForecast_raisePiece) none) (mCC (d + 1)) post (28, [.ref o, .int (nI (beg k + siz k)), .int (nI c)], [], (0, 0), hA (hF h o oh x1 x2 x3 (nI (beg k)) (nI (dep k))) oh (rsF g (beg k) c)) := by
    refine down (beg k + siz k) ?_ ?_
    · intro h2
      refine ab_W.go (mm _) 2 (c' := (30, [.ref o, .int (nI (beg k + siz k)), .int (nI (beg k + siz k))], [.int (nI (beg k + siz k)), .int (nI (beg k + siz k))], (0, 0), hA (hF h o oh x1 x2 x3 (nI (beg k)) (nI (dep k))) oh (rsF g (beg k) (beg k + siz k)))) rfl ?_
      refine ab_W.itT (mm _) (p := (nI (beg k + siz k)) ≤ (nI (beg k + siz k))) (c1 := (49, [.ref o, .int (nI (beg k + siz k)), .int (nI (beg k + siz k))], [], (0, 0), hA (hF h o oh x1 x2 x3 (nI (beg k)) (nI (dep k))) oh (rsF g (beg k) (beg k + siz k)))) (c2 := (33, [.ref o, .int (nI (beg k + siz k)), .int (nI (beg k + siz k))], [], (0, 0), hA (hF h o oh x1 x2 x3 (nI (beg k)) (nI (dep k))) oh (rsF g (beg k) (beg k + siz k)))) rfl ((nI_leI (by omega) (by omega)).mpr (Nat.le_refl _)) ?_
      refine ab_W.go (mm _) 2 (c' := (51, [.ref o, .int (nI (beg k + siz k)), .int (nI (beg k + siz k))], [.ref o, .ref o], (0, 0), hA (hF h o oh x1 x2 x3 (nI (beg k)) (nI (dep k))) oh (rsF g (beg k) (beg k + siz k)))) rfl ?_
      refine ab_W.o (mm _) (ho _) rfl (c' := (54, [.ref o, .int (nI (beg k + siz k)), .int (nI (beg k + siz k))], [.int (nI (dep k)), .ref o], (0, 0), hA (hF h o oh x1 x2 x3 (nI (beg k)) (nI (dep k))) oh (rsF g (beg k) (beg k + siz k)))) rfl ?_
      refine ab_W.call (mm _) (k := 22) (av := [.int (nI (dep k))]) (c' := (57, [.ref o, .int (nI (beg k + siz k)), .int (nI (beg k + siz k))], [.ref o], (0, 0), hA (hF h o oh x1 x2 x3 (nI (beg k)) (nI (dep k))) oh (rsF g (beg k) (beg k + siz k)))) rfl ?_
      refine sp_sizeOf _ s1 ?_
      show ab_W _ _ _ (57, [.ref o, .int (nI (beg k + siz k)), .int (nI (beg k + siz k))], [.int (nI (siz k)), .ref o], (0, 0), hA (hF h o oh x1 x2 x3 (nI (beg k)) (nI (dep k))) oh (rsF g (beg k) (beg k + siz k)))
      refine ab_W.o (mm _) (ho _) rfl (c' := (60, [.ref o, .int (nI (beg k + siz k)), .int (nI (beg k + siz k))], [], (0, 0), (hA (hF h o oh x1 x2 x3 (nI (beg k)) (nI (dep k))) oh (rsF g (beg k) (beg k + siz k))).set o (.inr (1, [.ref oh, .int x1, .int (nI (siz k)), .int x3, .int (nI (beg k)), .int (nI (dep k))])))) rfl ?_
      have e : (hA (hF h o oh x1 x2 x3 (nI (beg k)) (nI (dep k))) oh (rsF g (beg k) (beg k + siz k))).set o (.inr (1, [.ref oh, .int x1, .int (nI (siz k)), .int x3, .int (nI (beg k)), .int (nI (dep k))])) = hA (hF h o oh x1 (nI (siz k)) x3 (nI (beg k)) (nI (dep k))) oh (rsF g (beg k) (beg k + siz k)) := by
        show ((hF h o oh x1 x2 x3 (nI (beg k)) (nI (dep k))).set oh _).set o _ = _
        rw [List.set_comm _ _ (fun z => hne z.symm), hF_hF]
        rfl
      refine ab_W.hp (e) ?_
      show ab_W _ _ _ (60, [.ref o, .int (nI (beg k + siz k)), .int (nI (beg k + siz k))], [], (0, 0), hA (hF h o oh x1 (nI (siz k)) x3 (nI (beg k)) (nI (dep k))) oh (rsF g (beg k) (beg k + siz k)))
      refine ab_W.ret (mm _) (v := none) rfl ?_
      exact hp
    · intro c hc ih h2
      refine ab_W.go (mm _) 2 (c' := (30, [.ref o, .int (nI (beg k + siz k)), .int (nI c)], [.int (nI (beg k + siz k)), .int (nI c)], (0, 0), hA (hF h o oh x1 x2 x3 (nI (beg k)) (nI (dep k))) oh (rsF g (beg k) c))) rfl ?_
      refine ab_W.itF (mm _) (p := (nI (beg k + siz k)) ≤ (nI c)) (c1 := (49, [.ref o, .int (nI (beg k + siz k)), .int (nI c)], [], (0, 0), hA (hF h o oh x1 x2 x3 (nI (beg k)) (nI (dep k))) oh (rsF g (beg k) c))) (c2 := (33, [.ref o, .int (nI (beg k + siz k)), .int (nI c)], [], (0, 0), hA (hF h o oh x1 x2 x3 (nI (beg k)) (nI (dep k))) oh (rsF g (beg k) c))) rfl (fun z => absurd ((nI_leI (by omega) (by omega)).mp z) (by omega)) ?_
      refine ab_W.go (mm _) 1 (c' := (34, [.ref o, .int (nI (beg k + siz k)), .int (nI c)], [.ref o], (0, 0), hA (hF h o oh x1 x2 x3 (nI (beg k)) (nI (dep k))) oh (rsF g (beg k) c))) rfl ?_
      refine ab_W.o (mm _) (ho _) rfl (c' := (37, [.ref o, .int (nI (beg k + siz k)), .int (nI c)], [.ref oh], (0, 0), hA (hF h o oh x1 x2 x3 (nI (beg k)) (nI (dep k))) oh (rsF g (beg k) c))) rfl ?_
      refine ab_W.go (mm _) 2 (c' := (39, [.ref o, .int (nI (beg k + siz k)), .int (nI c)], [.int (nI c), .ref oh, .int (nI c), .ref oh], (0, 0), hA (hF h o oh x1 x2 x3 (nI (beg k)) (nI (dep k))) oh (rsF g (beg k) c))) rfl ?_
      refine ab_W.iald (mm _) (j := c) (hA_at hl) rfl (by omega) rfl rfl ?_
      show ab_W _ _ _ (40, [.ref o, .int (nI (beg k + siz k)), .int (nI c)], [.int (rsF g (beg k) c c), .int (nI c), .ref oh], (0, 0), hA (hF h o oh x1 x2 x3 (nI (beg k)) (nI (dep k))) oh (rsF g (beg k) c))
      refine ab_W.go (mm _) 2 (c' := (42, [.ref o, .int (nI (beg k + siz k)), .int (nI c)], [.int ((rsF g (beg k) c c) + (nI 1)), .int (nI c), .ref oh], (0, 0), hA (hF h o oh x1 x2 x3 (nI (beg k)) (nI (dep k))) oh (rsF g (beg k) c))) rfl ?_
      refine ab_W.iast (mm _) (j := c) (hA_at hl) rfl (by omega) rfl rfl ?_
      refine ab_W.hp (hA_hA.trans (congrArg (hA _ oh) (rsF_s g h2))) ?_
      show ab_W _ _ _ (43, [.ref o, .int (nI (beg k + siz k)), .int (nI c)], [], (0, 0), hA (hF h o oh x1 x2 x3 (nI (beg k)) (nI (dep k))) oh (rsF g (beg k) (c + 1)))
      refine ab_W.go (mm _) 1 (c' := (46, [.ref o, .int (nI (beg k + siz k)), .int (nI c + nI 1)], [], (0, 0), hA (hF h o oh x1 x2 x3 (nI (beg k)) (nI (dep k))) oh (rsF g (beg k) (c + 1)))) rfl ?_
      rw [nI_add c 1]
      refine ab_W.go (mm _) 1 (c' := (28, [.ref o, .int (nI (beg k + siz k)), .int (nI (c + 1))], [], (0, 0), hA (hF h o oh x1 x2 x3 (nI (beg k)) (nI (dep k))) oh (rsF g (beg k) (c + 1)))) rfl ?_
      exact ih (by omega)
  refine ⟨rfl, ?_⟩
  show ab_W _ _ _ (0, [.ref o, .retAddr 0, .retAddr 0], [], (0, 0), hA (hF h o oh x1 x2 x3 (nI (beg k)) (nI (dep k))) oh g)
  refine ab_W.go (mm _) 1 (c' := (1, [.ref o, .retAddr 0, .retAddr 0], [.ref o], (0, 0), hA (hF h o oh x1 x2 x3 (nI (beg k)) (nI (dep k))) oh g)) rfl ?_
  refine ab_W.o (mm _) (ho _) rfl (c' := (4, [.ref o, .retAddr 0, .retAddr 0], [.int (nI (beg k))], (0, 0), hA (hF h o oh x1 x2 x3 (nI (beg k)) (nI (dep k))) oh g)) rfl ?_
  refine ab_W.go (mm _) 1 (c' := (6, [.ref o, .retAddr 0, .retAddr 0], [.int (-(nI 6)), .int (nI (beg k))], (0, 0), hA (hF h o oh x1 x2 x3 (nI (beg k)) (nI (dep k))) oh g)) rfl ?_
  have key : ∀ b, b < 64 → ¬ nI b = -(nI 6) := by decide +kernel
  refine ab_W.itF (mm _) (p := (nI (beg k)) = (-(nI 6))) (c1 := (9, [.ref o, .retAddr 0, .retAddr 0], [], (0, 0), hA (hF h o oh x1 x2 x3 (nI (beg k)) (nI (dep k))) oh g)) (c2 := (10, [.ref o, .retAddr 0, .retAddr 0], [], (0, 0), hA (hF h o oh x1 x2 x3 (nI (beg k)) (nI (dep k))) oh g)) rfl (key _ s4) ?_
  refine ab_W.go (mm _) 1 (c' := (11, [.ref o, .retAddr 0, .retAddr 0], [.ref o], (0, 0), hA (hF h o oh x1 x2 x3 (nI (beg k)) (nI (dep k))) oh g)) rfl ?_
  refine ab_W.o (mm _) (ho _) rfl (c' := (14, [.ref o, .retAddr 0, .retAddr 0], [.int (nI (beg k))], (0, 0), hA (hF h o oh x1 x2 x3 (nI (beg k)) (nI (dep k))) oh g)) rfl ?_
  refine ab_W.go (mm _) 1 (c' := (15, [.ref o, .retAddr 0, .retAddr 0], [.ref o, .int (nI (beg k))], (0, 0), hA (hF h o oh x1 x2 x3 (nI (beg k)) (nI (dep k))) oh g)) rfl ?_
  refine ab_W.o (mm _) (ho _) rfl (c' := (18, [.ref o, .retAddr 0, .retAddr 0], [.int (nI (dep k)), .int (nI (beg k))], (0, 0), hA (hF h o oh x1 x2 x3 (nI (beg k)) (nI (dep k))) oh g)) rfl ?_
  refine ab_W.call (mm _) (k := 22) (av := [.int (nI (dep k))]) (c' := (21, [.ref o, .retAddr 0, .retAddr 0], [.int (nI (beg k))], (0, 0), hA (hF h o oh x1 x2 x3 (nI (beg k)) (nI (dep k))) oh g)) rfl ?_
  refine sp_sizeOf _ s1 ?_
  show ab_W _ _ _ (21, [.ref o, .retAddr 0, .retAddr 0], [.int (nI (siz k)), .int (nI (beg k))], (0, 0), hA (hF h o oh x1 x2 x3 (nI (beg k)) (nI (dep k))) oh g)
  refine ab_W.go (mm _) 1 (c' := (22, [.ref o, .retAddr 0, .retAddr 0], [.int ((nI (beg k)) + (nI (siz k)))], (0, 0), hA (hF h o oh x1 x2 x3 (nI (beg k)) (nI (dep k))) oh g)) rfl ?_
  refine ab_W.topi (nI_add (beg k) (siz k)) ?_
  refine ab_W.go (mm _) 2 (c' := (24, [.ref o, .int (nI ((beg k) + (siz k))), .retAddr 0], [.ref o], (0, 0), hA (hF h o oh x1 x2 x3 (nI (beg k)) (nI (dep k))) oh g)) rfl ?_
  refine ab_W.o (mm _) (ho _) rfl (c' := (27, [.ref o, .int (nI ((beg k) + (siz k))), .retAddr 0], [.int (nI (beg k))], (0, 0), hA (hF h o oh x1 x2 x3 (nI (beg k)) (nI (dep k))) oh g)) rfl ?_
  refine ab_W.go (mm _) 1 (c' := (28, [.ref o, .int (nI ((beg k) + (siz k))), .int (nI (beg k))], [], (0, 0), hA (hF h o oh x1 x2 x3 (nI (beg k)) (nI (dep k))) oh g)) rfl ?_
  have := loop (beg k) (by omega) (by omega)
  rw [rsF_0] at this
  exact this
/-! what filling reads and writes lies in its span -/
theorem mnF_congr {f g : Nat → Int32} {b : Nat} : ∀ n, (∀ j, b ≤ j → j < b + n → f j = g j) → f b = g b → mnF f b n = mnF g b n := by
  intro n
  induction n with
  | zero => intro _ h; exact h
  | succ n ih =>
    intro h h0
    show (if f (b + n) < mnF f b n then f (b + n) else mnF f b n) = _
    rw [ih (fun j h1 h2 => h j h1 (by omega)) h0, h (b + n) (by omega) (by omega)]
    rfl
theorem mxF_congr {f g : Nat → Int32} {b : Nat} : ∀ n, (∀ j, b ≤ j → j < b + n → f j = g j) → f b = g b → mxF f b n = mxF g b n := by
  intro n
  induction n with
  | zero => intro _ h; exact h
  | succ n ih =>
    intro h h0
    show (if mxF f b n < f (b + n) then f (b + n) else mxF f b n) = _
    rw [ih (fun j h1 h2 => h j h1 (by omega)) h0, h (b + n) (by omega) (by omega)]
    rfl
section LOC
variable {f g : Nat → Int32} {k : Nat}
theorem mn_congr (h1 : 1 ≤ k) (hk : k < 128) (h : ∀ j, inK k j → f j = g j) : mn f k = mn g k := mnF_congr _ (fun j a b => h j ⟨a, b⟩) (h _ (inK_beg h1 hk))
theorem mx_congr (h1 : 1 ≤ k) (hk : k < 128) (h : ∀ j, inK k j → f j = g j) : mx f k = mx g k := mxF_congr _ (fun j a b => h j ⟨a, b⟩) (h _ (inK_beg h1 hk))
theorem alk_congr (h1 : 1 ≤ k) (hk : k < 128) (h : ∀ j, inK k j → f j = g j) : alk f k ↔ alk g k := by
  have h0 := h _ (inK_beg h1 hk)
  constructor
  · intro ha j hj
    rw [← h j hj, ← h0]; exact ha j hj
  · intro ha j hj
    rw [h j hj, h0]; exact ha j hj
theorem lev_in {v : Int32} {j : Nat} (h : inK k j) : lev f k v j = v := if_pos h
theorem lev_out {v : Int32} {j : Nat} (h : ¬ inK k j) : lev f k v j = f j := if_neg h
theorem half_in {j : Nat} (h1 : 1 ≤ k) (hk : k < 64) : inK k j ↔ inK (2 * k) j ∨ inK (2 * k + 1) j := by
  obtain ⟨e1, e2, e3, e4, e5, e6, e7, e8⟩ := sp_half k hk h1
  unfold inK
  rw [e3, e4, e5, e6, e7]
  omega
theorem half_not {j : Nat} (h1 : 1 ≤ k) (hk : k < 64) : ¬ (inK (2 * k) j ∧ inK (2 * k + 1) j) := by
  obtain ⟨e1, e2, e3, e4, e5, e6, e7, e8⟩ := sp_half k hk h1
  unfold inK
  rw [e3, e4, e6, e7]
  omega
end LOC
theorem dep_lt {k n : Nat} (h1 : 1 ≤ k) (hk : k < 128) (hd : dep k + (n + 1) = 6) : k < 64 := by
  rcases Nat.lt_or_ge k 64 with q | q
  · exact q
  · have := (sp_leaf k hk q).1
    omega
/-- the five ways -/
theorem fl_cases (N : Int64) (n k : Nat) (f : Nat → Int32) : ((¬ hits N k ∨ alk f k) ∧ fl N (n + 1) k f = f) ∨ (hits N k ∧ ¬ alk f k ∧ lies N k ∧ fl N (n + 1) k f = lev f k (mx f k)) ∨ (hits N k ∧ ¬ alk f k ∧ ¬ lies N k ∧ lies N (2 * k) ∧ fl N (n + 1) k f = lft (fl N n (2 * k + 1) f) (2 * k) (2 * k + 1)) ∨ (hits N k ∧ ¬ alk f k ∧ ¬ lies N k ∧ ¬ lies N (2 * k) ∧ lies N (2 * k + 1) ∧ fl N (n + 1) k f = lft (fl N n (2 * k) f) (2 * k + 1) (2 * k)) ∨ (hits N k ∧ ¬ alk f k ∧ ¬ lies N k ∧ ¬ lies N (2 * k) ∧ ¬ lies N (2 * k + 1) ∧ fl N (n + 1) k f = fl N n (2 * k + 1) (fl N n (2 * k) f)) := by
  by_cases q1 : ¬ hits N k ∨ alk f k
  · exact Or.inl ⟨q1, ci_t q1⟩
  · have q0 : hits N k ∧ ¬ alk f k := ⟨Classical.byContradiction fun z => q1 (Or.inl z), fun z => q1 (Or.inr z)⟩
    refine Or.inr ?_
    have e0 : fl N (n + 1) k f = _ := ci_f q1
    by_cases q3 : lies N k
    · exact Or.inl ⟨q0.1, q0.2, q3, e0.trans (ci_t q3)⟩
    · refine Or.inr ?_
      by_cases q4 : lies N (2 * k)
      · exact Or.inl ⟨q0.1, q0.2, q3, q4, e0.trans ((ci_f q3).trans (ci_t q4))⟩
      · refine Or.inr ?_
        by_cases q5 : lies N (2 * k + 1)
        · exact Or.inl ⟨q0.1, q0.2, q3, q4, q5, e0.trans ((ci_f q3).trans ((ci_f q4).trans (ci_t q5)))⟩
        · exact Or.inr ⟨q0.1, q0.2, q3, q4, q5, e0.trans ((ci_f q3).trans ((ci_f q4).trans (ci_f q5)))⟩
theorem fl_out (N : Int64) : ∀ (n k : Nat), 1 ≤ k → k < 128 → dep k + n = 6 → ∀ (f : Nat → Int32) (j : Nat), ¬ inK k j → fl N n k f j = f j := by
  intro n
  induction n with
  | zero => intro k _ _ _ f j _; rfl
  | succ n ih =>
    intro k h1 hk hd f j hj
    have hk64 := dep_lt h1 hk hd
    obtain ⟨e1, e2, e3, e4, e5, e6, e7, e8⟩ := sp_half k hk64 h1
    have hh := half_in (j := j) h1 hk64
    have n1 : ¬ inK (2 * k) j := fun z => hj (hh.mpr (Or.inl z))
    have n2 : ¬ inK (2 * k + 1) j := fun z => hj (hh.mpr (Or.inr z))
    have i1 := ih (2 * k) (by omega) (by omega) (by omega)
    have i2 := ih (2 * k + 1) (by omega) (by omega) (by omega)
    rcases fl_cases N n k f with ⟨-, e⟩ | ⟨-, -, -, e⟩ | ⟨-, -, -, -, e⟩ | ⟨-, -, -, -, -, e⟩ | ⟨-, -, -, -, -, e⟩
    · rw [e]
    · rw [e, lev_out hj]
    · rw [e]; unfold lft; rw [lev_out n1, i2 f j n2]
    · rw [e]; unfold lft; rw [lev_out n2, i1 f j n1]
    · rw [e, i2 _ j n2, i1 f j n1]
theorem fl_loc (N : Int64) : ∀ (n k : Nat), 1 ≤ k → k < 128 → dep k + n = 6 → ∀ (f g : Nat → Int32), (∀ j, inK k j → f j = g j) → ∀ j, inK k j → fl N n k f j = fl N n k g j := by
  intro n
  induction n with
  | zero => intro k _ _ _ f g h j hj; exact h j hj
  | succ n ih =>
    intro k h1 hk hd f g h j hj
    have hk64 := dep_lt h1 hk hd
    obtain ⟨e1, e2, e3, e4, e5, e6, e7, e8⟩ := sp_half k hk64 h1
    have k1 : 1 ≤ 2 * k := by omega
    have k2 : 2 * k < 128 := by omega
    have k3 : 1 ≤ 2 * k + 1 := by omega
    have k4 : 2 * k + 1 < 128 := by omega
    have d1 : dep (2 * k) + n = 6 := by omega
    have d2 : dep (2 * k + 1) + n = 6 := by omega
    have a1 : ∀ j, inK (2 * k) j → f j = g j := fun j hj => h j ((half_in h1 hk64).mpr (Or.inl hj))
    have a2 : ∀ j, inK (2 * k + 1) j → f j = g j := fun j hj => h j ((half_in h1 hk64).mpr (Or.inr hj))
    have x12 : ∀ {j}, inK (2 * k) j → ¬ inK (2 * k + 1) j := fun p q => half_not h1 hk64 ⟨p, q⟩
    have x21 : ∀ {j}, inK (2 * k + 1) j → ¬ inK (2 * k) j := fun p q => half_not h1 hk64 ⟨q, p⟩
    have hal := alk_congr h1 hk h
    have u1 := ih (2 * k) k1 k2 d1 f g a1
    have u2 := ih (2 * k + 1) k3 k4 d2 f g a2
    have o1 := fl_out N n (2 * k) k1 k2 d1
    have o2 := fl_out N n (2 * k + 1) k3 k4 d2
    by_cases q1 : ¬ hits N k ∨ alk f k
    · rw [show fl N (n + 1) k f = f from ci_t q1, show fl N (n + 1) k g = g from ci_t (q1.imp id hal.mp)]
      exact h j hj
    · have q1' : ¬ (¬ hits N k ∨ alk g k) := fun z => q1 (z.imp id hal.mpr)
      by_cases q3 : lies N k
      · rw [show fl N (n + 1) k f = _ from (ci_f q1).trans (ci_t q3), show fl N (n + 1) k g = _ from (ci_f q1').trans (ci_t q3), lev_in hj, lev_in hj]
        exact mx_congr h1 hk h
      · by_cases q4 : lies N (2 * k)
        · rw [show fl N (n + 1) k f = _ from (ci_f q1).trans ((ci_f q3).trans (ci_t q4)), show fl N (n + 1) k g = _ from (ci_f q1').trans ((ci_f q3).trans (ci_t q4))]
          unfold lft
          rcases (half_in h1 hk64).mp hj with z | z
          · rw [lev_in z, lev_in z, mx_congr (f := fl N n (2 * k + 1) f) (g := fl N n (2 * k + 1) g) k1 k2 (fun j hj => by rw [o2 f j (x12 hj), o2 g j (x12 hj)]; exact a1 j hj), mn_congr k3 k4 u2]
          · rw [lev_out (x21 z), lev_out (x21 z)]
            exact u2 j z
        · by_cases q5 : lies N (2 * k + 1)
          · rw [show fl N (n + 1) k f = _ from (ci_f q1).trans ((ci_f q3).trans ((ci_f q4).trans (ci_t q5))), show fl N (n + 1) k g = _ from (ci_f q1').trans ((ci_f q3).trans ((ci_f q4).trans (ci_t q5)))]
            unfold lft
            rcases (half_in h1 hk64).mp hj with z | z
            · rw [lev_out (x12 z), lev_out (x12 z)]
              exact u1 j z
            · rw [lev_in z, lev_in z, mx_congr (f := fl N n (2 * k) f) (g := fl N n (2 * k) g) k3 k4 (fun j hj => by rw [o1 f j (x21 hj), o1 g j (x21 hj)]; exact a2 j hj), mn_congr k1 k2 u1]
          · rw [show fl N (n + 1) k f = _ from (ci_f q1).trans ((ci_f q3).trans ((ci_f q4).trans (ci_f q5))), show fl N (n + 1) k g = _ from (ci_f q1').trans ((ci_f q3).trans ((ci_f q4).trans (ci_f q5)))]
            rcases (half_in h1 hk64).mp hj with z | z
            · rw [o2 _ j (x12 z), o2 _ j (x12 z)]
              exact u1 j z
            · refine ih (2 * k + 1) k3 k4 d2 _ _ (fun j hj => ?_) j z
              rw [o1 f j (x21 hj), o1 g j (x21 hj)]
              exact a2 j hj
theorem inK_1 {j : Nat} (h : j < 64) : inK 1 j := by
  have e1 : beg 1 = 0 := by decide
  have e2 : siz 1 = 64 := by decide
  unfold inK
  rw [e1, e2]
  omega
theorem fl_all {N : Int64} {f g : Nat → Int32} (h : ∀ c, c < 64 → f c = g c) : ∀ c, c < 64 → fl N 6 1 f c = fl N 6 1 g c := fun c hc => fl_loc N 6 1 (by decide) (by decide) (by decide) f g (fun j hj => h j (inK_lt (by decide) (by decide) hj)) c (inK_1 hc)
end
section
/-! Forecast.lookAt -/
theorem ab_W.copy64 {F : ab_S → ab_R} {C : ab_C} {post : ab_P} {c : ab_S} (hC : ab_mono C) {h : ab_H} {a0 a nx : Nat} {f g : Nat → Int32} {lv r : List Value} {b : Nat × Nat} (h0 : h[a0]? = some (.inl (0, 64, .inl f))) (h1 : h[a]? = some (.inl (0, 64, .inl g)))
    (e : F c = ab_ai h a0 fun t0 n0 f => ab_ai h a fun t1 n1 g => ab_gd (Nat.ble (ab_ws r) 8 && (Nat.beq t0 0 && (Nat.beq t1 0 && (!(decide (nI 0 < 0)) && (!(decide (nI 0 < 0)) && (!(decide (nI 64 < 0)) && (Nat.ble ((nI 0).toNatClampNeg + (nI 64).toNatClampNeg) n0 && Nat.ble ((nI 0).toNatClampNeg + (nI 64).toNatClampNeg) n1))))))) (ab_nx nx lv r b (h.set a (.inl (t1, n1, .inl (va_cpy f g (nI 0).toNatClampNeg (nI 0).toNatClampNeg (nI 64).toNatClampNeg))))))
    (hr : Nat.ble (ab_ws r) 8 = true) (w : ab_W F C post (nx, lv, r, b, hA h a (va_cpy f g 0 0 64))) : ab_W F C post c := by
  refine ab_W.fold hC ?_
  rw [e]
  unfold ab_ai
  rw [h0, h1]
  dsimp only
  rw [hr]
  exact w
theorem ab_W.callV {F : ab_S → ab_R} {C : ab_C} {post : ab_P} {c : ab_S} (hC : ab_mono C) {h : ab_H} {a ci : Nat} {fs : List Value} {f : Nat → List Value → ab_R} {c' : ab_S} {k : Nat} {av : List Value} (hh : h[a]? = some (.inr (ci, fs))) (e : F c = ab_o h a f) (e2 : f ci fs = some (.inr (.inl (k, av, c')))) (w : C k av c'.2.2.2.2 (fun v h' => ab_W F C post (c'.1, c'.2.1, v.toList ++ c'.2.2.1, c'.2.2.2.1, h'))) : ab_W F C post c := by
  refine ab_W.fold hC ?_
  rw [e]
  unfold ab_o
  rw [hh]
  show ab_rs _ _ _ _ (f ci fs)
  rw [e2]
  exact w
def hX (h : ab_H) (o oh : Nat) (y1 y2 y3 y4 y5 : Int32) (G : Nat → Int32) : ab_H := hA (hF h o oh y1 y2 y3 y4 y5) oh G
section HX
variable {h : ab_H} {o oh : Nat} {y1 y2 y3 y4 y5 z1 z2 z3 z4 z5 : Int32} {G : Nat → Int32}
theorem hX_o (hlen : o < h.length) (hne : o ≠ oh) : (hX h o oh y1 y2 y3 y4 y5 G)[o]? = some (.inr (1, [.ref oh, .int y1, .int y2, .int y3, .int y4, .int y5])) := (hA_ne (fun z => hne z.symm)).trans (hF_at hlen)
theorem hX_oh (hlen : oh < h.length) : (hX h o oh y1 y2 y3 y4 y5 G)[oh]? = some (.inl (0, 64, .inl G)) := hA_at (by rw [hF_len]; exact hlen)
theorem hX_ne {b : Nat} (h1 : o ≠ b) (h2 : oh ≠ b) : (hX h o oh y1 y2 y3 y4 y5 G)[b]? = h[b]? := (hA_ne h2).trans (hF_ne h1)
theorem hX_put (hne : o ≠ oh) : (hX h o oh y1 y2 y3 y4 y5 G).set o (.inr (1, [.ref oh, .int z1, .int z2, .int z3, .int z4, .int z5])) = hX h o oh z1 z2 z3 z4 z5 G := by
  show ((hF h o oh y1 y2 y3 y4 y5).set oh _).set o _ = _
  rw [List.set_comm _ _ (fun z => hne z.symm), hF_hF]
  rfl
theorem hX_len : (hX h o oh y1 y2 y3 y4 y5 G).length = h.length := by
  unfold hX
  rw [hA_len, hF_len]
end HX
/-- what a forecast holds behind lookAt -/
def LK (N : Int64) (f : Nat → Int32) (y1 y2 y3 y4 y5 : Int32) (G : Nat → Int32) : Prop :=
  (0 < chF (fl N 6 1 f) f 64 ∧ y1 = nI 1 ∧ y2 = nI (chF (fl N 6 1 f) f 64) ∧ y3 = -(nI 6) ∧ y4 = -(nI 6) ∧ y5 = -(nI 6) ∧ ∀ c, c < 64 → G c = fl N 6 1 f c) ∨
  (chF (fl N 6 1 f) f 64 = 0 ∧ ∃ k, Best N f k ∧ y1 = nI 0 ∧ y2 = nI (siz k) ∧ y3 = nI (cst f k) ∧ y4 = nI (beg k) ∧ y5 = nI (dep k) ∧ ∀ c, c < 64 → G c = rsF f (beg k) (beg k + siz k) c)
theorem cn_congr {p q : Nat → Prop} : ∀ {n : Nat}, (∀ i, i < n → (p i ↔ q i)) → cn p n = cn q n := by
  intro n
  induction n with
  | zero => intro _; rfl
  | succ n ih =>
    intro h
    have e := ih (fun i hi => h i (by omega))
    by_cases hp : p n
    · rw [cn_t hp, cn_t ((h n (by omega)).mp hp), e]
    · rw [cn_f hp, cn_f (fun z => hp ((h n (by omega)).mpr z)), e]
theorem cn_zero {p : Nat → Prop} : ∀ {n : Nat}, cn p n = 0 → ∀ i, i < n → ¬ p i := by
  intro n
  induction n with
  | zero => intro _ i hi; omega
  | succ n ih =>
    intro h i hi hp
    by_cases hn : p n
    · rw [cn_t hn] at h; omega
    · rw [cn_f hn] at h
      rcases Nat.lt_or_ge i n with z | z
      · exact ih h i z hp
      · rw [show i = n by omega] at hp
        exact hn hp
theorem alD_congr {f g : Nat → Int32} (h : ∀ c, c < 64 → f c = g c) {c δ : Nat} (hc : c < 64) (hδ : δ ≤ 6) : ∀ n, n ≤ δ → alD f c δ n = alD g c δ n := by
  intro n
  induction n with
  | zero => intro _; rfl
  | succ n ih =>
    intro hn
    obtain ⟨a1, a2, a3, a4, a5⟩ := anc_ok (δ - (n + 1)) (by omega) c hc
    have ha := alk_congr a1 a2 (f := f) (g := g) (fun j hj => h j (inK_lt a1 a2 hj))
    by_cases q : alk f (anc c (δ - (n + 1)))
    · rw [show alD f c δ (n + 1) = _ from ci_t q, show alD g c δ (n + 1) = _ from ci_t (ha.mp q)]
    · rw [show alD f c δ (n + 1) = _ from ci_f q, show alD g c δ (n + 1) = _ from ci_f (fun z => q (ha.mpr z))]
      exact ih (by omega)
theorem cst_congr {f g : Nat → Int32} (h : ∀ c, c < 64 → f c = g c) {k : Nat} (h1 : 1 ≤ k) (hk : k < 128) : cst f k = cst g k := by
  obtain ⟨s1, s2, s3, s4⟩ := sp_le k hk h1
  unfold cst wid
  rw [alD_congr h s4 s1 (dep k) (Nat.le_refl _)]
theorem Best.congr {N : Int64} {f g : Nat → Int32} (h : ∀ c, c < 64 → f c = g c) {k : Nat} (hb : Best N f k) : Best N g k := by
  obtain ⟨⟨k1, k2, k3⟩, hb⟩ := hb
  refine ⟨⟨k1, k2, k3⟩, fun l l1 l2 l3 => ?_⟩
  rw [← cst_congr h k1 k2, ← cst_congr h l1 l2]
  exact hb l l1 l2 l3
theorem cpy64 {f g : Nat → Int32} {c : Nat} (hc : c < 64) : va_cpy f g 0 0 64 c = f c := by
  unfold va_cpy
  rw [if_pos (by omega)]
  congr 1
  omega
theorem sp_lookAt (d : Nat) {h : ab_H} {o oh a ah : Nat} {p x1 x2 x3 x4 x5 : Int32} {N K : Int64} {f g : Nat → Int32} (hs : h[a]? = some (.inr (3, [.int p, .long N, .long K, .ref ah]))) (hf : h[ah]? = some (.inl (0, 64, .inl f))) (ho : h[o]? = some (.inr (1, [.ref oh, .int x1, .int x2, .int x3, .int x4, .int x5]))) (hg : h[oh]? = some (.inl (0, 64, .inl g)))
    (n1 : o ≠ oh) (n2 : oh ≠ a) (n3 : oh ≠ ah) (n4 : o ≠ a) (n5 : o ≠ ah) (hN : ∃ k, 1 ≤ k ∧ k < 128 ∧ isP N k) {post : ab_P} (hp : ∀ y1 y2 y3 y4 y5 G, LK N f y1 y2 y3 y4 y5 G → post none (hX h o oh y1 y2 y3 y4 y5 G)) : mCC (d + 11) kForecast_lookAt [.ref o, .ref a] h post := by
  have lo := hA_lt ho
  have loh := hA_lt hg
  refine ⟨rfl, ?_⟩
  show ab_W _ _ _ (0, [.ref o, .ref a], [], (0, 0), h)
  refine ab_W.go (mm _) 1 (c' := (1, [.ref o, .ref a], [.ref a], (0, 0), h)) rfl ?_
  refine ab_W.o (mm _) (hs) rfl (c' := (4, [.ref o, .ref a], [.ref ah], (0, 0), h)) rfl ?_
  refine ab_W.go (mm _) 2 (c' := (6, [.ref o, .ref a], [.ref o, .int (nI 0), .ref ah], (0, 0), h)) rfl ?_
  refine ab_W.o (mm _) (ho) rfl (c' := (9, [.ref o, .ref a], [.ref oh, .int (nI 0), .ref ah], (0, 0), h)) rfl ?_
  refine ab_W.go (mm _) 2 (c' := (12, [.ref o, .ref a], [.int (nI 64), .int (nI 0), .ref oh, .int (nI 0), .ref ah], (0, 0), h)) rfl ?_
  refine ab_W.copy64 (mm _) hf hg rfl rfl ?_
  generalize hf' : va_cpy f g 0 0 64 = f'
  have ef : ∀ c, c < 64 → f' c = f c := fun c hc => by rw [← hf']; exact cpy64 hc
  have ho1 : (hA h oh f')[o]? = some (.inr (1, [.ref oh, .int x1, .int x2, .int x3, .int x4, .int x5])) := (hA_ne (fun z => n1 z.symm)).trans ho
  have lo1 : o < (hA h oh f').length := by rw [hA_len]; exact lo
  show ab_W _ _ _ (15, [.ref o, .ref a], [], (0, 0), hA h oh f')
  refine ab_W.go (mm _) 2 (c' := (18, [.ref o, .ref a], [.int (-(nI 6)), .ref o], (0, 0), hA h oh f')) rfl ?_
  refine ab_W.o (mm _) (ho1) rfl (c' := (21, [.ref o, .ref a], [], (0, 0), hF (hA h oh f') o oh x1 x2 (-(nI 6)) x4 x5)) rfl ?_
  refine ab_W.go (mm _) 2 (c' := (24, [.ref o, .ref a], [.int (-(nI 6)), .ref o], (0, 0), hF (hA h oh f') o oh x1 x2 (-(nI 6)) x4 x5)) rfl ?_
  refine ab_W.o (mm _) (hF_at lo1) rfl (c' := (27, [.ref o, .ref a], [], (0, 0), (hF (hA h oh f') o oh x1 x2 (-(nI 6)) x4 x5).set o (.inr (1, [.ref oh, .int x1, .int x2, .int (-(nI 6)), .int (-(nI 6)), .int x5])))) rfl ?_
  refine ab_W.hp (hF_hF) ?_
  show ab_W _ _ _ (27, [.ref o, .ref a], [], (0, 0), hF (hA h oh f') o oh x1 x2 (-(nI 6)) (-(nI 6)) x5)
  refine ab_W.go (mm _) 2 (c' := (30, [.ref o, .ref a], [.int (-(nI 6)), .ref o], (0, 0), hF (hA h oh f') o oh x1 x2 (-(nI 6)) (-(nI 6)) x5)) rfl ?_
  refine ab_W.o (mm _) (hF_at lo1) rfl (c' := (33, [.ref o, .ref a], [], (0, 0), (hF (hA h oh f') o oh x1 x2 (-(nI 6)) (-(nI 6)) x5).set o (.inr (1, [.ref oh, .int x1, .int x2, .int (-(nI 6)), .int (-(nI 6)), .int (-(nI 6))])))) rfl ?_
  refine ab_W.hp (hF_hF.trans (hF_hA n1)) ?_
  show ab_W _ _ _ (33, [.ref o, .ref a], [], (0, 0), hX h o oh x1 x2 (-(nI 6)) (-(nI 6)) (-(nI 6)) f')
  refine ab_W.go (mm _) 1 (c' := (34, [.ref o, .ref a], [.ref o], (0, 0), hX h o oh x1 x2 (-(nI 6)) (-(nI 6)) (-(nI 6)) f')) rfl ?_
  refine ab_W.o (mm _) (hX_o lo n1) rfl (c' := (37, [.ref o, .ref a], [.ref oh], (0, 0), hX h o oh x1 x2 (-(nI 6)) (-(nI 6)) (-(nI 6)) f')) rfl ?_
  refine ab_W.go (mm _) 1 (c' := (38, [.ref o, .ref a], [.ref a, .ref oh], (0, 0), hX h o oh x1 x2 (-(nI 6)) (-(nI 6)) (-(nI 6)) f')) rfl ?_
  refine ab_W.o (mm _) ((hX_ne n4 n2).trans hs) rfl (c' := (41, [.ref o, .ref a], [.long N, .ref oh], (0, 0), hX h o oh x1 x2 (-(nI 6)) (-(nI 6)) (-(nI 6)) f')) rfl ?_
  refine ab_W.go (mm _) 2 (c' := (43, [.ref o, .ref a], [.int (nI 0), .int (nI 0), .long N, .ref oh], (0, 0), hX h o oh x1 x2 (-(nI 6)) (-(nI 6)) (-(nI 6)) f')) rfl ?_
  refine ab_W.call (mm _) (k := 14) (av := [.ref oh, .long N, .int (nI 0), .int (nI 0)]) (c' := (46, [.ref o, .ref a], [], (0, 0), hX h o oh x1 x2 (-(nI 6)) (-(nI 6)) (-(nI 6)) f')) rfl ?_
  refine sp_fill (by rw [hF_len]; exact loh) 6 1 (by decide) (by decide) (by decide) (d + 10) (by omega) f' ?_
  show ab_W _ _ _ (46, [.ref o, .ref a], [], (0, 0), hX h o oh x1 x2 (-(nI 6)) (-(nI 6)) (-(nI 6)) (fl N 6 1 f'))
  generalize hF0 : fl N 6 1 f' = F0
  have eF : ∀ c, c < 64 → F0 c = fl N 6 1 f c := fun c hc => by rw [← hF0]; exact fl_all ef c hc
  have ech : chF F0 f 64 = chF (fl N 6 1 f) f 64 := cn_congr (fun c hc => by rw [eF c hc])
  show ab_W _ _ _ (46, [.ref o, .ref a], [], (0, 0), hX h o oh x1 x2 (-(nI 6)) (-(nI 6)) (-(nI 6)) F0)
  refine ab_W.go (mm _) 3 (c' := (49, [.ref o, .ref a], [.ref a, .ref o, .ref o], (0, 0), hX h o oh x1 x2 (-(nI 6)) (-(nI 6)) (-(nI 6)) F0)) rfl ?_
  refine ab_W.o (mm _) ((hX_ne n4 n2).trans hs) rfl (c' := (52, [.ref o, .ref a], [.ref ah, .ref o, .ref o], (0, 0), hX h o oh x1 x2 (-(nI 6)) (-(nI 6)) (-(nI 6)) F0)) rfl ?_
  refine ab_W.callV (mm _) (hX_o lo n1) rfl (k := 16) (av := [.ref o, .ref ah]) (c' := (55, [.ref o, .ref a], [.ref o], (0, 0), hX h o oh x1 x2 (-(nI 6)) (-(nI 6)) (-(nI 6)) F0)) rfl ?_
  refine sp_countChanges (d + 9) (hX_o lo n1) (hX_oh loh) ((hX_ne n5 n3).trans hf) ?_
  show ab_W _ _ _ (55, [.ref o, .ref a], [.int (nI (chF F0 f 64)), .ref o], (0, 0), hX h o oh x1 x2 (-(nI 6)) (-(nI 6)) (-(nI 6)) F0)
  rw [ech]
  have hch : chF (fl N 6 1 f) f 64 ≤ 64 := cn_le _ _
  generalize hm : chF (fl N 6 1 f) f 64 = m at hch
  show ab_W _ _ _ (55, [.ref o, .ref a], [.int (nI m), .ref o], (0, 0), hX h o oh x1 x2 (-(nI 6)) (-(nI 6)) (-(nI 6)) F0)
  refine ab_W.o (mm _) (hX_o lo n1) rfl (c' := (58, [.ref o, .ref a], [], (0, 0), (hX h o oh x1 x2 (-(nI 6)) (-(nI 6)) (-(nI 6)) F0).set o (.inr (1, [.ref oh, .int x1, .int (nI m), .int (-(nI 6)), .int (-(nI 6)), .int (-(nI 6))])))) rfl ?_
  refine ab_W.hp (hX_put n1) ?_
  show ab_W _ _ _ (58, [.ref o, .ref a], [], (0, 0), hX h o oh x1 (nI m) (-(nI 6)) (-(nI 6)) (-(nI 6)) F0)
  refine ab_W.go (mm _) 2 (c' := (60, [.ref o, .ref a], [.ref o, .ref o], (0, 0), hX h o oh x1 (nI m) (-(nI 6)) (-(nI 6)) (-(nI 6)) F0)) rfl ?_
  refine ab_W.o (mm _) (hX_o lo n1) rfl (c' := (63, [.ref o, .ref a], [.int (nI m), .ref o], (0, 0), hX h o oh x1 (nI m) (-(nI 6)) (-(nI 6)) (-(nI 6)) F0)) rfl ?_
  refine ab_W.ite (mm _) (p := (nI m) ≤ 0) (c1 := (70, [.ref o, .ref a], [.ref o], (0, 0), hX h o oh x1 (nI m) (-(nI 6)) (-(nI 6)) (-(nI 6)) F0)) (c2 := (66, [.ref o, .ref a], [.ref o], (0, 0), hX h o oh x1 (nI m) (-(nI 6)) (-(nI 6)) (-(nI 6)) F0)) rfl (fun q => ?_) (fun q => ?_)
  · skip
    have q : m = 0 := by
      have := (nI_leI (a := m) (b := 0) (by omega) (by omega)).mp q
      omega
    have eu : ∀ c, c < 64 → F0 c = f c := by
      intro c hc
      rw [eF c hc]
      exact Classical.byContradiction fun z => cn_zero (show cn _ 64 = 0 from hm.trans q) c hc z
    refine ab_W.go (mm _) 1 (c' := (71, [.ref o, .ref a], [.int (nI 0), .ref o], (0, 0), hX h o oh x1 (nI m) (-(nI 6)) (-(nI 6)) (-(nI 6)) F0)) rfl ?_
    refine ab_W.o (mm _) (hX_o lo n1) rfl (c' := (74, [.ref o, .ref a], [], (0, 0), (hX h o oh x1 (nI m) (-(nI 6)) (-(nI 6)) (-(nI 6)) F0).set o (.inr (1, [.ref oh, .int (nI 0), .int (nI m), .int (-(nI 6)), .int (-(nI 6)), .int (-(nI 6))])))) rfl ?_
    refine ab_W.hp (hX_put n1) ?_
    show ab_W _ _ _ (74, [.ref o, .ref a], [], (0, 0), hX h o oh (nI 0) (nI m) (-(nI 6)) (-(nI 6)) (-(nI 6)) F0)
    refine ab_W.go (mm _) 1 (c' := (75, [.ref o, .ref a], [.ref o], (0, 0), hX h o oh (nI 0) (nI m) (-(nI 6)) (-(nI 6)) (-(nI 6)) F0)) rfl ?_
    refine ab_W.o (mm _) (hX_o lo n1) rfl (c' := (78, [.ref o, .ref a], [.int (nI 0)], (0, 0), hX h o oh (nI 0) (nI m) (-(nI 6)) (-(nI 6)) (-(nI 6)) F0)) rfl ?_
    refine ab_W.itT (mm _) (p := (nI 0) = 0) (c1 := (81, [.ref o, .ref a], [], (0, 0), hX h o oh (nI 0) (nI m) (-(nI 6)) (-(nI 6)) (-(nI 6)) F0)) (c2 := (93, [.ref o, .ref a], [], (0, 0), hX h o oh (nI 0) (nI m) (-(nI 6)) (-(nI 6)) (-(nI 6)) F0)) rfl (nI_0) ?_
    refine ab_W.go (mm _) 2 (c' := (83, [.ref o, .ref a], [.ref a, .ref o], (0, 0), hX h o oh (nI 0) (nI m) (-(nI 6)) (-(nI 6)) (-(nI 6)) F0)) rfl ?_
    refine ab_W.o (mm _) ((hX_ne n4 n2).trans hs) rfl (c' := (86, [.ref o, .ref a], [.long N, .ref o], (0, 0), hX h o oh (nI 0) (nI m) (-(nI 6)) (-(nI 6)) (-(nI 6)) F0)) rfl ?_
    refine ab_W.callV (mm _) (hX_o lo n1) rfl (k := 17) (av := [.ref o, .long N]) (c' := (89, [.ref o, .ref a], [], (0, 0), hX h o oh (nI 0) (nI m) (-(nI 6)) (-(nI 6)) (-(nI 6)) F0)) rfl ?_
    show mCC _ 17 _ (hX h o oh (nI 0) (nI m) (-(nI 6)) (-(nI 6)) (-(nI 6)) F0) _
    unfold hX
    rw [← hF_hA n1]
    refine sp_choosePiece (d + 5) (by rw [hA_len]; exact lo) n1 (hA_at loh) hN (fun k hB => ?_)
    have hBf := hB.congr eu
    obtain ⟨⟨k1, k2, k3⟩, -⟩ := id hB
    show ab_W _ _ _ (89, [.ref o, .ref a], [], (0, 0), hF (hA h oh F0) o oh (nI 0) (nI m) (nI (cst F0 k)) (nI (beg k)) (nI (dep k)))
    refine ab_W.hp (hF_hA n1) ?_
    show ab_W _ _ _ (89, [.ref o, .ref a], [], (0, 0), hX h o oh (nI 0) (nI m) (nI (cst F0 k)) (nI (beg k)) (nI (dep k)) F0)
    refine ab_W.go (mm _) 1 (c' := (90, [.ref o, .ref a], [.ref o], (0, 0), hX h o oh (nI 0) (nI m) (nI (cst F0 k)) (nI (beg k)) (nI (dep k)) F0)) rfl ?_
    refine ab_W.callV (mm _) (hX_o lo n1) rfl (k := 18) (av := [.ref o]) (c' := (93, [.ref o, .ref a], [], (0, 0), hX h o oh (nI 0) (nI m) (nI (cst F0 k)) (nI (beg k)) (nI (dep k)) F0)) rfl ?_
    refine sp_raisePiece (d + 8) lo loh n1 k1 k2 ?_
    show ab_W _ _ _ (93, [.ref o, .ref a], [], (0, 0), hX h o oh (nI 0) (nI (siz k)) (nI (cst F0 k)) (nI (beg k)) (nI (dep k)) (rsF F0 (beg k) (beg k + siz k)))
    refine ab_W.ret (mm _) (v := none) rfl ?_
    refine hp _ _ _ _ _ _ (Or.inr ⟨hm.trans q, k, hBf, rfl, rfl, by rw [cst_congr eu k1 k2], rfl, rfl, fun c hc => ?_⟩)
    unfold rsF
    rw [eu c hc]
  · skip
    have q : 0 < m := by
      rcases Nat.eq_zero_or_pos m with z | z
      · exact absurd (by rw [z]; decide) q
      · exact z
    refine ab_W.go (mm _) 2 (c' := (71, [.ref o, .ref a], [.int (nI 1), .ref o], (0, 0), hX h o oh x1 (nI m) (-(nI 6)) (-(nI 6)) (-(nI 6)) F0)) rfl ?_
    refine ab_W.o (mm _) (hX_o lo n1) rfl (c' := (74, [.ref o, .ref a], [], (0, 0), (hX h o oh x1 (nI m) (-(nI 6)) (-(nI 6)) (-(nI 6)) F0).set o (.inr (1, [.ref oh, .int (nI 1), .int (nI m), .int (-(nI 6)), .int (-(nI 6)), .int (-(nI 6))])))) rfl ?_
    refine ab_W.hp (hX_put n1) ?_
    show ab_W _ _ _ (74, [.ref o, .ref a], [], (0, 0), hX h o oh (nI 1) (nI m) (-(nI 6)) (-(nI 6)) (-(nI 6)) F0)
    refine ab_W.go (mm _) 1 (c' := (75, [.ref o, .ref a], [.ref o], (0, 0), hX h o oh (nI 1) (nI m) (-(nI 6)) (-(nI 6)) (-(nI 6)) F0)) rfl ?_
    refine ab_W.o (mm _) (hX_o lo n1) rfl (c' := (78, [.ref o, .ref a], [.int (nI 1)], (0, 0), hX h o oh (nI 1) (nI m) (-(nI 6)) (-(nI 6)) (-(nI 6)) F0)) rfl ?_
    refine ab_W.itF (mm _) (p := (nI 1) = 0) (c1 := (81, [.ref o, .ref a], [], (0, 0), hX h o oh (nI 1) (nI m) (-(nI 6)) (-(nI 6)) (-(nI 6)) F0)) (c2 := (93, [.ref o, .ref a], [], (0, 0), hX h o oh (nI 1) (nI m) (-(nI 6)) (-(nI 6)) (-(nI 6)) F0)) rfl (nI_ne01) ?_
    refine ab_W.ret (mm _) (v := none) rfl ?_
    exact hp _ _ _ _ _ _ (Or.inl ⟨by rw [hm]; exact q, rfl, by rw [hm], rfl, rfl, rfl, eF⟩)
end
section
/-! how many bits: Long.bitCount against a plain count -/
def uN (x : Int64) : Nat := x.toBitVec.toNat
theorem uN_lt (x : Int64) : uN x < 18446744073709551616 := x.toBitVec.isLt
theorem uN_and (x y : Int64) : uN (x &&& y) = uN x &&& uN y := by
  unfold uN
  rw [Int64.toBitVec_and, BitVec.toNat_and]
theorem uN_add (x y : Int64) : uN (x + y) = (uN x + uN y) % 18446744073709551616 := by
  unfold uN
  rw [Int64.toBitVec_add, BitVec.toNat_add]
theorem uN_subL {x y : Int64} (h : uN y ≤ uN x) : uN (x - y) = uN x - uN y := by
  have h1 := uN_lt x
  unfold uN at *
  rw [Int64.toBitVec_sub, BitVec.toNat_sub]
  omega
theorem sh_amtU : ∀ i, i < 64 → ((nI i).toInt64.toUInt64 &&& Int64.toUInt64 63).toNat % 64 = i := by decide +kernel
theorem uN_shr (x : Int64) {i : Nat} (hi : i < 64) : uN (x.toUInt64 >>> ((nI i).toInt64.toUInt64 &&& Int64.toUInt64 63)).toInt64 = uN x / 2 ^ i := by
  show (x.toUInt64 >>> ((nI i).toInt64.toUInt64 &&& Int64.toUInt64 63)).toNat = _
  rw [UInt64.toNat_shiftRight, sh_amtU i hi, Nat.shiftRight_eq_div_pow]
  rfl
theorem and_dig {a b c e : Nat} (hb : b < 256) (he : e < 256) : (a * 256 + b) &&& (c * 256 + e) = (a &&& c) * 256 + (b &&& e) := by
  apply Nat.eq_of_testBit_eq
  intro i
  have h8 : (256 : Nat) = 2 ^ 8 := by decide
  have hbe : b &&& e < 2 ^ 8 := Nat.lt_of_le_of_lt Nat.and_le_left (by omega)
  rw [Nat.testBit_and, Nat.mul_comm a, Nat.mul_comm c, Nat.mul_comm (a &&& c), h8, Nat.testBit_two_pow_mul_add _ (by omega), Nat.testBit_two_pow_mul_add _ (by omega), Nat.testBit_two_pow_mul_add _ hbe]
  by_cases hi : i < 8
  · simp [hi, Nat.testBit_and]
  · simp [hi, Nat.testBit_and]
def pop8 (b : Nat) : Nat := b % 2 + b / 2 % 2 + b / 4 % 2 + b / 8 % 2 + b / 16 % 2 + b / 32 % 2 + b / 64 % 2 + b / 128 % 2
def Mk (m : Nat) : Nat → Nat
  | 0 => 0
  | n + 1 => Mk m n * 256 + m
def q1 (b : Nat) : Nat := b - ((b / 2) &&& 85)
def q2 (b : Nat) : Nat := (b &&& 51) + ((b / 4) &&& 51)
def p1 (n x : Nat) : Nat := x - ((x / 2) &&& Mk 85 n)
def p2 (n x : Nat) : Nat := (x &&& Mk 51 n) + ((x / 4) &&& Mk 51 n)
def p3 (n x : Nat) : Nat := (x + x / 16) &&& Mk 15 n
theorem pk_1 : ∀ t, t < 2 → ∀ b, b < 256 → (t * 128 + b / 2) &&& 85 = (b / 2) &&& 85 := by decide +kernel
theorem pk_2 : ∀ t, t < 4 → ∀ b, b < 256 → (t * 64 + b / 4) &&& 51 = (b / 4) &&& 51 := by decide +kernel
theorem pk_3 : ∀ b, b < 256 → q1 b < 256 ∧ q2 (q1 b) < 256 ∧ q2 (q1 b) % 16 ≤ 4 := by decide +kernel
theorem pk_4 : ∀ t, t ≤ 4 → ∀ b, b < 256 → q2 (q1 b) + (t * 16 + q2 (q1 b) / 16) < 256 ∧ (q2 (q1 b) + (t * 16 + q2 (q1 b) / 16)) &&& 15 = pop8 b := by decide +kernel
theorem p1_s {n x b : Nat} (hb : b < 256) : p1 (n + 1) (x * 256 + b) = p1 n x * 256 + q1 b := by
  unfold p1 q1
  have e : (x * 256 + b) / 2 = (x / 2) * 256 + ((x % 2) * 128 + b / 2) := by omega
  rw [e, show Mk 85 (n + 1) = Mk 85 n * 256 + 85 from rfl, and_dig (by omega) (by omega), pk_1 (x % 2) (by omega) b hb]
  have h1 : (x / 2) &&& Mk 85 n ≤ x / 2 := Nat.and_le_left
  have h2 : (b / 2) &&& 85 ≤ b / 2 := Nat.and_le_left
  omega
theorem p2_s {n x b : Nat} (hb : b < 256) : p2 (n + 1) (x * 256 + b) = p2 n x * 256 + q2 b := by
  unfold p2 q2
  have e : (x * 256 + b) / 4 = (x / 4) * 256 + ((x % 4) * 64 + b / 4) := by omega
  rw [e, show Mk 51 (n + 1) = Mk 51 n * 256 + 51 from rfl, and_dig hb (by omega), and_dig (by omega) (by omega), pk_2 (x % 4) (by omega) b hb]
  omega
theorem p12_mod {n x : Nat} (hn : 1 ≤ n) : p2 n (p1 n x) % 16 ≤ 4 := by
  obtain ⟨m, rfl⟩ : ∃ m, n = m + 1 := ⟨n - 1, by omega⟩
  have hb : x % 256 < 256 := Nat.mod_lt _ (by decide)
  have h3 := pk_3 (x % 256) hb
  rw [show x = (x / 256) * 256 + x % 256 by omega, p1_s hb, p2_s h3.1]
  have := h3.2.2
  omega
theorem p12_0 (x : Nat) : p2 0 x = 0 := by
  show (x &&& 0) + ((x / 4) &&& 0) = 0
  rw [Nat.and_zero, Nat.and_zero]
theorem p123_s {n x b : Nat} (hb : b < 256) (hx : n = 0 → x = 0) : p3 (n + 1) (p2 (n + 1) (p1 (n + 1) (x * 256 + b))) = p3 n (p2 n (p1 n x)) * 256 + pop8 b := by
  have h3 := pk_3 b hb
  have ht : p2 n (p1 n x) % 16 ≤ 4 := by
    rcases Nat.eq_zero_or_pos n with z | z
    · subst z
      rw [p12_0]; decide
    · exact p12_mod z
  rw [p1_s hb, p2_s h3.1]
  generalize p2 n (p1 n x) = z at ht
  obtain ⟨h4, h5⟩ := pk_4 (z % 16) ht b hb
  generalize q2 (q1 b) = y at h3 h4 h5
  unfold p3
  have e : z * 256 + y + (z * 256 + y) / 16 = (z + z / 16) * 256 + (y + (z % 16 * 16 + y / 16)) := by omega
  rw [e, show Mk 15 (n + 1) = Mk 15 n * 256 + 15 from rfl, and_dig h4 (by omega), h5]
def dg : Nat → Nat → Nat
  | 0, _ => 0
  | n + 1, x => dg n (x / 256) * 256 + pop8 (x % 256)
def popN : Nat → Nat → Nat
  | 0, _ => 0
  | n + 1, x => popN n (x / 256) + pop8 (x % 256)
theorem p123_dg : ∀ (n x : Nat), x < 256 ^ n → p3 n (p2 n (p1 n x)) = dg n x := by
  intro n
  induction n with
  | zero =>
    intro x _
    show (_ &&& 0) = 0
    rw [Nat.and_zero]
  | succ n ih =>
    intro x hx
    have hb : x % 256 < 256 := Nat.mod_lt _ (by decide)
    have hx2 : x / 256 < 256 ^ n := by
      rw [Nat.pow_succ] at hx
      exact Nat.div_lt_of_lt_mul (by rw [Nat.mul_comm]; exact hx)
    have e : x = (x / 256) * 256 + x % 256 := by omega
    have h1 := p123_s (n := n) (x := x / 256) hb (fun z => by subst z; simpa using hx2)
    rw [← e] at h1
    rw [h1, ih _ hx2]
    rfl
theorem pop8_le : ∀ b, pop8 b ≤ 8 := by
  intro b
  unfold pop8
  omega
def fin7 (w : Nat) : Nat := (((w + w / 256) + (w + w / 256) / 65536) + ((w + w / 256) + (w + w / 256) / 65536) / 4294967296) % 128
theorem fin_dig {g0 g1 g2 g3 g4 g5 g6 g7 W0 W1 W2 W3 W4 W5 W6 W7 : Nat} (b0 : g0 ≤ 8) (b1 : g1 ≤ 8) (b2 : g2 ≤ 8) (b3 : g3 ≤ 8) (b4 : g4 ≤ 8) (b5 : g5 ≤ 8) (b6 : g6 ≤ 8) (b7 : g7 ≤ 8) (h7 : W7 = 0 * 256 + g7) (h6 : W6 = W7 * 256 + g6) (h5 : W5 = W6 * 256 + g5) (h4 : W4 = W5 * 256 + g4) (h3 : W3 = W4 * 256 + g3) (h2 : W2 = W3 * 256 + g2) (h1 : W1 = W2 * 256 + g1) (h0 : W0 = W1 * 256 + g0) : fin7 W0 = 0 + g7 + g6 + g5 + g4 + g3 + g2 + g1 + g0 := by
  unfold fin7
  have a1 : W0 / 256 = W1 := by clear h1 h2 h3 h4 h5 h6 h7; omega
  rw [a1]
  have a2 : (W0 + W1) / 65536 = W2 + W3 := by clear a1 h3 h4 h5 h6 h7; omega
  rw [a2]
  obtain ⟨S0, e0⟩ : ∃ S, S = W0 + W1 + (W2 + W3) := ⟨_, rfl⟩
  obtain ⟨S1, e1⟩ : ∃ S, S = W1 + W2 + (W3 + W4) := ⟨_, rfl⟩
  obtain ⟨S2, e2⟩ : ∃ S, S = W2 + W3 + (W4 + W5) := ⟨_, rfl⟩
  obtain ⟨S3, e3⟩ : ∃ S, S = W3 + W4 + (W5 + W6) := ⟨_, rfl⟩
  obtain ⟨S4, e4⟩ : ∃ S, S = W4 + W5 + (W6 + W7) := ⟨_, rfl⟩
  obtain ⟨S5, e5⟩ : ∃ S, S = W5 + W6 + W7 := ⟨_, rfl⟩
  have f0 : S0 = S1 * 256 + (g0 + g1 + (g2 + g3)) := by clear a1 a2; omega
  have f1 : S1 = S2 * 256 + (g1 + g2 + (g3 + g4)) := by clear a1 a2; omega
  have f2 : S2 = S3 * 256 + (g2 + g3 + (g4 + g5)) := by clear a1 a2; omega
  have f3 : S3 = S4 * 256 + (g3 + g4 + (g5 + g6)) := by clear a1 a2; omega
  have f4 : S4 = S5 * 256 + (g4 + g5 + (g6 + g7)) := by clear a1 a2; omega
  rw [← e0]
  clear e0 e1 e2 e3 e4 e5 a1 a2 h0 h1 h2 h3 h4 h5 h6 h7
  have d1 : S0 / 256 = S1 := by clear f1 f2 f3 f4; omega
  have d2 : S1 / 256 = S2 := by clear f0 f2 f3 f4 d1; omega
  have d3 : S2 / 256 = S3 := by clear f0 f1 f3 f4 d1 d2; omega
  have d4 : S3 / 256 = S4 := by clear f0 f1 f2 f4 d1 d2 d3; omega
  have a3 : S0 / 4294967296 = S4 := by
    rw [show (4294967296 : Nat) = 256 * 256 * 256 * 256 by decide, ← Nat.div_div_eq_div_mul, ← Nat.div_div_eq_div_mul, ← Nat.div_div_eq_div_mul, d1, d2, d3, d4]
  rw [a3]
  clear a3 d1 d2 d3 d4 f1 f2 f3
  omega
theorem dg_lt : ∀ (n x : Nat), dg n x * 16 < 256 ^ n ∨ n = 0 := by
  intro n
  induction n with
  | zero => intro x; exact Or.inr rfl
  | succ n ih =>
    intro x
    left
    have h8 := pop8_le (x % 256)
    show (dg n (x / 256) * 256 + pop8 (x % 256)) * 16 < _
    rw [Nat.pow_succ]
    rcases ih (x / 256) with h | h
    · generalize 256 ^ n = P at h
      omega
    · subst h
      show (0 * 256 + pop8 (x % 256)) * 16 < 256 ^ 0 * 256
      omega
theorem dg_fin (x : Nat) : fin7 (dg 8 x) = popN 8 x := fin_dig (pop8_le _) (pop8_le _) (pop8_le _) (pop8_le _) (pop8_le _) (pop8_le _) (pop8_le _) (pop8_le _) rfl rfl rfl rfl rfl rfl rfl rfl
end
section
/-! Long.bitCount, Integer.bitCount; the least cell; the least span around a name -/
def cntB (x : Nat) : Nat → Nat
  | 0 => 0
  | j + 1 => cntB x j + x / 2 ^ j % 2
theorem bt_div (N : Int64) (i : Nat) : (if bt N i = true then 1 else 0) = uN N / 2 ^ i % 2 := by
  have e : bt N i = decide (uN N / 2 ^ i % 2 = 1) := Nat.testBit_eq_decide_div_mod_eq
  rw [e]
  by_cases h : uN N / 2 ^ i % 2 = 1
  · rw [h]; rfl
  · have := Nat.mod_two_eq_zero_or_one (uN N / 2 ^ i)
    rw [if_neg (by simpa using h)]
    omega
theorem cnt_B (N : Int64) : ∀ j, cnt N j = cntB (uN N) j := by
  intro j
  induction j with
  | zero => rfl
  | succ j ih =>
    show cnt N j + (if bt N j = true then 1 else 0) = cntB (uN N) j + uN N / 2 ^ j % 2
    rw [ih, bt_div]
theorem cntB_8 (x : Nat) : ∀ j, cntB x (8 + j) = pop8 (x % 256) + cntB (x / 256) j := by
  intro j
  induction j with
  | zero =>
    show ((((((((0 + x / 2 ^ 0 % 2) + x / 2 ^ 1 % 2) + x / 2 ^ 2 % 2) + x / 2 ^ 3 % 2) + x / 2 ^ 4 % 2) + x / 2 ^ 5 % 2) + x / 2 ^ 6 % 2) + x / 2 ^ 7 % 2) = pop8 (x % 256) + 0
    unfold pop8
    omega
  | succ j ih =>
    show cntB x (8 + j) + x / 2 ^ (8 + j) % 2 = _
    rw [ih, Nat.pow_add, ← Nat.div_div_eq_div_mul]
    show _ = pop8 (x % 256) + (cntB (x / 256) j + x / 256 / 2 ^ j % 2)
    rw [show (2 : Nat) ^ 8 = 256 by decide]
    omega
theorem popN_B : ∀ (n x : Nat), popN n x = cntB x (8 * n) := by
  intro n
  induction n with
  | zero => intro x; rfl
  | succ n ih =>
    intro x
    rw [show 8 * (n + 1) = 8 + 8 * n by omega, cntB_8]
    show popN n (x / 256) + pop8 (x % 256) = _
    rw [ih]
    omega
theorem toI32_low (A : Int64) : (A.toInt32 &&& nI 127) = nI (uN A % 128) := by
  rw [pk_and A.toInt32 7 (by decide)]
  have e : A.toInt32.toBitVec.toNat = uN A % 2 ^ 32 := by
    rw [Int64.toBitVec_toInt32, BitVec.signExtend_eq_setWidth_of_le _ (by decide), BitVec.toNat_setWidth]
    rfl
  rw [e]
  congr 1
  omega
theorem uc1 : uN (lN 6148914691236517205) = Mk 85 8 := by decide +kernel
theorem uc2 : uN (lN 3689348814741910323) = Mk 51 8 := by decide +kernel
theorem uc3 : uN (lN 1085102592571150095) = Mk 15 8 := by decide +kernel
theorem Mk51 : Mk 51 8 = 3689348814741910323 := by decide +kernel
section BC
variable {N A1 A2 A3 A4 A5 A6 : Int64}
theorem bc1 (h : A1 = N - ((N.toUInt64 >>> ((nI 1).toInt64.toUInt64 &&& Int64.toUInt64 63)).toInt64 &&& lN 6148914691236517205)) : uN A1 = p1 8 (uN N) := by
  have e : uN ((N.toUInt64 >>> ((nI 1).toInt64.toUInt64 &&& Int64.toUInt64 63)).toInt64 &&& lN 6148914691236517205) = (uN N / 2 &&& Mk 85 8) := by
    rw [uN_and, uN_shr N (by decide), uc1]
  have hle : (uN N / 2 &&& Mk 85 8) ≤ uN N := Nat.le_trans Nat.and_le_left (Nat.div_le_self _ _)
  rw [h, uN_subL (by rw [e]; exact hle), e]
  rfl
theorem bc2 (h : A2 = (A1 &&& lN 3689348814741910323) + ((A1.toUInt64 >>> ((nI 2).toInt64.toUInt64 &&& Int64.toUInt64 63)).toInt64 &&& lN 3689348814741910323)) : uN A2 = p2 8 (uN A1) ∧ uN A2 ≤ 7378697629483820646 := by
  have e : uN A2 = ((uN A1 &&& Mk 51 8) + ((uN A1 / 4) &&& Mk 51 8)) % 18446744073709551616 := by
    rw [h, uN_add, uN_and, uN_and, uN_shr A1 (by decide), uc2]
  have h1 : uN A1 &&& Mk 51 8 ≤ Mk 51 8 := Nat.and_le_right
  have h2 : (uN A1 / 4) &&& Mk 51 8 ≤ Mk 51 8 := Nat.and_le_right
  rw [Mk51] at h1 h2
  have e2 : uN A2 = (uN A1 &&& Mk 51 8) + ((uN A1 / 4) &&& Mk 51 8) := by
    rw [e, Mk51]
    generalize uN A1 &&& 3689348814741910323 = a at *
    generalize uN A1 / 4 &&& 3689348814741910323 = b at *
    omega
  refine ⟨e2, ?_⟩
  rw [e2, Mk51]
  omega
theorem bc3 (h : A3 = (A2 + (A2.toUInt64 >>> ((nI 4).toInt64.toUInt64 &&& Int64.toUInt64 63)).toInt64) &&& lN 1085102592571150095) (h2 : uN A2 ≤ 7378697629483820646) : uN A3 = p3 8 (uN A2) := by
  rw [h, uN_and, uN_add, uN_shr A2 (by decide), uc3]
  unfold p3
  rw [Nat.mod_eq_of_lt (by omega)]
theorem bcS {A B : Int64} {i k : Nat} (hi : i < 64) (hk : 2 ^ i = k) (h : B = A + (A.toUInt64 >>> ((nI i).toInt64.toUInt64 &&& Int64.toUInt64 63)).toInt64) (hA : uN A < 4611686018427387904) (h0 : 2 ≤ k) : uN B = uN A + uN A / k ∧ uN B < 2 * (uN A + 1) := by
  have hd : uN A / k ≤ uN A := Nat.div_le_self _ _
  have e : uN B = (uN A + uN A / k) % 18446744073709551616 := by rw [h, uN_add, uN_shr A hi, hk]
  rw [Nat.mod_eq_of_lt (by omega)] at e
  exact ⟨e, by omega⟩
end BC
theorem bit_count (d : Nat) {h : ab_H} {N : Int64} {post : ab_P} (hp : post (some (.int (nI (cnt N 64)))) h) : mCC (d + 1) kLong_bitCount [.long N] h post := by
  obtain ⟨A1, h1⟩ : ∃ A : Int64, A = N - ((N.toUInt64 >>> ((nI 1).toInt64.toUInt64 &&& Int64.toUInt64 63)).toInt64 &&& lN 6148914691236517205) := ⟨_, rfl⟩
  obtain ⟨A2, h2⟩ : ∃ A : Int64, A = (A1 &&& lN 3689348814741910323) + ((A1.toUInt64 >>> ((nI 2).toInt64.toUInt64 &&& Int64.toUInt64 63)).toInt64 &&& lN 3689348814741910323) := ⟨_, rfl⟩
  obtain ⟨A3, h3⟩ : ∃ A : Int64, A = (A2 + (A2.toUInt64 >>> ((nI 4).toInt64.toUInt64 &&& Int64.toUInt64 63)).toInt64) &&& lN 1085102592571150095 := ⟨_, rfl⟩
  obtain ⟨A4, h4⟩ : ∃ A : Int64, A = A3 + (A3.toUInt64 >>> ((nI 8).toInt64.toUInt64 &&& Int64.toUInt64 63)).toInt64 := ⟨_, rfl⟩
  obtain ⟨A5, h5⟩ : ∃ A : Int64, A = A4 + (A4.toUInt64 >>> ((nI 16).toInt64.toUInt64 &&& Int64.toUInt64 63)).toInt64 := ⟨_, rfl⟩
  obtain ⟨A6, h6⟩ : ∃ A : Int64, A = A5 + (A5.toUInt64 >>> ((nI 32).toInt64.toUInt64 &&& Int64.toUInt64 63)).toInt64 := ⟨_, rfl⟩
  have e1 := bc1 h1
  have e2 := bc2 h2
  have e3 : uN A3 = dg 8 (uN N) := by
    rw [bc3 h3 e2.2, e2.1, e1]
    exact p123_dg 8 (uN N) (uN_lt N)
  have hl := (dg_lt 8 (uN N)).resolve_right (by decide)
  rw [show (256 : Nat) ^ 8 = 18446744073709551616 by decide, ← e3] at hl
  have e4 := bcS (by decide) rfl h4 (by omega) (by decide)
  have e5 := bcS (by decide) rfl h5 (by omega) (by decide)
  have e6 := bcS (by decide) rfl h6 (by omega) (by decide)
  have fin : (A6.toInt32 &&& nI 127) = nI (cnt N 64) := by
    rw [toI32_low, e6.1, e5.1, e4.1, e3, cnt_B, ← popN_B 8, ← dg_fin]
    rfl
  refine ⟨rfl, ?_⟩
  show ab_W _ _ _ (0, [.long N, .retAddr 0], [], (0, 0), h)
  refine ab_W.go (mm _) 7 (c' := (9, [.long N, .retAddr 0], [.long (N - (((N.toUInt64 >>> ((nI 1).toInt64.toUInt64 &&& Int64.toUInt64 63)).toInt64) &&& (lN 6148914691236517205)))], (0, 0), h)) rfl ?_
  refine ab_W.topl (h1.symm) ?_
  refine ab_W.go (mm _) 10 (c' := (23, [.long A1, .retAddr 0], [.long ((A1 &&& (lN 3689348814741910323)) + (((A1.toUInt64 >>> ((nI 2).toInt64.toUInt64 &&& Int64.toUInt64 63)).toInt64) &&& (lN 3689348814741910323)))], (0, 0), h)) rfl ?_
  refine ab_W.topl (h2.symm) ?_
  refine ab_W.go (mm _) 8 (c' := (33, [.long A2, .retAddr 0], [.long ((A2 + ((A2.toUInt64 >>> ((nI 4).toInt64.toUInt64 &&& Int64.toUInt64 63)).toInt64)) &&& (lN 1085102592571150095))], (0, 0), h)) rfl ?_
  refine ab_W.topl (h3.symm) ?_
  refine ab_W.go (mm _) 6 (c' := (40, [.long A3, .retAddr 0], [.long (A3 + ((A3.toUInt64 >>> ((nI 8).toInt64.toUInt64 &&& Int64.toUInt64 63)).toInt64))], (0, 0), h)) rfl ?_
  refine ab_W.topl (h4.symm) ?_
  refine ab_W.go (mm _) 6 (c' := (47, [.long A4, .retAddr 0], [.long (A4 + ((A4.toUInt64 >>> ((nI 16).toInt64.toUInt64 &&& Int64.toUInt64 63)).toInt64))], (0, 0), h)) rfl ?_
  refine ab_W.topl (h5.symm) ?_
  refine ab_W.go (mm _) 6 (c' := (54, [.long A5, .retAddr 0], [.long (A5 + ((A5.toUInt64 >>> ((nI 32).toInt64.toUInt64 &&& Int64.toUInt64 63)).toInt64))], (0, 0), h)) rfl ?_
  refine ab_W.topl (h6.symm) ?_
  refine ab_W.go (mm _) 5 (c' := (60, [.long A6, .retAddr 0], [.int (A6.toInt32 &&& (nI 127))], (0, 0), h)) rfl ?_
  refine ab_W.topi (fin) ?_
  refine ab_W.retI (mm _) (rt := some .int) (v := nI (cnt N 64)) rfl rfl ?_
  exact hp
/-- the least cell of a name -/
def low (N : Int64) (c : Nat) : Prop := c < 64 ∧ bt N c = true ∧ ∀ j, j < c → bt N j = false
theorem low_ex {N : Int64} (h : ¬ N = lN 0) : ∃ c, low N c := by
  have h1 : ∃ c, c < 64 ∧ bt N c = true := by
    apply Classical.byContradiction
    intro hn
    apply h
    apply bt_ext
    intro j hj
    rw [bt_0 j hj]
    cases hb : bt N j with
    | false => rfl
    | true => exact absurd ⟨j, hj, hb⟩ hn
  obtain ⟨c, ⟨c1, c2⟩, c3⟩ := pk_least (fun c => c < 64 ∧ bt N c = true) h1
  refine ⟨c, c1, c2, fun j hj => ?_⟩
  cases hb : bt N j with
  | false => rfl
  | true => exact absurd ⟨by omega, hb⟩ (c3 j hj)
theorem bt_pow : ∀ c, c < 64 → ∀ j, j < 64 → bt (lN (2 ^ c)) j = decide (j = c) := by decide +kernel
theorem low_and {N : Int64} {c : Nat} (h : low N c) : (N &&& (-N)) = lN (2 ^ c) := by
  obtain ⟨h1, h2, h3⟩ := h
  apply bt_ext
  intro j hj
  rw [bt_and, bt_pow c h1 j hj]
  have e : bt (-N) j = (bt N j ^^ (decide (j < 64) && decide (∃ i, i < j ∧ bt N i = true))) := by
    unfold bt
    rw [Int64.toBitVec_neg, BitVec.getLsbD_neg]
  rw [e, decide_eq_true hj, Bool.true_and]
  rcases Nat.lt_trichotomy j c with q | q | q
  · rw [h3 j q, decide_eq_false (show ¬ j = c by omega)]
    rfl
  · subst q
    rw [h2, decide_eq_true rfl, decide_eq_false]
    · rfl
    · rintro ⟨i, i1, i2⟩
      rw [h3 i i1] at i2
      cases i2
  · rw [decide_eq_false (by omega : ¬ j = c), decide_eq_true ⟨c, q, h2⟩]
    cases bt N j <;> rfl
theorem cnt_pow : ∀ c, c < 64 → cnt (lN (2 ^ c) - lN 1) 64 = c := by decide +kernel
theorem sp_lowestCell (d : Nat) {h : ab_H} {N : Int64} {c : Nat} (hc : low N c) {post : ab_P} (hp : post (some (.int (nI c))) h) : mCC (d + 2) kSpan_lowestCell [.long N] h post := by
  refine ⟨rfl, ?_⟩
  show ab_W _ _ _ (0, [.long N, .retAddr 0], [], (0, 0), h)
  refine ab_W.go (mm _) 4 (c' := (4, [.long N, .retAddr 0], [.long (N &&& (-N))], (0, 0), h)) rfl ?_
  refine ab_W.topl (low_and hc) ?_
  refine ab_W.go (mm _) 2 (c' := (6, [.long N, .retAddr 0], [.long ((lN (2 ^ c)) - (lN 1))], (0, 0), h)) rfl ?_
  refine ab_W.call (mm _) (k := 122) (av := [.long ((lN (2 ^ c)) - (lN 1))]) (c' := (9, [.long N, .retAddr 0], [], (0, 0), h)) rfl ?_
  refine bit_count _ ?_
  show ab_W _ _ _ (9, [.long N, .retAddr 0], [.int (nI (cnt (lN (2 ^ c) - lN 1) 64))], (0, 0), h)
  rw [cnt_pow c hc.1]
  refine ab_W.retI (mm _) (rt := some .int) (v := nI c) rfl rfl ?_
  exact hp
theorem inS_iff {N : Int64} {k : Nat} (h1 : 1 ≤ k) (hk : k < 128) : inS N k ↔ ∀ j, j < 64 → bt N j = true → inK k j := by
  unfold inS
  rw [bt_sub]
  exact ⟨fun h j hj hb => (msk_in h1 hk hj).mp (h j hj hb), fun h j hj hb => (msk_in h1 hk hj).mpr (h j hj hb)⟩
theorem inS_1 (N : Int64) : inS N 1 := (inS_iff (by decide) (by decide)).mpr (fun j hj _ => inK_1 hj)
theorem lsp_ok (N : Int64) : ∀ m, m ≤ 128 → (1 ≤ lsp N m ∧ inS N (lsp N m) ∧ (lsp N m < m ∨ lsp N m = 1) ∧ ∀ k, lsp N m < k → k < m → ¬ inS N k) := by
  intro m
  induction m with
  | zero => intro _; exact ⟨Nat.le_refl 1, inS_1 N, Or.inr rfl, fun k _ h => absurd h (Nat.not_lt_zero k)⟩
  | succ m ih =>
    intro hm
    obtain ⟨i1, i2, i3, i4⟩ := ih (by omega)
    by_cases q : 1 ≤ m ∧ (N &&& (msk m ^^^ (-(lN 1)))) = lN 0
    · rw [show lsp N (m + 1) = m from if_pos q]
      exact ⟨q.1, q.2, Or.inl (by omega), fun k h1 h2 => by omega⟩
    · rw [show lsp N (m + 1) = lsp N m from if_neg q]
      refine ⟨i1, i2, i3.imp (by omega) id, fun k h1 h2 => ?_⟩
      rcases Nat.lt_or_ge k m with z | z
      · exact i4 k h1 z
      · rw [show k = m by omega]
        exact fun w => q ⟨by omega, w⟩
/-- the least span around a name -/
def lsN (N : Int64) : Nat := lsp N 128
theorem lsN_ok (N : Int64) : 1 ≤ lsN N ∧ lsN N < 128 ∧ inS N (lsN N) ∧ ∀ k, lsN N < k → k < 128 → ¬ inS N k := by
  obtain ⟨i1, i2, i3, i4⟩ := lsp_ok N 128 (Nat.le_refl _)
  exact ⟨i1, by unfold lsN; rcases i3 with q | q <;> omega, i2, i4⟩
theorem anc_rng : ∀ δ, δ ≤ 6 → ∀ c, c < 64 → 2 ^ δ ≤ anc c δ ∧ anc c δ < 2 ^ (δ + 1) := by decide +kernel
theorem lsN_anc {N : Int64} {c δ : Nat} (hc : low N c) (hδ : δ ≤ 6) (h1 : inS N (anc c δ)) (h2 : ∀ i, δ < i → i ≤ 6 → ¬ inS N (anc c i)) : lsN N = anc c δ := by
  obtain ⟨k1, k2, k3, k4⟩ := lsN_ok N
  obtain ⟨s1, s2, s3, s4⟩ := sp_le _ k2 k1
  obtain ⟨a1, a2, a3, a4, a5⟩ := anc_ok δ hδ c hc.1
  have hin := (inS_iff k1 k2).mp k3 c hc.1 hc.2.1
  have e := anc_of _ k2 k1 c hc.1 hin.1 hin.2
  have hge : anc c δ ≤ lsN N := by
    rcases Nat.lt_or_ge (lsN N) (anc c δ) with z | z
    · exact absurd h1 (k4 _ z a2)
    · exact z
  rcases Nat.lt_trichotomy (dep (lsN N)) δ with q | q | q
  · have r1 := anc_rng _ s1 c hc.1
    have r2 := anc_rng _ hδ c hc.1
    rw [e] at r1
    have : 2 ^ (dep (lsN N) + 1) ≤ 2 ^ δ := Nat.pow_le_pow_right (by decide) q
    omega
  · rw [← q]; exact e.symm
  · exact absurd (by rw [e]; exact k3) (h2 _ q s1)
theorem pk_m1' (n : Nat) : nI n + 1 + -1 = nI n := by
  have := pk_m1 n
  rw [nI_succ] at this
  exact this
theorem sp_depthAround (d : Nat) {h : ab_H} {N : Int64} (hN : ¬ N = lN 0) {post : ab_P} (hp : post (some (.int (nI (dep (lsN N))))) h) : mCC (d + 3) kSpan_depthAround [.long N] h post := by
  obtain ⟨c, hc⟩ := low_ex hN
  have loop : ∀ δ, δ ≤ 6 → (∀ i, δ < i → i ≤ 6 → ¬ inS N (anc c i)) → ab_W (ab_st (mT kSpan_depthAround) mB mF (mR kSpan_depthAround) none) (mCC (d + 2)) post (8, [.long N, .retAddr 0, .int (nI c), .int (nI δ)], [], (0, 0), h) := by
    intro δ
    induction δ with
    | zero =>
      intro _ hno
      have e := lsN_anc hc (by decide) (by rw [anc_0 c hc.1]; exact inS_1 N) hno
      rw [e, anc_0 c hc.1] at hp
      refine ab_W.go (mm _) 1 (c' := (9, [.long N, .retAddr 0, .int (nI c), .int (nI 0)], [.int (nI 0)], (0, 0), h)) rfl ?_
      refine ab_W.itT (mm _) (p := (nI 0) ≤ 0) (c1 := (40, [.long N, .retAddr 0, .int (nI c), .int (nI 0)], [], (0, 0), h)) (c2 := (12, [.long N, .retAddr 0, .int (nI c), .int (nI 0)], [], (0, 0), h)) rfl ((by decide)) ?_
      refine ab_W.go (mm _) 1 (c' := (41, [.long N, .retAddr 0, .int (nI c), .int (nI 0)], [.int (nI 0)], (0, 0), h)) rfl ?_
      refine ab_W.retI (mm _) (rt := some .int) (v := nI 0) rfl rfl ?_
      exact hp
    | succ δ ih =>
      intro hδ hno
      obtain ⟨a1, a2, a3, a4, a5⟩ := anc_ok (δ + 1) hδ c hc.1
      refine ab_W.go (mm _) 1 (c' := (9, [.long N, .retAddr 0, .int (nI c), .int (nI (δ + 1))], [.int (nI (δ + 1))], (0, 0), h)) rfl ?_
      refine ab_W.itF (mm _) (p := (nI (δ + 1)) ≤ 0) (c1 := (40, [.long N, .retAddr 0, .int (nI c), .int (nI (δ + 1))], [], (0, 0), h)) (c2 := (12, [.long N, .retAddr 0, .int (nI c), .int (nI (δ + 1))], [], (0, 0), h)) rfl (nI_nle (by omega) (by omega)) ?_
      refine ab_W.go (mm _) 3 (c' := (15, [.long N, .retAddr 0, .int (nI c), .int (nI (δ + 1))], [.int (nI (δ + 1)), .int (nI c), .long N], (0, 0), h)) rfl ?_
      refine ab_W.call (mm _) (k := 25) (av := [.int (nI c), .int (nI (δ + 1))]) (c' := (18, [.long N, .retAddr 0, .int (nI c), .int (nI (δ + 1))], [.long N], (0, 0), h)) rfl ?_
      refine sp_firstAround _ hc.1 hδ ?_
      show ab_W _ _ _ (18, [.long N, .retAddr 0, .int (nI c), .int (nI (δ + 1))], [.int (nI (beg (anc c (δ + 1)))), .long N], (0, 0), h)
      refine ab_W.go (mm _) 1 (c' := (19, [.long N, .retAddr 0, .int (nI c), .int (nI (δ + 1))], [.int (nI (δ + 1)), .int (nI (beg (anc c (δ + 1)))), .long N], (0, 0), h)) rfl ?_
      refine ab_W.call (mm _) (k := 23) (av := [.int (nI (beg (anc c (δ + 1)))), .int (nI (δ + 1))]) (c' := (22, [.long N, .retAddr 0, .int (nI c), .int (nI (δ + 1))], [.long N], (0, 0), h)) rfl ?_
      have key : mCC (d + 2) kSpan_cellsOf [.int (nI (beg (anc c (δ + 1)))), .int (nI (dep (anc c (δ + 1))))] h (fun v h' => ab_W (ab_st (mT kSpan_depthAround) mB mF (mR kSpan_depthAround) none) (mCC (d + 2)) post (22, [.long N, .retAddr 0, .int (nI c), .int (nI (δ + 1))], v.toList ++ [.long N], (0, 0), h')) := by
        refine sp_cellsOf _ a1 a2 ?_
        show ab_W _ _ _ (22, [.long N, .retAddr 0, .int (nI c), .int (nI (δ + 1))], [.long (msk (anc c (δ + 1))), .long N], (0, 0), h)
        refine ab_W.go (mm _) 5 (c' := (29, [.long N, .retAddr 0, .int (nI c), .int (nI (δ + 1))], [.int (lg_cmp (N &&& ((msk (anc c (δ + 1))) ^^^ (-(lN 1)))) (lN 0))], (0, 0), h)) rfl ?_
        refine ab_W.ite (mm _) (p := (lg_cmp (N &&& ((msk (anc c (δ + 1))) ^^^ (-(lN 1)))) (lN 0)) = 0) (c1 := (32, [.long N, .retAddr 0, .int (nI c), .int (nI (δ + 1))], [], (0, 0), h)) (c2 := (34, [.long N, .retAddr 0, .int (nI c), .int (nI (δ + 1))], [], (0, 0), h)) rfl (fun q => ?_) (fun q => ?_)
        · skip
          have q : inS N (anc c (δ + 1)) := (lg_cmp0 _ _).mp q
          have e := lsN_anc hc hδ q hno
          rw [e, a3] at hp
          refine ab_W.go (mm _) 1 (c' := (33, [.long N, .retAddr 0, .int (nI c), .int (nI (δ + 1))], [.int (nI (δ + 1))], (0, 0), h)) rfl ?_
          refine ab_W.retI (mm _) (rt := some .int) (v := nI (δ + 1)) rfl rfl ?_
          exact hp
        · skip
          have q : ¬ inS N (anc c (δ + 1)) := fun z => q ((lg_cmp0 _ _).mpr z)
          refine ab_W.go (mm _) 1 (c' := (37, [.long N, .retAddr 0, .int (nI c), .int (nI (δ + 1) + -(nI 1))], [], (0, 0), h)) rfl ?_
          rw [show nI (δ + 1) + -(nI 1) = nI δ from (by rw [nI_succ]; show nI δ + 1 + -1 = nI δ; exact pk_m1' δ)]
          refine ab_W.go (mm _) 1 (c' := (8, [.long N, .retAddr 0, .int (nI c), .int (nI δ)], [], (0, 0), h)) rfl ?_
          exact ih (by omega) (fun i h1 h2 => by
            rcases Nat.lt_or_ge (δ + 1) i with z | z
            · exact hno i z h2
            · rw [show i = δ + 1 by omega]; exact q)
      rw [a3] at key
      exact key
  refine ⟨rfl, ?_⟩
  show ab_W _ _ _ (0, [.long N, .retAddr 0, .retAddr 0, .retAddr 0], [], (0, 0), h)
  refine ab_W.go (mm _) 1 (c' := (1, [.long N, .retAddr 0, .retAddr 0, .retAddr 0], [.long N], (0, 0), h)) rfl ?_
  refine ab_W.call (mm _) (k := 29) (av := [.long N]) (c' := (4, [.long N, .retAddr 0, .retAddr 0, .retAddr 0], [], (0, 0), h)) rfl ?_
  refine sp_lowestCell _ hc ?_
  show ab_W _ _ _ (4, [.long N, .retAddr 0, .retAddr 0, .retAddr 0], [.int (nI c)], (0, 0), h)
  refine ab_W.go (mm _) 3 (c' := (8, [.long N, .retAddr 0, .int (nI c), .int (nI 6)], [], (0, 0), h)) rfl ?_
  exact loop 6 (by decide) (fun i h1 h2 => by omega)
end
section
/-! stamps of the class -/
def b2i (b : Bool) : Int32 := match b with
  | true => nI 1
  | false => nI 0
theorem b2i_0 {b : Bool} : b2i b = 0 ↔ b = false := by cases b <;> decide
theorem b2i_ft (b : Bool) : ab_ft 1 (.int (b2i b)) = true := by cases b <;> decide
/-- a stamp's two cells -/
def st_P (h : ab_H) (a : Nat) (p : Bool) (N K : Int64) (f : Nat → Int32) : Prop := h[a]? = some (.inr (3, [.int (b2i p), .long N, .long K, .ref (a + 1)])) ∧ ∃ g, h[a + 1]? = some (.inl (0, 64, .inl g)) ∧ ∀ c, c < 64 → g c = f c
theorem st_P.kept {h h' : ab_H} {a : Nat} {p : Bool} {N K : Int64} {f : Nat → Int32} (hs : st_P h a p N K f) (h1 : h'[a]? = h[a]?) (h2 : h'[a + 1]? = h[a + 1]?) : st_P h' a p N K f := by
  obtain ⟨e1, g, e2, e3⟩ := hs
  exact ⟨by rw [h1]; exact e1, g, by rw [h2]; exact e2, e3⟩
theorem ab_W.putB {F : ab_S → ab_R} {C : ab_C} {post : ab_P} {c : ab_S} (hC : ab_mono C) {h : ab_H} {a ci nx k t : Nat} {v : Value} {fs : List Value} {lv r : List Value} {b : Nat × Nat} (hh : h[a]? = some (.inr (ci, fs))) (hv : ab_ft t v = true) (hk : Nat.blt k fs.length = true) (e : F c = ab_o h a fun ci' fs => ab_gd (Nat.beq ci' ci && (ab_ft t v && Nat.blt k fs.length)) (ab_nx nx lv r b (h.set a (.inr (ci', fs.set k v))))) (w : ab_W F C post (nx, lv, r, b, h.set a (.inr (ci, fs.set k v)))) : ab_W F C post c := by
  refine ab_W.fold hC ?_
  rw [e]
  unfold ab_o
  rw [hh]
  show ab_rs _ _ _ _ (ab_gd (Nat.beq ci ci && (ab_ft t v && Nat.blt k fs.length)) (ab_nx nx lv r b (h.set a (.inr (ci, fs.set k v)))))
  rw [hv, hk, Nat.beq_refl]
  exact w
theorem set_at {h : ab_H} {a : Nat} {e e0 : va_E} (h0 : h[a]? = some e0) : (h.set a e)[a]? = some e := List.getElem?_set_self (hA_lt h0)
theorem set_ne {h : ab_H} {a b : Nat} {e : va_E} (hb : a ≠ b) : (h.set a e)[b]? = h[b]? := List.getElem?_set_ne hb
theorem sp_scopy (d : Nat) {h : ab_H} {a b : Nat} {p p' : Bool} {N K N' K' : Int64} {f f' : Nat → Int32} (ha : st_P h a p N K f) (hb : st_P h b p' N' K' f') (n1 : a ≠ b) (n2 : a ≠ b + 1) (n3 : a + 1 ≠ b) {post : ab_P} (hp : ∀ h', st_P h' a p' N' K' f' → (∀ i, i ≠ a → i ≠ a + 1 → h'[i]? = h[i]?) → post none h') : mCC (d + 1) kStamp_copyFrom [.ref a, .ref b] h post := by
  obtain ⟨a1, ga, a2, a3⟩ := ha
  obtain ⟨b1, gb, b2, b3⟩ := hb
  refine ⟨rfl, ?_⟩
  show ab_W _ _ _ (0, [.ref a, .ref b], [], (0, 0), h)
  refine ab_W.go (mm _) 2 (c' := (2, [.ref a, .ref b], [.ref b, .ref a], (0, 0), h)) rfl ?_
  refine ab_W.o (mm _) (b1) rfl (c' := (5, [.ref a, .ref b], [.int (b2i p'), .ref a], (0, 0), h)) rfl ?_
  refine ab_W.putB (mm _) a1 (b2i_ft p') rfl rfl ?_
  obtain ⟨h1, e1⟩ : ∃ h1, h1 = h.set a (.inr (3, [.int (b2i p'), .long N, .long K, .ref (a + 1)])) := ⟨_, rfl⟩
  have c1 : h1[a]? = some (.inr (3, [.int (b2i p'), .long N, .long K, .ref (a + 1)])) := by rw [e1]; exact set_at a1
  have k1 : ∀ i, i ≠ a → h1[i]? = h[i]? := fun i hi => by rw [e1]; exact set_ne (fun z => hi z.symm)
  show ab_W _ _ _ (8, [.ref a, .ref b], [], (0, 0), h.set a (.inr (3, [.int (b2i p'), .long N, .long K, .ref (a + 1)])))
  rw [← e1]
  refine ab_W.go (mm _) 2 (c' := (10, [.ref a, .ref b], [.ref b, .ref a], (0, 0), h1)) rfl ?_
  refine ab_W.o (mm _) ((k1 b (fun z => n1 z.symm)).trans b1) rfl (c' := (13, [.ref a, .ref b], [.long N', .ref a], (0, 0), h1)) rfl ?_
  obtain ⟨h2, e2⟩ : ∃ h2, h2 = h1.set a (.inr (3, [.int (b2i p'), .long N', .long K, .ref (a + 1)])) := ⟨_, rfl⟩
  have c2 : h2[a]? = some (.inr (3, [.int (b2i p'), .long N', .long K, .ref (a + 1)])) := by rw [e2]; exact set_at c1
  have k2 : ∀ i, i ≠ a → h2[i]? = h[i]? := fun i hi => by rw [e2]; exact (set_ne (fun z => hi z.symm)).trans (k1 i hi)
  refine ab_W.o (mm _) (c1) rfl (c' := (16, [.ref a, .ref b], [], (0, 0), h1.set a (.inr (3, [.int (b2i p'), .long N', .long K, .ref (a + 1)])))) rfl ?_
  refine ab_W.hp (e2.symm) ?_
  show ab_W _ _ _ (16, [.ref a, .ref b], [], (0, 0), h2)
  refine ab_W.go (mm _) 2 (c' := (18, [.ref a, .ref b], [.ref b, .ref a], (0, 0), h2)) rfl ?_
  refine ab_W.o (mm _) ((k2 b (fun z => n1 z.symm)).trans b1) rfl (c' := (21, [.ref a, .ref b], [.long K', .ref a], (0, 0), h2)) rfl ?_
  obtain ⟨h3, e3⟩ : ∃ h3, h3 = h2.set a (.inr (3, [.int (b2i p'), .long N', .long K', .ref (a + 1)])) := ⟨_, rfl⟩
  have c3 : h3[a]? = some (.inr (3, [.int (b2i p'), .long N', .long K', .ref (a + 1)])) := by rw [e3]; exact set_at c2
  have k3 : ∀ i, i ≠ a → h3[i]? = h[i]? := fun i hi => by rw [e3]; exact (set_ne (fun z => hi z.symm)).trans (k2 i hi)
  refine ab_W.o (mm _) (c2) rfl (c' := (24, [.ref a, .ref b], [], (0, 0), h2.set a (.inr (3, [.int (b2i p'), .long N', .long K', .ref (a + 1)])))) rfl ?_
  refine ab_W.hp (e3.symm) ?_
  show ab_W _ _ _ (24, [.ref a, .ref b], [], (0, 0), h3)
  refine ab_W.go (mm _) 1 (c' := (25, [.ref a, .ref b], [.ref b], (0, 0), h3)) rfl ?_
  refine ab_W.o (mm _) ((k3 b (fun z => n1 z.symm)).trans b1) rfl (c' := (28, [.ref a, .ref b], [.ref (b + 1)], (0, 0), h3)) rfl ?_
  refine ab_W.go (mm _) 2 (c' := (30, [.ref a, .ref b], [.ref a, .int (nI 0), .ref (b + 1)], (0, 0), h3)) rfl ?_
  refine ab_W.o (mm _) (c3) rfl (c' := (33, [.ref a, .ref b], [.ref (a + 1), .int (nI 0), .ref (b + 1)], (0, 0), h3)) rfl ?_
  refine ab_W.go (mm _) 2 (c' := (36, [.ref a, .ref b], [.int (nI 64), .int (nI 0), .ref (a + 1), .int (nI 0), .ref (b + 1)], (0, 0), h3)) rfl ?_
  have d1 := (k3 (b + 1) (fun z => n2 z.symm)).trans b2
  have d2 := (k3 (a + 1) (by omega)).trans a2
  refine ab_W.copy64 (mm _) d1 d2 rfl rfl ?_
  show ab_W _ _ _ (39, [.ref a, .ref b], [], (0, 0), hA h3 (a + 1) (va_cpy gb ga 0 0 64))
  refine ab_W.ret (mm _) (v := none) rfl ?_
  refine hp _ ⟨(hA_ne (by omega)).trans c3, _, hA_at (hA_lt d2), fun c hc => (cpy64 hc).trans (b3 c hc)⟩ (fun i i1 i2 => (hA_ne (fun z => i2 z.symm)).trans (k3 i i1))
/-- hearing -/
theorem sp_learn (d : Nat) {h : ab_H} {a b : Nat} {p p' : Bool} {N K N' K' : Int64} {f f' : Nat → Int32} (ha : st_P h a p N K f) (hb : st_P h b p' N' K' f') (n1 : a ≠ b) (n2 : a ≠ b + 1) (n3 : a + 1 ≠ b) {post : ab_P} (hp : ∀ h', st_P h' a p N (K ||| K') (fun c => mxI (f c) (f' c)) → (∀ i, i ≠ a → i ≠ a + 1 → h'[i]? = h[i]?) → post (some (.int (nI (cn (fun c => f c < f' c) 64)))) h') : mCC (d + 1) kStamp_learnFrom [.ref a, .ref b] h post := by
  obtain ⟨a1, ga, a2, a3⟩ := ha
  obtain ⟨b1, gb, b2, b3⟩ := hb
  have la := hA_lt a2
  have n4 : a + 1 ≠ b + 1 := by omega
  have f1 : ∀ g, (hA h (a + 1) g)[a]? = some (.inr (3, [.int (b2i p), .long N, .long K, .ref (a + 1)])) := fun g => (hA_ne (by omega)).trans a1
  have f2 : ∀ g, (hA h (a + 1) g)[b]? = some (.inr (3, [.int (b2i p'), .long N', .long K', .ref (b + 1)])) := fun g => (hA_ne n3).trans b1
  have f3 : ∀ g, (hA h (a + 1) g)[b + 1]? = some (.inl (0, 64, .inl gb)) := fun g => (hA_ne n4).trans b2
  have loop : ∀ c, c ≤ 64 → ∀ g, (∀ j, j < c → g j = mxI (f j) (f' j)) → (∀ j, c ≤ j → j < 64 → g j = f j) → ab_W (ab_st (mT kStamp_learnFrom) mB mF (mR kStamp_learnFrom) none) (mCC d) post (4, [.ref a, .ref b, .int (nI (cn (fun c => f c < f' c) c)), .int (nI c)], [], (0, 0), hA h (a + 1) g) := by
    refine down 64 ?_ ?_
    · intro g g1 g2
      refine ab_W.go (mm _) 2 (c' := (7, [.ref a, .ref b, .int (nI (cn (fun c => f c < f' c) 64)), .int (nI 64)], [.int (nI 64), .int (nI 64)], (0, 0), hA h (a + 1) g)) rfl ?_
      refine ab_W.itT (mm _) (p := (nI 64) ≤ (nI 64)) (c1 := (46, [.ref a, .ref b, .int (nI (cn (fun c => f c < f' c) 64)), .int (nI 64)], [], (0, 0), hA h (a + 1) g)) (c2 := (10, [.ref a, .ref b, .int (nI (cn (fun c => f c < f' c) 64)), .int (nI 64)], [], (0, 0), hA h (a + 1) g)) rfl ((by decide)) ?_
      refine ab_W.go (mm _) 2 (c' := (48, [.ref a, .ref b, .int (nI (cn (fun c => f c < f' c) 64)), .int (nI 64)], [.ref a, .ref a], (0, 0), hA h (a + 1) g)) rfl ?_
      refine ab_W.o (mm _) (f1 g) rfl (c' := (51, [.ref a, .ref b, .int (nI (cn (fun c => f c < f' c) 64)), .int (nI 64)], [.long K, .ref a], (0, 0), hA h (a + 1) g)) rfl ?_
      refine ab_W.go (mm _) 1 (c' := (52, [.ref a, .ref b, .int (nI (cn (fun c => f c < f' c) 64)), .int (nI 64)], [.ref b, .long K, .ref a], (0, 0), hA h (a + 1) g)) rfl ?_
      refine ab_W.o (mm _) (f2 g) rfl (c' := (55, [.ref a, .ref b, .int (nI (cn (fun c => f c < f' c) 64)), .int (nI 64)], [.long K', .long K, .ref a], (0, 0), hA h (a + 1) g)) rfl ?_
      refine ab_W.go (mm _) 1 (c' := (56, [.ref a, .ref b, .int (nI (cn (fun c => f c < f' c) 64)), .int (nI 64)], [.long (K ||| K'), .ref a], (0, 0), hA h (a + 1) g)) rfl ?_
      refine ab_W.o (mm _) (f1 g) rfl (c' := (59, [.ref a, .ref b, .int (nI (cn (fun c => f c < f' c) 64)), .int (nI 64)], [], (0, 0), (hA h (a + 1) g).set a (.inr (3, [.int (b2i p), .long N, .long (K ||| K'), .ref (a + 1)])))) rfl ?_
      refine ab_W.go (mm _) 1 (c' := (60, [.ref a, .ref b, .int (nI (cn (fun c => f c < f' c) 64)), .int (nI 64)], [.int (nI (cn (fun c => f c < f' c) 64))], (0, 0), (hA h (a + 1) g).set a (.inr (3, [.int (b2i p), .long N, .long (K ||| K'), .ref (a + 1)])))) rfl ?_
      refine ab_W.retI (mm _) (rt := some .int) (v := nI (cn (fun c => f c < f' c) 64)) rfl rfl ?_
      refine hp _ ⟨set_at (f1 g), g, (set_ne (by omega)).trans (hA_at la), fun c hc => g1 c hc⟩ (fun i i1 i2 => (set_ne (fun z => i1 z.symm)).trans (hA_ne (fun z => i2 z.symm)))
    · intro c hc ih g g1 g2
      refine ab_W.go (mm _) 2 (c' := (7, [.ref a, .ref b, .int (nI (cn (fun c => f c < f' c) c)), .int (nI c)], [.int (nI 64), .int (nI c)], (0, 0), hA h (a + 1) g)) rfl ?_
      refine ab_W.itF (mm _) (p := (nI 64) ≤ (nI c)) (c1 := (46, [.ref a, .ref b, .int (nI (cn (fun c => f c < f' c) c)), .int (nI c)], [], (0, 0), hA h (a + 1) g)) (c2 := (10, [.ref a, .ref b, .int (nI (cn (fun c => f c < f' c) c)), .int (nI c)], [], (0, 0), hA h (a + 1) g)) rfl (fun z => absurd ((nI_leI (by omega) (by omega)).mp z) (by omega)) ?_
      refine ab_W.go (mm _) 1 (c' := (11, [.ref a, .ref b, .int (nI (cn (fun c => f c < f' c) c)), .int (nI c)], [.ref b], (0, 0), hA h (a + 1) g)) rfl ?_
      refine ab_W.o (mm _) (f2 g) rfl (c' := (14, [.ref a, .ref b, .int (nI (cn (fun c => f c < f' c) c)), .int (nI c)], [.ref (b + 1)], (0, 0), hA h (a + 1) g)) rfl ?_
      refine ab_W.go (mm _) 1 (c' := (15, [.ref a, .ref b, .int (nI (cn (fun c => f c < f' c) c)), .int (nI c)], [.int (nI c), .ref (b + 1)], (0, 0), hA h (a + 1) g)) rfl ?_
      refine ab_W.iald (mm _) (j := c) (f3 g) rfl (by omega) rfl rfl ?_
      show ab_W _ _ _ (16, [.ref a, .ref b, .int (nI (cn (fun c => f c < f' c) c)), .int (nI c)], [.int (gb c)], (0, 0), hA h (a + 1) g)
      refine ab_W.go (mm _) 1 (c' := (17, [.ref a, .ref b, .int (nI (cn (fun c => f c < f' c) c)), .int (nI c)], [.ref a, .int (gb c)], (0, 0), hA h (a + 1) g)) rfl ?_
      refine ab_W.o (mm _) (f1 g) rfl (c' := (20, [.ref a, .ref b, .int (nI (cn (fun c => f c < f' c) c)), .int (nI c)], [.ref (a + 1), .int (gb c)], (0, 0), hA h (a + 1) g)) rfl ?_
      refine ab_W.go (mm _) 1 (c' := (21, [.ref a, .ref b, .int (nI (cn (fun c => f c < f' c) c)), .int (nI c)], [.int (nI c), .ref (a + 1), .int (gb c)], (0, 0), hA h (a + 1) g)) rfl ?_
      refine ab_W.iald (mm _) (j := c) (hA_at la) rfl (by omega) rfl rfl ?_
      show ab_W _ _ _ (22, [.ref a, .ref b, .int (nI (cn (fun c => f c < f' c) c)), .int (nI c)], [.int (g c), .int (gb c)], (0, 0), hA h (a + 1) g)
      refine ab_W.ite (mm _) (p := (gb c) ≤ (g c)) (c1 := (40, [.ref a, .ref b, .int (nI (cn (fun c => f c < f' c) c)), .int (nI c)], [], (0, 0), hA h (a + 1) g)) (c2 := (25, [.ref a, .ref b, .int (nI (cn (fun c => f c < f' c) c)), .int (nI c)], [], (0, 0), hA h (a + 1) g)) rfl (fun q => ?_) (fun q => ?_)
      · skip
        rw [b3 c hc, g2 c (Nat.le_refl _) hc] at q
        have q' : ¬ f c < f' c := Int32.not_lt.mpr q
        rw [cn_f (p := fun c => f c < f' c) q'] at ih
        refine ab_W.go (mm _) 1 (c' := (43, [.ref a, .ref b, .int (nI (cn (fun c => f c < f' c) c)), .int (nI c + nI 1)], [], (0, 0), hA h (a + 1) g)) rfl ?_
        rw [nI_add c 1]
        refine ab_W.go (mm _) 1 (c' := (4, [.ref a, .ref b, .int (nI (cn (fun c => f c < f' c) c)), .int (nI (c + 1))], [], (0, 0), hA h (a + 1) g)) rfl ?_
        refine ih g (fun j hj => ?_) (fun j h1 h2 => g2 j (by omega) h2)
        rcases Nat.lt_or_ge j c with z | z
        · exact g1 j z
        · rw [show j = c by omega, g2 c (Nat.le_refl _) hc]
          exact (if_neg q').symm
      · skip
        rw [b3 c hc, g2 c (Nat.le_refl _) hc] at q
        have q' : f c < f' c := Int32.not_le.mp q
        rw [cn_t (p := fun c => f c < f' c) q'] at ih
        refine ab_W.go (mm _) 1 (c' := (26, [.ref a, .ref b, .int (nI (cn (fun c => f c < f' c) c)), .int (nI c)], [.ref a], (0, 0), hA h (a + 1) g)) rfl ?_
        refine ab_W.o (mm _) (f1 g) rfl (c' := (29, [.ref a, .ref b, .int (nI (cn (fun c => f c < f' c) c)), .int (nI c)], [.ref (a + 1)], (0, 0), hA h (a + 1) g)) rfl ?_
        refine ab_W.go (mm _) 2 (c' := (31, [.ref a, .ref b, .int (nI (cn (fun c => f c < f' c) c)), .int (nI c)], [.ref b, .int (nI c), .ref (a + 1)], (0, 0), hA h (a + 1) g)) rfl ?_
        refine ab_W.o (mm _) (f2 g) rfl (c' := (34, [.ref a, .ref b, .int (nI (cn (fun c => f c < f' c) c)), .int (nI c)], [.ref (b + 1), .int (nI c), .ref (a + 1)], (0, 0), hA h (a + 1) g)) rfl ?_
        refine ab_W.go (mm _) 1 (c' := (35, [.ref a, .ref b, .int (nI (cn (fun c => f c < f' c) c)), .int (nI c)], [.int (nI c), .ref (b + 1), .int (nI c), .ref (a + 1)], (0, 0), hA h (a + 1) g)) rfl ?_
        refine ab_W.iald (mm _) (j := c) (f3 g) rfl (by omega) rfl rfl ?_
        show ab_W _ _ _ (36, [.ref a, .ref b, .int (nI (cn (fun c => f c < f' c) c)), .int (nI c)], [.int (gb c), .int (nI c), .ref (a + 1)], (0, 0), hA h (a + 1) g)
        refine ab_W.iast (mm _) (j := c) (hA_at la) rfl (by omega) rfl rfl ?_
        refine ab_W.hp (hA_hA) ?_
        show ab_W _ _ _ (37, [.ref a, .ref b, .int (nI (cn (fun c => f c < f' c) c)), .int (nI c)], [], (0, 0), hA h (a + 1) (upd g c (gb c)))
        refine ab_W.go (mm _) 1 (c' := (40, [.ref a, .ref b, .int (nI (cn (fun c => f c < f' c) c) + nI 1), .int (nI c)], [], (0, 0), hA h (a + 1) (upd g c (gb c)))) rfl ?_
        rw [nI_add (cn (fun c => f c < f' c) c) 1]
        refine ab_W.go (mm _) 1 (c' := (43, [.ref a, .ref b, .int (nI ((cn (fun c => f c < f' c) c) + 1)), .int (nI c + nI 1)], [], (0, 0), hA h (a + 1) (upd g c (gb c)))) rfl ?_
        rw [nI_add c 1]
        refine ab_W.go (mm _) 1 (c' := (4, [.ref a, .ref b, .int (nI ((cn (fun c => f c < f' c) c) + 1)), .int (nI (c + 1))], [], (0, 0), hA h (a + 1) (upd g c (gb c)))) rfl ?_
        refine ih _ (fun j hj => ?_) (fun j h1 h2 => ?_)
        · rcases Nat.lt_or_ge j c with z | z
          · rw [pk_un (by omega)]; exact g1 j z
          · rw [show j = c by omega, pk_us, b3 c hc]
            exact (if_pos q').symm
        · rw [pk_un (by omega)]
          exact g2 j (by omega) h2
  refine ⟨rfl, ?_⟩
  show ab_W _ _ _ (0, [.ref a, .ref b, .retAddr 0, .retAddr 0], [], (0, 0), h)
  refine ab_W.go (mm _) 4 (c' := (4, [.ref a, .ref b, .int (nI 0), .int (nI 0)], [], (0, 0), h)) rfl ?_
  have := loop 0 (Nat.zero_le _) ga (fun j hj => absurd hj (Nat.not_lt_zero j)) (fun j _ h2 => a3 j h2)
  rw [hA_self a2] at this
  exact this
/-- which of two came before: 0 even, 1, 2, 3 -/
noncomputable def ordN (f g : Nat → Int32) : Nat := ci (∃ c, c < 64 ∧ f c < g c) 1 0 + ci (∃ c, c < 64 ∧ g c < f c) 2 0
theorem ex_s {p : Nat → Prop} {c : Nat} {B : Bool} (h : B = true ↔ ∃ j, j < c ∧ p j) (D : Bool) (hD : D = true ↔ (B = true ∨ p c)) : D = true ↔ ∃ j, j < c + 1 ∧ p j := by
  rw [hD, h]
  constructor
  · rintro (⟨j, j1, j2⟩ | q)
    · exact ⟨j, by omega, j2⟩
    · exact ⟨c, by omega, q⟩
  · rintro ⟨j, j1, j2⟩
    rcases Nat.lt_or_ge j c with z | z
    · exact Or.inl ⟨j, z, j2⟩
    · rw [show j = c by omega] at j2
      exact Or.inr j2
theorem sp_compare (d : Nat) {h : ab_H} {a b : Nat} {p p' : Bool} {N K N' K' : Int64} {f f' : Nat → Int32} (ha : st_P h a p N K f) (hb : st_P h b p' N' K' f') {post : ab_P} (hp : post (some (.int (nI (ordN f f')))) h) : mCC (d + 1) kStamp_compareWith [.ref a, .ref b] h post := by
  obtain ⟨a1, ga, a2, a3⟩ := ha
  obtain ⟨b1, gb, b2, b3⟩ := hb
  have loop : ∀ c, c ≤ 64 → ∀ L G : Bool, (L = true ↔ ∃ j, j < c ∧ f j < f' j) → (G = true ↔ ∃ j, j < c ∧ f' j < f j) → ab_W (ab_st (mT kStamp_compareWith) mB mF (mR kStamp_compareWith) none) (mCC d) post (7, [.ref a, .ref b, .int (b2i L), .int (b2i G), .int (nI c)], [], (0, 0), h) := by
    refine down 64 ?_ ?_
    · intro L G hL hG
      refine ab_W.go (mm _) 2 (c' := (11, [.ref a, .ref b, .int (b2i L), .int (b2i G), .int (nI 64)], [.int (nI 64), .int (nI 64)], (0, 0), h)) rfl ?_
      refine ab_W.itT (mm _) (p := (nI 64) ≤ (nI 64)) (c1 := (74, [.ref a, .ref b, .int (b2i L), .int (b2i G), .int (nI 64)], [], (0, 0), h)) (c2 := (14, [.ref a, .ref b, .int (b2i L), .int (b2i G), .int (nI 64)], [], (0, 0), h)) rfl ((by decide)) ?_
      refine ab_W.go (mm _) 1 (c' := (75, [.ref a, .ref b, .int (b2i L), .int (b2i G), .int (nI 64)], [.int (b2i L)], (0, 0), h)) rfl ?_
      unfold ordN at hp
      cases L with
      | false =>
        rw [ci_f (fun z => by have := hL.mpr z; cases this)] at hp
        show ab_W _ _ _ (75, [.ref a, .ref b, .int (nI 0), .int (b2i G), .int (nI 64)], [.int (nI 0)], (0, 0), h)
        refine ab_W.itT (mm _) (p := (nI 0) = 0) (c1 := (82, [.ref a, .ref b, .int (nI 0), .int (b2i G), .int (nI 64)], [], (0, 0), h)) (c2 := (78, [.ref a, .ref b, .int (nI 0), .int (b2i G), .int (nI 64)], [], (0, 0), h)) rfl (nI_0) ?_
        refine ab_W.go (mm _) 2 (c' := (84, [.ref a, .ref b, .int (nI 0), .int (b2i G), .int (nI 64)], [.int (b2i G), .int (nI 0)], (0, 0), h)) rfl ?_
        cases G with
        | false =>
          rw [ci_f (fun z => by have := hG.mpr z; cases this)] at hp
          show ab_W _ _ _ (84, [.ref a, .ref b, .int (nI 0), .int (nI 0), .int (nI 64)], [.int (nI 0), .int (nI 0)], (0, 0), h)
          refine ab_W.itT (mm _) (p := (nI 0) = 0) (c1 := (91, [.ref a, .ref b, .int (nI 0), .int (nI 0), .int (nI 64)], [.int (nI 0)], (0, 0), h)) (c2 := (87, [.ref a, .ref b, .int (nI 0), .int (nI 0), .int (nI 64)], [.int (nI 0)], (0, 0), h)) rfl (nI_0) ?_
          refine ab_W.go (mm _) 2 (c' := (93, [.ref a, .ref b, .int (nI 0), .int (nI 0), .int (nI 64)], [.int ((nI 0) + (nI 0))], (0, 0), h)) rfl ?_
          refine ab_W.topi (nI_add 0 0) ?_
          refine ab_W.retI (mm _) (rt := some .int) (v := nI (0 + 0)) rfl rfl ?_
          exact hp
        | true =>
          rw [ci_t (hG.mp rfl)] at hp
          show ab_W _ _ _ (84, [.ref a, .ref b, .int (nI 0), .int (nI 1), .int (nI 64)], [.int (nI 1), .int (nI 0)], (0, 0), h)
          refine ab_W.itF (mm _) (p := (nI 1) = 0) (c1 := (91, [.ref a, .ref b, .int (nI 0), .int (nI 1), .int (nI 64)], [.int (nI 0)], (0, 0), h)) (c2 := (87, [.ref a, .ref b, .int (nI 0), .int (nI 1), .int (nI 64)], [.int (nI 0)], (0, 0), h)) rfl (nI_ne01) ?_
          refine ab_W.go (mm _) 3 (c' := (93, [.ref a, .ref b, .int (nI 0), .int (nI 1), .int (nI 64)], [.int ((nI 0) + (nI 2))], (0, 0), h)) rfl ?_
          refine ab_W.topi (nI_add 0 2) ?_
          refine ab_W.retI (mm _) (rt := some .int) (v := nI (0 + 2)) rfl rfl ?_
          exact hp
      | true =>
        rw [ci_t (hL.mp rfl)] at hp
        show ab_W _ _ _ (75, [.ref a, .ref b, .int (nI 1), .int (b2i G), .int (nI 64)], [.int (nI 1)], (0, 0), h)
        refine ab_W.itF (mm _) (p := (nI 1) = 0) (c1 := (82, [.ref a, .ref b, .int (nI 1), .int (b2i G), .int (nI 64)], [], (0, 0), h)) (c2 := (78, [.ref a, .ref b, .int (nI 1), .int (b2i G), .int (nI 64)], [], (0, 0), h)) rfl (nI_ne01) ?_
        refine ab_W.go (mm _) 3 (c' := (84, [.ref a, .ref b, .int (nI 1), .int (b2i G), .int (nI 64)], [.int (b2i G), .int (nI 1)], (0, 0), h)) rfl ?_
        cases G with
        | false =>
          rw [ci_f (fun z => by have := hG.mpr z; cases this)] at hp
          show ab_W _ _ _ (84, [.ref a, .ref b, .int (nI 1), .int (nI 0), .int (nI 64)], [.int (nI 0), .int (nI 1)], (0, 0), h)
          refine ab_W.itT (mm _) (p := (nI 0) = 0) (c1 := (91, [.ref a, .ref b, .int (nI 1), .int (nI 0), .int (nI 64)], [.int (nI 1)], (0, 0), h)) (c2 := (87, [.ref a, .ref b, .int (nI 1), .int (nI 0), .int (nI 64)], [.int (nI 1)], (0, 0), h)) rfl (nI_0) ?_
          refine ab_W.go (mm _) 2 (c' := (93, [.ref a, .ref b, .int (nI 1), .int (nI 0), .int (nI 64)], [.int ((nI 1) + (nI 0))], (0, 0), h)) rfl ?_
          refine ab_W.topi (nI_add 1 0) ?_
          refine ab_W.retI (mm _) (rt := some .int) (v := nI (1 + 0)) rfl rfl ?_
          exact hp
        | true =>
          rw [ci_t (hG.mp rfl)] at hp
          show ab_W _ _ _ (84, [.ref a, .ref b, .int (nI 1), .int (nI 1), .int (nI 64)], [.int (nI 1), .int (nI 1)], (0, 0), h)
          refine ab_W.itF (mm _) (p := (nI 1) = 0) (c1 := (91, [.ref a, .ref b, .int (nI 1), .int (nI 1), .int (nI 64)], [.int (nI 1)], (0, 0), h)) (c2 := (87, [.ref a, .ref b, .int (nI 1), .int (nI 1), .int (nI 64)], [.int (nI 1)], (0, 0), h)) rfl (nI_ne01) ?_
          refine ab_W.go (mm _) 3 (c' := (93, [.ref a, .ref b, .int (nI 1), .int (nI 1), .int (nI 64)], [.int ((nI 1) + (nI 2))], (0, 0), h)) rfl ?_
          refine ab_W.topi (nI_add 1 2) ?_
          refine ab_W.retI (mm _) (rt := some .int) (v := nI (1 + 2)) rfl rfl ?_
          exact hp
    · intro c hc ih L G hL hG
      have low : ∀ D : Bool, (D = true ↔ (L = true ∨ f c < f' c)) → ab_W (ab_st (mT kStamp_compareWith) mB mF (mR kStamp_compareWith) none) (mCC d) post (41, [.ref a, .ref b, .int (b2i D), .int (b2i G), .int (nI c)], [], (0, 0), h) := by
        intro D hD
        have hD2 := ex_s hL D hD
        refine ab_W.go (mm _) 1 (c' := (42, [.ref a, .ref b, .int (b2i D), .int (b2i G), .int (nI c)], [.int (b2i G)], (0, 0), h)) rfl ?_
        cases G with
        | true =>
          show ab_W _ _ _ (42, [.ref a, .ref b, .int (b2i D), .int (nI 1), .int (nI c)], [.int (nI 1)], (0, 0), h)
          refine ab_W.itF (mm _) (p := (nI 1) = 0) (c1 := (45, [.ref a, .ref b, .int (b2i D), .int (nI 1), .int (nI c)], [], (0, 0), h)) (c2 := (62, [.ref a, .ref b, .int (b2i D), .int (nI 1), .int (nI c)], [], (0, 0), h)) rfl (nI_ne01) ?_
          refine ab_W.go (mm _) 4 (c' := (71, [.ref a, .ref b, .int (b2i D), .int (nI 1), .int (nI c + nI 1)], [], (0, 0), h)) rfl ?_
          rw [nI_add c 1]
          refine ab_W.go (mm _) 1 (c' := (7, [.ref a, .ref b, .int (b2i D), .int (nI 1), .int (nI (c + 1))], [], (0, 0), h)) rfl ?_
          exact ih D true hD2 (ex_s hG true ⟨fun _ => Or.inl rfl, fun _ => rfl⟩)
        | false =>
          show ab_W _ _ _ (42, [.ref a, .ref b, .int (b2i D), .int (nI 0), .int (nI c)], [.int (nI 0)], (0, 0), h)
          refine ab_W.itT (mm _) (p := (nI 0) = 0) (c1 := (45, [.ref a, .ref b, .int (b2i D), .int (nI 0), .int (nI c)], [], (0, 0), h)) (c2 := (62, [.ref a, .ref b, .int (b2i D), .int (nI 0), .int (nI c)], [], (0, 0), h)) rfl (nI_0) ?_
          refine ab_W.go (mm _) 1 (c' := (46, [.ref a, .ref b, .int (b2i D), .int (nI 0), .int (nI c)], [.ref a], (0, 0), h)) rfl ?_
          refine ab_W.o (mm _) (a1) rfl (c' := (49, [.ref a, .ref b, .int (b2i D), .int (nI 0), .int (nI c)], [.ref (a + 1)], (0, 0), h)) rfl ?_
          refine ab_W.go (mm _) 1 (c' := (51, [.ref a, .ref b, .int (b2i D), .int (nI 0), .int (nI c)], [.int (nI c), .ref (a + 1)], (0, 0), h)) rfl ?_
          refine ab_W.iald (mm _) (j := c) (a2) rfl (by omega) rfl rfl ?_
          show ab_W _ _ _ (52, [.ref a, .ref b, .int (b2i D), .int (nI 0), .int (nI c)], [.int (ga c)], (0, 0), h)
          refine ab_W.go (mm _) 1 (c' := (53, [.ref a, .ref b, .int (b2i D), .int (nI 0), .int (nI c)], [.ref b, .int (ga c)], (0, 0), h)) rfl ?_
          refine ab_W.o (mm _) (b1) rfl (c' := (56, [.ref a, .ref b, .int (b2i D), .int (nI 0), .int (nI c)], [.ref (b + 1), .int (ga c)], (0, 0), h)) rfl ?_
          refine ab_W.go (mm _) 1 (c' := (58, [.ref a, .ref b, .int (b2i D), .int (nI 0), .int (nI c)], [.int (nI c), .ref (b + 1), .int (ga c)], (0, 0), h)) rfl ?_
          refine ab_W.iald (mm _) (j := c) (b2) rfl (by omega) rfl rfl ?_
          show ab_W _ _ _ (59, [.ref a, .ref b, .int (b2i D), .int (nI 0), .int (nI c)], [.int (gb c), .int (ga c)], (0, 0), h)
          refine ab_W.ite (mm _) (p := (ga c) ≤ (gb c)) (c1 := (66, [.ref a, .ref b, .int (b2i D), .int (nI 0), .int (nI c)], [], (0, 0), h)) (c2 := (62, [.ref a, .ref b, .int (b2i D), .int (nI 0), .int (nI c)], [], (0, 0), h)) rfl (fun q => ?_) (fun q => ?_)
          · skip
            rw [a3 c hc, b3 c hc] at q
            refine ab_W.go (mm _) 3 (c' := (71, [.ref a, .ref b, .int (b2i D), .int (nI 0), .int (nI c + nI 1)], [], (0, 0), h)) rfl ?_
            rw [nI_add c 1]
            refine ab_W.go (mm _) 1 (c' := (7, [.ref a, .ref b, .int (b2i D), .int (nI 0), .int (nI (c + 1))], [], (0, 0), h)) rfl ?_
            exact ih D false hD2 (ex_s hG false ⟨fun z => (by cases z), fun z => z.elim (fun y => by cases y) (fun y => absurd y (Int32.not_lt.mpr q))⟩)
          · skip
            rw [a3 c hc, b3 c hc] at q
            refine ab_W.go (mm _) 4 (c' := (71, [.ref a, .ref b, .int (b2i D), .int (nI 1), .int (nI c + nI 1)], [], (0, 0), h)) rfl ?_
            rw [nI_add c 1]
            refine ab_W.go (mm _) 1 (c' := (7, [.ref a, .ref b, .int (b2i D), .int (nI 1), .int (nI (c + 1))], [], (0, 0), h)) rfl ?_
            exact ih D true hD2 (ex_s hG true ⟨fun _ => Or.inr (Int32.not_le.mp q), fun _ => rfl⟩)
      refine ab_W.go (mm _) 2 (c' := (11, [.ref a, .ref b, .int (b2i L), .int (b2i G), .int (nI c)], [.int (nI 64), .int (nI c)], (0, 0), h)) rfl ?_
      refine ab_W.itF (mm _) (p := (nI 64) ≤ (nI c)) (c1 := (74, [.ref a, .ref b, .int (b2i L), .int (b2i G), .int (nI c)], [], (0, 0), h)) (c2 := (14, [.ref a, .ref b, .int (b2i L), .int (b2i G), .int (nI c)], [], (0, 0), h)) rfl (fun z => absurd ((nI_leI (by omega) (by omega)).mp z) (by omega)) ?_
      refine ab_W.go (mm _) 1 (c' := (15, [.ref a, .ref b, .int (b2i L), .int (b2i G), .int (nI c)], [.int (b2i L)], (0, 0), h)) rfl ?_
      cases L with
      | true =>
        show ab_W _ _ _ (15, [.ref a, .ref b, .int (nI 1), .int (b2i G), .int (nI c)], [.int (nI 1)], (0, 0), h)
        refine ab_W.itF (mm _) (p := (nI 1) = 0) (c1 := (18, [.ref a, .ref b, .int (nI 1), .int (b2i G), .int (nI c)], [], (0, 0), h)) (c2 := (35, [.ref a, .ref b, .int (nI 1), .int (b2i G), .int (nI c)], [], (0, 0), h)) rfl (nI_ne01) ?_
        refine ab_W.go (mm _) 3 (c' := (41, [.ref a, .ref b, .int (nI 1), .int (b2i G), .int (nI c)], [], (0, 0), h)) rfl ?_
        exact low true ⟨fun _ => Or.inl rfl, fun _ => rfl⟩
      | false =>
        show ab_W _ _ _ (15, [.ref a, .ref b, .int (nI 0), .int (b2i G), .int (nI c)], [.int (nI 0)], (0, 0), h)
        refine ab_W.itT (mm _) (p := (nI 0) = 0) (c1 := (18, [.ref a, .ref b, .int (nI 0), .int (b2i G), .int (nI c)], [], (0, 0), h)) (c2 := (35, [.ref a, .ref b, .int (nI 0), .int (b2i G), .int (nI c)], [], (0, 0), h)) rfl (nI_0) ?_
        refine ab_W.go (mm _) 1 (c' := (19, [.ref a, .ref b, .int (nI 0), .int (b2i G), .int (nI c)], [.ref a], (0, 0), h)) rfl ?_
        refine ab_W.o (mm _) (a1) rfl (c' := (22, [.ref a, .ref b, .int (nI 0), .int (b2i G), .int (nI c)], [.ref (a + 1)], (0, 0), h)) rfl ?_
        refine ab_W.go (mm _) 1 (c' := (24, [.ref a, .ref b, .int (nI 0), .int (b2i G), .int (nI c)], [.int (nI c), .ref (a + 1)], (0, 0), h)) rfl ?_
        refine ab_W.iald (mm _) (j := c) (a2) rfl (by omega) rfl rfl ?_
        show ab_W _ _ _ (25, [.ref a, .ref b, .int (nI 0), .int (b2i G), .int (nI c)], [.int (ga c)], (0, 0), h)
        refine ab_W.go (mm _) 1 (c' := (26, [.ref a, .ref b, .int (nI 0), .int (b2i G), .int (nI c)], [.ref b, .int (ga c)], (0, 0), h)) rfl ?_
        refine ab_W.o (mm _) (b1) rfl (c' := (29, [.ref a, .ref b, .int (nI 0), .int (b2i G), .int (nI c)], [.ref (b + 1), .int (ga c)], (0, 0), h)) rfl ?_
        refine ab_W.go (mm _) 1 (c' := (31, [.ref a, .ref b, .int (nI 0), .int (b2i G), .int (nI c)], [.int (nI c), .ref (b + 1), .int (ga c)], (0, 0), h)) rfl ?_
        refine ab_W.iald (mm _) (j := c) (b2) rfl (by omega) rfl rfl ?_
        show ab_W _ _ _ (32, [.ref a, .ref b, .int (nI 0), .int (b2i G), .int (nI c)], [.int (gb c), .int (ga c)], (0, 0), h)
        refine ab_W.ite (mm _) (p := (gb c) ≤ (ga c)) (c1 := (39, [.ref a, .ref b, .int (nI 0), .int (b2i G), .int (nI c)], [], (0, 0), h)) (c2 := (35, [.ref a, .ref b, .int (nI 0), .int (b2i G), .int (nI c)], [], (0, 0), h)) rfl (fun q => ?_) (fun q => ?_)
        · skip
          rw [a3 c hc, b3 c hc] at q
          refine ab_W.go (mm _) 2 (c' := (41, [.ref a, .ref b, .int (nI 0), .int (b2i G), .int (nI c)], [], (0, 0), h)) rfl ?_
          exact low false ⟨fun z => (by cases z), fun z => z.elim (fun y => by cases y) (fun y => absurd y (Int32.not_lt.mpr q))⟩
        · skip
          rw [a3 c hc, b3 c hc] at q
          refine ab_W.go (mm _) 3 (c' := (41, [.ref a, .ref b, .int (nI 1), .int (b2i G), .int (nI c)], [], (0, 0), h)) rfl ?_
          exact low true ⟨fun _ => Or.inr (Int32.not_le.mp q), fun _ => rfl⟩
  refine ⟨rfl, ?_⟩
  show ab_W _ _ _ (0, [.ref a, .ref b, .retAddr 0, .retAddr 0, .retAddr 0], [], (0, 0), h)
  refine ab_W.go (mm _) 6 (c' := (7, [.ref a, .ref b, .int (nI 0), .int (nI 0), .int (nI 0)], [], (0, 0), h)) rfl ?_
  exact loop 0 (Nat.zero_le _) false false ⟨fun z => (by cases z), fun ⟨j, j1, _⟩ => absurd j1 (Nat.not_lt_zero j)⟩ ⟨fun z => (by cases z), fun ⟨j, j1, _⟩ => absurd j1 (Nat.not_lt_zero j)⟩
end
section
/-! circles of the class -/
abbrev Ci : Type := (Nat → Bool) × (Nat → Int64) × (Nat → Int64) × (Nat → Nat → Int32) × Nat
abbrev pr (c : Ci) : Nat → Bool := c.1
abbrev nm (c : Ci) : Nat → Int64 := c.2.1
abbrev kn (c : Ci) : Nat → Int64 := c.2.2.1
abbrev ht (c : Ci) : Nat → Nat → Int32 := c.2.2.2.1
abbrev hn (c : Ci) : Nat := c.2.2.2.2
def setS (c : Ci) (t : Nat) (p : Bool) (N K : Int64) (f : Nat → Int32) : Ci := (va_up (pr c) t p, va_up (nm c) t N, va_up (kn c) t K, va_up (ht c) t f, hn c)
def cir (h : ab_H) (β : Nat) (c : Ci) : Prop := h[β]? = some (.inr (0, [.ref (β + 1), .int (nI (hn c))])) ∧ (∃ q, h[β + 1]? = some (.inl (3, 12, .inr (.inr (.inr (.inr q))))) ∧ ∀ s, s < 12 → q s = some (β + 2 + 2 * s)) ∧ ∀ s, s < 12 → st_P h (β + 2 + 2 * s) (pr c s) (nm c s) (kn c s) (ht c s)
theorem cir.kept {h h' : ab_H} {β : Nat} {c : Ci} (hc : cir h β c) (hk : ∀ i, β ≤ i → i < β + 26 → h'[i]? = h[i]?) : cir h' β c := by
  obtain ⟨c1, ⟨q, c2, c3⟩, c4⟩ := hc
  refine ⟨by rw [hk β (by omega) (by omega)]; exact c1, ⟨q, by rw [hk (β + 1) (by omega) (by omega)]; exact c2, c3⟩, fun s hs => (c4 s hs).kept (hk _ (by omega) (by omega)) (hk _ (by omega) (by omega))⟩
theorem cir.set {h h' : ab_H} {β t : Nat} {c : Ci} {p : Bool} {N K : Int64} {f : Nat → Int32} (hc : cir h β c) (ht : t < 12) (hs : st_P h' (β + 2 + 2 * t) p N K f) (hk : ∀ i, i ≠ β + 2 + 2 * t → i ≠ β + 2 + 2 * t + 1 → h'[i]? = h[i]?) : cir h' β (setS c t p N K f) := by
  obtain ⟨c1, ⟨q, c2, c3⟩, c4⟩ := hc
  refine ⟨by rw [hk β (by omega) (by omega)]; exact c1, ⟨q, by rw [hk (β + 1) (by omega) (by omega)]; exact c2, c3⟩, fun s hs' => ?_⟩
  by_cases e : s = t
  · subst e
    show st_P h' _ (va_up _ s p s) (va_up _ s N s) (va_up _ s K s) (va_up _ s f s)
    rw [va_up_self, va_up_self, va_up_self, va_up_self]
    exact hs
  · show st_P h' _ (va_up _ t p s) (va_up _ t N s) (va_up _ t K s) (va_up _ t f s)
    rw [va_up_ne _ _ e, va_up_ne _ _ e, va_up_ne _ _ e, va_up_ne _ _ e]
    exact (c4 s hs').kept (hk _ (by omega) (by omega)) (hk _ (by omega) (by omega))
theorem ab_W.aref {F : ab_S → ab_R} {C : ab_C} {post : ab_P} {c : ab_S} (hC : ab_mono C) {h : ab_H} {a n j nx t y : Nat} {i : Int32} {lv r : List Value} {b : Nat × Nat} {g : Nat → Option Nat} (hh : h[a]? = some (.inl (t, n, .inr (.inr (.inr (.inr g)))))) (hq : g j = some y) (hi : i = nI j) (hj : j < n) (hn : Nat.ble n 2147483647 = true) (ht : (Nat.beq t 3 || Nat.beq t 4) = true) (e : F c = ab_aq h a fun t n g => ab_gd ((Nat.beq t 3 || Nat.beq t 4) && ab_in i n) (ab_nx nx lv (va_rf (g i.toNatClampNeg) :: r) b h)) (w : ab_W F C post (nx, lv, .ref y :: r, b, h)) : ab_W F C post c := by
  refine ab_W.aald hC hh hi hj hn ht e ?_
  rw [hq]
  exact w
theorem nI_notneg {s : Nat} (h : s < 2147483648) : ¬ nI s < 0 := nI_pos h
theorem sp_find (d : Nat) {h : ab_H} {β s : Nat} {c : Ci} (hc : cir h β c) (hs : s < 12) (hp1 : pr c s = true) {post : ab_P} (hp : post (some (.ref (β + 2 + 2 * s))) h) : mCC (d + 1) kCircle_find [.ref β, .int (nI s)] h post := by
  obtain ⟨c1, ⟨q, c2, c3⟩, c4⟩ := hc
  have e := (c4 s hs).1
  refine ⟨rfl, ?_⟩
  show ab_W _ _ _ (0, [.ref β, .int (nI s)], [], (0, 0), h)
  refine ab_W.go (mm _) 1 (c' := (1, [.ref β, .int (nI s)], [.int (nI s)], (0, 0), h)) rfl ?_
  refine ab_W.itF (mm _) (p := (nI s) < 0) (c1 := (22, [.ref β, .int (nI s)], [], (0, 0), h)) (c2 := (4, [.ref β, .int (nI s)], [], (0, 0), h)) rfl (nI_notneg (by omega)) ?_
  refine ab_W.go (mm _) 2 (c' := (7, [.ref β, .int (nI s)], [.int (nI 12), .int (nI s)], (0, 0), h)) rfl ?_
  refine ab_W.itF (mm _) (p := (nI 12) ≤ (nI s)) (c1 := (22, [.ref β, .int (nI s)], [], (0, 0), h)) (c2 := (10, [.ref β, .int (nI s)], [], (0, 0), h)) rfl (fun z => absurd ((nI_leI (by omega) (by omega)).mp z) (by omega)) ?_
  refine ab_W.go (mm _) 1 (c' := (11, [.ref β, .int (nI s)], [.ref β], (0, 0), h)) rfl ?_
  refine ab_W.o (mm _) (c1) rfl (c' := (14, [.ref β, .int (nI s)], [.ref (β + 1)], (0, 0), h)) rfl ?_
  refine ab_W.go (mm _) 1 (c' := (15, [.ref β, .int (nI s)], [.int (nI s), .ref (β + 1)], (0, 0), h)) rfl ?_
  refine ab_W.aref (mm _) (j := s) (c2) (c3 s hs) rfl (by omega) rfl rfl rfl ?_
  show ab_W _ _ _ (16, [.ref β, .int (nI s)], [.ref (β + 2 + 2 * s)], (0, 0), h)
  refine ab_W.o (mm _) (e) rfl (c' := (19, [.ref β, .int (nI s)], [.int (b2i (pr c s))], (0, 0), h)) rfl ?_
  refine ab_W.itF (mm _) (p := (b2i (pr c s)) = 0) (c1 := (22, [.ref β, .int (nI s)], [], (0, 0), h)) (c2 := (24, [.ref β, .int (nI s)], [], (0, 0), h)) rfl (fun z => by rw [b2i_0, hp1] at z; cases z) ?_
  refine ab_W.go (mm _) 1 (c' := (25, [.ref β, .int (nI s)], [.ref β], (0, 0), h)) rfl ?_
  refine ab_W.o (mm _) (c1) rfl (c' := (28, [.ref β, .int (nI s)], [.ref (β + 1)], (0, 0), h)) rfl ?_
  refine ab_W.go (mm _) 1 (c' := (29, [.ref β, .int (nI s)], [.int (nI s), .ref (β + 1)], (0, 0), h)) rfl ?_
  refine ab_W.aref (mm _) (j := s) (c2) (c3 s hs) rfl (by omega) rfl rfl rfl ?_
  show ab_W _ _ _ (30, [.ref β, .int (nI s)], [.ref (β + 2 + 2 * s)], (0, 0), h)
  refine ab_W.ret (mm _) (v := (some (.ref (β + 2 + 2 * s)))) rfl ?_
  exact hp
/-- there is no such stamp -/
def noS (c : Ci) (x : Int32) : Prop := x < 0 ∨ nI 12 ≤ x ∨ ∃ s, s < 12 ∧ x = nI s ∧ pr c s = false
theorem stamp_or (c : Ci) (x : Int32) : noS c x ∨ ∃ s, s < 12 ∧ x = nI s ∧ pr c s = true := by
  rcases pk_ix x (n := 12) (by decide) with q | q | ⟨j, j1, j2⟩
  · exact Or.inl (Or.inl q)
  · exact Or.inl (Or.inr (Or.inl q))
  · cases hb : pr c j with
    | true => exact Or.inr ⟨j, j1, j2, hb⟩
    | false => exact Or.inl (Or.inr (Or.inr ⟨j, j1, j2, hb⟩))
theorem sp_findN (d : Nat) {h : ab_H} {β : Nat} {x : Int32} {c : Ci} (hc : cir h β c) (hx : noS c x) {post : ab_P} (hp : post (some .null) h) : mCC (d + 1) kCircle_find [.ref β, .int x] h post := by
  obtain ⟨c1, ⟨q, c2, c3⟩, c4⟩ := hc
  refine ⟨rfl, ?_⟩
  show ab_W _ _ _ (0, [.ref β, .int x], [], (0, 0), h)
  refine ab_W.go (mm _) 1 (c' := (1, [.ref β, .int x], [.int x], (0, 0), h)) rfl ?_
  rcases hx with hx | hx | ⟨s, hs, rfl, hp1⟩
  · skip
    refine ab_W.itT (mm _) (p := x < 0) (c1 := (22, [.ref β, .int x], [], (0, 0), h)) (c2 := (4, [.ref β, .int x], [], (0, 0), h)) rfl (hx) ?_
    refine ab_W.go (mm _) 1 (c' := (23, [.ref β, .int x], [.null], (0, 0), h)) rfl ?_
    refine ab_W.ret (mm _) (v := (some (.null))) rfl ?_
    exact hp
  · have h0 : ¬ x < 0 := by
      intro z
      have h1 : nI 12 < 0 := Int32.lt_of_le_of_lt hx z
      exact absurd h1 (by decide)
    refine ab_W.itF (mm _) (p := x < 0) (c1 := (22, [.ref β, .int x], [], (0, 0), h)) (c2 := (4, [.ref β, .int x], [], (0, 0), h)) rfl (h0) ?_
    refine ab_W.go (mm _) 2 (c' := (7, [.ref β, .int x], [.int (nI 12), .int x], (0, 0), h)) rfl ?_
    refine ab_W.itT (mm _) (p := (nI 12) ≤ x) (c1 := (22, [.ref β, .int x], [], (0, 0), h)) (c2 := (10, [.ref β, .int x], [], (0, 0), h)) rfl (hx) ?_
    refine ab_W.go (mm _) 1 (c' := (23, [.ref β, .int x], [.null], (0, 0), h)) rfl ?_
    refine ab_W.ret (mm _) (v := (some (.null))) rfl ?_
    exact hp
  · have e := (c4 s hs).1
    refine ab_W.itF (mm _) (p := (nI s) < 0) (c1 := (22, [.ref β, .int (nI s)], [], (0, 0), h)) (c2 := (4, [.ref β, .int (nI s)], [], (0, 0), h)) rfl (nI_notneg (by omega)) ?_
    refine ab_W.go (mm _) 2 (c' := (7, [.ref β, .int (nI s)], [.int (nI 12), .int (nI s)], (0, 0), h)) rfl ?_
    refine ab_W.itF (mm _) (p := (nI 12) ≤ (nI s)) (c1 := (22, [.ref β, .int (nI s)], [], (0, 0), h)) (c2 := (10, [.ref β, .int (nI s)], [], (0, 0), h)) rfl (fun z => absurd ((nI_leI (by omega) (by omega)).mp z) (by omega)) ?_
    refine ab_W.go (mm _) 1 (c' := (11, [.ref β, .int (nI s)], [.ref β], (0, 0), h)) rfl ?_
    refine ab_W.o (mm _) (c1) rfl (c' := (14, [.ref β, .int (nI s)], [.ref (β + 1)], (0, 0), h)) rfl ?_
    refine ab_W.go (mm _) 1 (c' := (15, [.ref β, .int (nI s)], [.int (nI s), .ref (β + 1)], (0, 0), h)) rfl ?_
    refine ab_W.aref (mm _) (j := s) (c2) (c3 s hs) rfl (by omega) rfl rfl rfl ?_
    show ab_W _ _ _ (16, [.ref β, .int (nI s)], [.ref (β + 2 + 2 * s)], (0, 0), h)
    refine ab_W.o (mm _) (e) rfl (c' := (19, [.ref β, .int (nI s)], [.int (b2i (pr c s))], (0, 0), h)) rfl ?_
    refine ab_W.itT (mm _) (p := (b2i (pr c s)) = 0) (c1 := (22, [.ref β, .int (nI s)], [], (0, 0), h)) (c2 := (24, [.ref β, .int (nI s)], [], (0, 0), h)) rfl (b2i_0.mpr hp1) ?_
    refine ab_W.go (mm _) 1 (c' := (23, [.ref β, .int (nI s)], [.null], (0, 0), h)) rfl ?_
    refine ab_W.ret (mm _) (v := (some (.null))) rfl ?_
    exact hp
/-- the first free place -/
def free1 (c : Ci) (t : Nat) : Prop := t < 12 ∧ pr c t = false ∧ ∀ j, j < t → pr c j = true
theorem free_or (c : Ci) : (∃ t, free1 c t) ∨ ∀ s, s < 12 → pr c s = true := by
  by_cases h : ∃ t, t < 12 ∧ pr c t = false
  · obtain ⟨t, ⟨t1, t2⟩, t3⟩ := pk_least (fun t => t < 12 ∧ pr c t = false) h
    refine Or.inl ⟨t, t1, t2, fun j hj => ?_⟩
    cases hb : pr c j with
    | true => rfl
    | false => exact absurd ⟨by omega, hb⟩ (t3 j hj)
  · refine Or.inr fun s hs => ?_
    cases hb : pr c s with
    | true => rfl
    | false => exact absurd ⟨s, hs, hb⟩ h
theorem sp_addLike (d : Nat) {h : ab_H} {β s t : Nat} {c : Ci} {N : Int64} (hc : cir h β c) (hs : s < 12) (hp1 : pr c s = true) (hf : free1 c t) {post : ab_P} (hp : ∀ h', cir h' β (setS c t true N (kn c s) (ht c s)) → (∀ i, i < β ∨ β + 26 ≤ i → h'[i]? = h[i]?) → post (some (.int (nI t))) h') : mCC (d + 2) kCircle_addLike [.ref β, .ref (β + 2 + 2 * s), .long N] h post := by
  obtain ⟨c1, ⟨q, c2, c3⟩, c4⟩ := id hc
  obtain ⟨t1, t2, t3⟩ := hf
  have hne : s ≠ t := fun z => by rw [z, t2] at hp1; cases hp1
  have loop : ∀ j, j ≤ t → ab_W (ab_st (mT kCircle_addLike) mB mF (mR kCircle_addLike) none) (mCC (d + 1)) post (3, [.ref β, .ref (β + 2 + 2 * s), .long N, .retAddr 0, .int (nI j)], [], (0, 0), h) := by
    refine down t ?_ ?_
    · have e := (c4 t t1).1
      refine ab_W.go (mm _) 2 (c' := (7, [.ref β, .ref (β + 2 + 2 * s), .long N, .retAddr 0, .int (nI t)], [.int (nI 12), .int (nI t)], (0, 0), h)) rfl ?_
      refine ab_W.itF (mm _) (p := (nI 12) ≤ (nI t)) (c1 := (54, [.ref β, .ref (β + 2 + 2 * s), .long N, .retAddr 0, .int (nI t)], [], (0, 0), h)) (c2 := (10, [.ref β, .ref (β + 2 + 2 * s), .long N, .retAddr 0, .int (nI t)], [], (0, 0), h)) rfl (fun z => absurd ((nI_leI (by omega) (by omega)).mp z) (by omega)) ?_
      refine ab_W.go (mm _) 1 (c' := (11, [.ref β, .ref (β + 2 + 2 * s), .long N, .retAddr 0, .int (nI t)], [.ref β], (0, 0), h)) rfl ?_
      refine ab_W.o (mm _) (c1) rfl (c' := (14, [.ref β, .ref (β + 2 + 2 * s), .long N, .retAddr 0, .int (nI t)], [.ref (β + 1)], (0, 0), h)) rfl ?_
      refine ab_W.go (mm _) 1 (c' := (16, [.ref β, .ref (β + 2 + 2 * s), .long N, .retAddr 0, .int (nI t)], [.int (nI t), .ref (β + 1)], (0, 0), h)) rfl ?_
      refine ab_W.aref (mm _) (j := t) (c2) (c3 t t1) rfl (by omega) rfl rfl rfl ?_
      show ab_W _ _ _ (17, [.ref β, .ref (β + 2 + 2 * s), .long N, .retAddr 0, .int (nI t)], [.ref (β + 2 + 2 * t)], (0, 0), h)
      refine ab_W.o (mm _) (e) rfl (c' := (20, [.ref β, .ref (β + 2 + 2 * s), .long N, .retAddr 0, .int (nI t)], [.int (b2i (pr c t))], (0, 0), h)) rfl ?_
      refine ab_W.itT (mm _) (p := (b2i (pr c t)) = 0) (c1 := (23, [.ref β, .ref (β + 2 + 2 * s), .long N, .retAddr 0, .int (nI t)], [], (0, 0), h)) (c2 := (48, [.ref β, .ref (β + 2 + 2 * s), .long N, .retAddr 0, .int (nI t)], [], (0, 0), h)) rfl (b2i_0.mpr t2) ?_
      refine ab_W.go (mm _) 1 (c' := (24, [.ref β, .ref (β + 2 + 2 * s), .long N, .retAddr 0, .int (nI t)], [.ref β], (0, 0), h)) rfl ?_
      refine ab_W.o (mm _) (c1) rfl (c' := (27, [.ref β, .ref (β + 2 + 2 * s), .long N, .retAddr 0, .int (nI t)], [.ref (β + 1)], (0, 0), h)) rfl ?_
      refine ab_W.go (mm _) 1 (c' := (29, [.ref β, .ref (β + 2 + 2 * s), .long N, .retAddr 0, .int (nI t)], [.int (nI t), .ref (β + 1)], (0, 0), h)) rfl ?_
      refine ab_W.aref (mm _) (j := t) (c2) (c3 t t1) rfl (by omega) rfl rfl rfl ?_
      show ab_W _ _ _ (30, [.ref β, .ref (β + 2 + 2 * s), .long N, .retAddr 0, .int (nI t)], [.ref (β + 2 + 2 * t)], (0, 0), h)
      refine ab_W.go (mm _) 1 (c' := (31, [.ref β, .ref (β + 2 + 2 * s), .long N, .retAddr 0, .int (nI t)], [.ref (β + 2 + 2 * s), .ref (β + 2 + 2 * t)], (0, 0), h)) rfl ?_
      refine ab_W.callV (mm _) (e) rfl (k := 38) (av := [.ref (β + 2 + 2 * t), .ref (β + 2 + 2 * s)]) (c' := (34, [.ref β, .ref (β + 2 + 2 * s), .long N, .retAddr 0, .int (nI t)], [], (0, 0), h)) rfl ?_
      refine sp_scopy d (c4 t t1) (c4 s hs) (by omega) (by omega) (by omega) (fun h1 s1 k1 => ?_)
      have d1 := (k1 β (by omega) (by omega)).trans c1
      have d2 := (k1 (β + 1) (by omega) (by omega)).trans c2
      obtain ⟨s2, g, s3, s4⟩ := s1
      rw [hp1] at s2
      show ab_W _ _ _ (34, [.ref β, .ref (β + 2 + 2 * s), .long N, .retAddr 0, .int (nI t)], [], (0, 0), h1)
      refine ab_W.go (mm _) 1 (c' := (35, [.ref β, .ref (β + 2 + 2 * s), .long N, .retAddr 0, .int (nI t)], [.ref β], (0, 0), h1)) rfl ?_
      refine ab_W.o (mm _) (d1) rfl (c' := (38, [.ref β, .ref (β + 2 + 2 * s), .long N, .retAddr 0, .int (nI t)], [.ref (β + 1)], (0, 0), h1)) rfl ?_
      refine ab_W.go (mm _) 1 (c' := (40, [.ref β, .ref (β + 2 + 2 * s), .long N, .retAddr 0, .int (nI t)], [.int (nI t), .ref (β + 1)], (0, 0), h1)) rfl ?_
      refine ab_W.aref (mm _) (j := t) (d2) (c3 t t1) rfl (by omega) rfl rfl rfl ?_
      show ab_W _ _ _ (41, [.ref β, .ref (β + 2 + 2 * s), .long N, .retAddr 0, .int (nI t)], [.ref (β + 2 + 2 * t)], (0, 0), h1)
      refine ab_W.go (mm _) 1 (c' := (42, [.ref β, .ref (β + 2 + 2 * s), .long N, .retAddr 0, .int (nI t)], [.long N, .ref (β + 2 + 2 * t)], (0, 0), h1)) rfl ?_
      refine ab_W.o (mm _) (s2) rfl (c' := (45, [.ref β, .ref (β + 2 + 2 * s), .long N, .retAddr 0, .int (nI t)], [], (0, 0), h1.set (β + 2 + 2 * t) (.inr (3, [.int (b2i true), .long N, .long (kn c s), .ref (β + 2 + 2 * t + 1)])))) rfl ?_
      refine ab_W.go (mm _) 1 (c' := (47, [.ref β, .ref (β + 2 + 2 * s), .long N, .retAddr 0, .int (nI t)], [.int (nI t)], (0, 0), h1.set (β + 2 + 2 * t) (.inr (3, [.int (b2i true), .long N, .long (kn c s), .ref (β + 2 + 2 * t + 1)])))) rfl ?_
      refine ab_W.retI (mm _) (rt := some .int) (v := nI t) rfl rfl ?_
      refine hp _ (hc.set t1 ⟨set_at s2, g, (set_ne (by omega)).trans s3, s4⟩ (fun i i1 i2 => (set_ne (fun z => i1 z.symm)).trans (k1 i i1 i2))) (fun i hi => (set_ne (by omega)).trans (k1 i (by omega) (by omega)))
    · intro j hj ih
      have e := (c4 j (by omega)).1
      refine ab_W.go (mm _) 2 (c' := (7, [.ref β, .ref (β + 2 + 2 * s), .long N, .retAddr 0, .int (nI j)], [.int (nI 12), .int (nI j)], (0, 0), h)) rfl ?_
      refine ab_W.itF (mm _) (p := (nI 12) ≤ (nI j)) (c1 := (54, [.ref β, .ref (β + 2 + 2 * s), .long N, .retAddr 0, .int (nI j)], [], (0, 0), h)) (c2 := (10, [.ref β, .ref (β + 2 + 2 * s), .long N, .retAddr 0, .int (nI j)], [], (0, 0), h)) rfl (fun z => absurd ((nI_leI (by omega) (by omega)).mp z) (by omega)) ?_
      refine ab_W.go (mm _) 1 (c' := (11, [.ref β, .ref (β + 2 + 2 * s), .long N, .retAddr 0, .int (nI j)], [.ref β], (0, 0), h)) rfl ?_
      refine ab_W.o (mm _) (c1) rfl (c' := (14, [.ref β, .ref (β + 2 + 2 * s), .long N, .retAddr 0, .int (nI j)], [.ref (β + 1)], (0, 0), h)) rfl ?_
      refine ab_W.go (mm _) 1 (c' := (16, [.ref β, .ref (β + 2 + 2 * s), .long N, .retAddr 0, .int (nI j)], [.int (nI j), .ref (β + 1)], (0, 0), h)) rfl ?_
      refine ab_W.aref (mm _) (j := j) (c2) (c3 j (by omega)) rfl (by omega) rfl rfl rfl ?_
      show ab_W _ _ _ (17, [.ref β, .ref (β + 2 + 2 * s), .long N, .retAddr 0, .int (nI j)], [.ref (β + 2 + 2 * j)], (0, 0), h)
      refine ab_W.o (mm _) (e) rfl (c' := (20, [.ref β, .ref (β + 2 + 2 * s), .long N, .retAddr 0, .int (nI j)], [.int (b2i (pr c j))], (0, 0), h)) rfl ?_
      refine ab_W.itF (mm _) (p := (b2i (pr c j)) = 0) (c1 := (23, [.ref β, .ref (β + 2 + 2 * s), .long N, .retAddr 0, .int (nI j)], [], (0, 0), h)) (c2 := (48, [.ref β, .ref (β + 2 + 2 * s), .long N, .retAddr 0, .int (nI j)], [], (0, 0), h)) rfl (fun z => by rw [b2i_0, t3 j hj] at z; cases z) ?_
      refine ab_W.go (mm _) 1 (c' := (51, [.ref β, .ref (β + 2 + 2 * s), .long N, .retAddr 0, .int (nI j + nI 1)], [], (0, 0), h)) rfl ?_
      rw [nI_add j 1]
      refine ab_W.go (mm _) 1 (c' := (3, [.ref β, .ref (β + 2 + 2 * s), .long N, .retAddr 0, .int (nI (j + 1))], [], (0, 0), h)) rfl ?_
      exact ih
  refine ⟨rfl, ?_⟩
  show ab_W _ _ _ (0, [.ref β, .ref (β + 2 + 2 * s), .long N, .retAddr 0, .retAddr 0], [], (0, 0), h)
  refine ab_W.go (mm _) 2 (c' := (3, [.ref β, .ref (β + 2 + 2 * s), .long N, .retAddr 0, .int (nI 0)], [], (0, 0), h)) rfl ?_
  exact loop 0 (Nat.zero_le _)
theorem sp_addLikeN (d : Nat) {h : ab_H} {β a : Nat} {c : Ci} {N : Int64} (hc : cir h β c) (hf : ∀ s, s < 12 → pr c s = true) {post : ab_P} (hp : post (some (.int (-(nI 4)))) h) : mCC (d + 2) kCircle_addLike [.ref β, .ref a, .long N] h post := by
  obtain ⟨c1, ⟨q, c2, c3⟩, c4⟩ := hc
  have loop : ∀ j, j ≤ 12 → ab_W (ab_st (mT kCircle_addLike) mB mF (mR kCircle_addLike) none) (mCC (d + 1)) post (3, [.ref β, .ref a, .long N, .retAddr 0, .int (nI j)], [], (0, 0), h) := by
    refine down 12 ?_ ?_
    · skip
      refine ab_W.go (mm _) 2 (c' := (7, [.ref β, .ref a, .long N, .retAddr 0, .int (nI 12)], [.int (nI 12), .int (nI 12)], (0, 0), h)) rfl ?_
      refine ab_W.itT (mm _) (p := (nI 12) ≤ (nI 12)) (c1 := (54, [.ref β, .ref a, .long N, .retAddr 0, .int (nI 12)], [], (0, 0), h)) (c2 := (10, [.ref β, .ref a, .long N, .retAddr 0, .int (nI 12)], [], (0, 0), h)) rfl ((by decide)) ?_
      refine ab_W.go (mm _) 1 (c' := (56, [.ref β, .ref a, .long N, .retAddr 0, .int (nI 12)], [.int (-(nI 4))], (0, 0), h)) rfl ?_
      refine ab_W.retI (mm _) (rt := some .int) (v := -(nI 4)) rfl rfl ?_
      exact hp
    · intro j hj ih
      have e := (c4 j (by omega)).1
      refine ab_W.go (mm _) 2 (c' := (7, [.ref β, .ref a, .long N, .retAddr 0, .int (nI j)], [.int (nI 12), .int (nI j)], (0, 0), h)) rfl ?_
      refine ab_W.itF (mm _) (p := (nI 12) ≤ (nI j)) (c1 := (54, [.ref β, .ref a, .long N, .retAddr 0, .int (nI j)], [], (0, 0), h)) (c2 := (10, [.ref β, .ref a, .long N, .retAddr 0, .int (nI j)], [], (0, 0), h)) rfl (fun z => absurd ((nI_leI (by omega) (by omega)).mp z) (by omega)) ?_
      refine ab_W.go (mm _) 1 (c' := (11, [.ref β, .ref a, .long N, .retAddr 0, .int (nI j)], [.ref β], (0, 0), h)) rfl ?_
      refine ab_W.o (mm _) (c1) rfl (c' := (14, [.ref β, .ref a, .long N, .retAddr 0, .int (nI j)], [.ref (β + 1)], (0, 0), h)) rfl ?_
      refine ab_W.go (mm _) 1 (c' := (16, [.ref β, .ref a, .long N, .retAddr 0, .int (nI j)], [.int (nI j), .ref (β + 1)], (0, 0), h)) rfl ?_
      refine ab_W.aref (mm _) (j := j) (c2) (c3 j (by omega)) rfl (by omega) rfl rfl rfl ?_
      show ab_W _ _ _ (17, [.ref β, .ref a, .long N, .retAddr 0, .int (nI j)], [.ref (β + 2 + 2 * j)], (0, 0), h)
      refine ab_W.o (mm _) (e) rfl (c' := (20, [.ref β, .ref a, .long N, .retAddr 0, .int (nI j)], [.int (b2i (pr c j))], (0, 0), h)) rfl ?_
      refine ab_W.itF (mm _) (p := (b2i (pr c j)) = 0) (c1 := (23, [.ref β, .ref a, .long N, .retAddr 0, .int (nI j)], [], (0, 0), h)) (c2 := (48, [.ref β, .ref a, .long N, .retAddr 0, .int (nI j)], [], (0, 0), h)) rfl (fun z => by rw [b2i_0, hf j hj] at z; cases z) ?_
      refine ab_W.go (mm _) 1 (c' := (51, [.ref β, .ref a, .long N, .retAddr 0, .int (nI j + nI 1)], [], (0, 0), h)) rfl ?_
      rw [nI_add j 1]
      refine ab_W.go (mm _) 1 (c' := (3, [.ref β, .ref a, .long N, .retAddr 0, .int (nI (j + 1))], [], (0, 0), h)) rfl ?_
      exact ih
  refine ⟨rfl, ?_⟩
  show ab_W _ _ _ (0, [.ref β, .ref a, .long N, .retAddr 0, .retAddr 0], [], (0, 0), h)
  refine ab_W.go (mm _) 2 (c' := (3, [.ref β, .ref a, .long N, .retAddr 0, .int (nI 0)], [], (0, 0), h)) rfl ?_
  exact loop 0 (Nat.zero_le _)
/-! how many there are, and their set -/
def mkN (p : Nat → Bool) : Nat → Nat
  | 0 => 0
  | s + 1 => mkN p s + (if p s = true then 2 ^ s else 0)
def cb (p : Nat → Bool) : Nat → Nat
  | 0 => 0
  | s + 1 => cb p s + (if p s = true then 1 else 0)
theorem mkN_lt (p : Nat → Bool) : ∀ s, mkN p s < 2 ^ s := by
  intro s
  induction s with
  | zero => show 0 < 1; decide
  | succ s ih =>
    show mkN p s + (if p s = true then 2 ^ s else 0) < 2 ^ (s + 1)
    rw [Nat.pow_succ]
    split <;> omega
theorem mkN_t {p : Nat → Bool} {s : Nat} (h : p s = true) : mkN p (s + 1) = mkN p s + 2 ^ s := by
  show mkN p s + (if p s = true then 2 ^ s else 0) = _
  rw [if_pos h]
theorem mkN_f {p : Nat → Bool} {s : Nat} (h : p s = false) : mkN p (s + 1) = mkN p s := by
  show mkN p s + (if p s = true then 2 ^ s else 0) = _
  rw [if_neg (by rw [h]; decide)]
  rfl
theorem cb_t {p : Nat → Bool} {s : Nat} (h : p s = true) : cb p (s + 1) = cb p s + 1 := by
  show cb p s + (if p s = true then 1 else 0) = _
  rw [if_pos h]
theorem cb_f {p : Nat → Bool} {s : Nat} (h : p s = false) : cb p (s + 1) = cb p s := by
  show cb p s + (if p s = true then 1 else 0) = _
  rw [if_neg (by rw [h]; decide)]
  rfl
theorem cntB_low {a b s : Nat} : ∀ i, i ≤ s → cntB (a + 2 ^ s * b) i = cntB a i := by
  intro i
  induction i with
  | zero => intro _; rfl
  | succ i ih =>
    intro hi
    show cntB (a + 2 ^ s * b) i + (a + 2 ^ s * b) / 2 ^ i % 2 = cntB a i + a / 2 ^ i % 2
    rw [ih (by omega)]
    have e : 2 ^ s * b = 2 ^ i * (2 * (2 ^ (s - i - 1) * b)) := by
      rw [← Nat.mul_assoc, ← Nat.mul_assoc, Nat.mul_assoc (2 ^ i) 2, ← Nat.pow_succ', ← Nat.pow_add]
      congr 2
      omega
    rw [e, Nat.add_mul_div_left _ _ (Nat.two_pow_pos i), Nat.add_mul_mod_self_left]
theorem cntB_mkN (p : Nat → Bool) : ∀ s, cntB (mkN p s) s = cb p s := by
  intro s
  induction s with
  | zero => rfl
  | succ s ih =>
    have hlt := mkN_lt p s
    cases hb : p s with
    | true =>
      rw [mkN_t hb, cb_t hb]
      show cntB (mkN p s + 2 ^ s) s + (mkN p s + 2 ^ s) / 2 ^ s % 2 = _
      have e := cntB_low (a := mkN p s) (b := 1) (s := s) s (Nat.le_refl _)
      rw [Nat.mul_one] at e
      rw [e, ih, Nat.add_div_right _ (Nat.two_pow_pos s), Nat.div_eq_of_lt hlt]
    | false =>
      rw [mkN_f hb, cb_f hb]
      show cntB (mkN p s) s + mkN p s / 2 ^ s % 2 = _
      rw [ih, Nat.div_eq_of_lt hlt]
      rfl
theorem or_pow : ∀ s, s < 12 → ∀ a, a < 2 ^ s → (nI a ||| (nI 1 <<< (nI s &&& 31))) = nI (a + 2 ^ s) := by decide +kernel
theorem sp_numbers (d : Nat) {h : ab_H} {β : Nat} {c : Ci} (hc : cir h β c) {post : ab_P} (hp : post (some (.int (nI (mkN (pr c) 12)))) h) : mCC (d + 1) kCircle_numbersInUse [.ref β] h post := by
  obtain ⟨c1, ⟨q, c2, c3⟩, c4⟩ := hc
  have loop : ∀ s, s ≤ 12 → ab_W (ab_st (mT kCircle_numbersInUse) mB mF (mR kCircle_numbersInUse) none) (mCC d) post (4, [.ref β, .int (nI (mkN (pr c) s)), .int (nI s)], [], (0, 0), h) := by
    refine down 12 ?_ ?_
    · skip
      refine ab_W.go (mm _) 2 (c' := (7, [.ref β, .int (nI (mkN (pr c) 12)), .int (nI 12)], [.int (nI 12), .int (nI 12)], (0, 0), h)) rfl ?_
      refine ab_W.itT (mm _) (p := (nI 12) ≤ (nI 12)) (c1 := (34, [.ref β, .int (nI (mkN (pr c) 12)), .int (nI 12)], [], (0, 0), h)) (c2 := (10, [.ref β, .int (nI (mkN (pr c) 12)), .int (nI 12)], [], (0, 0), h)) rfl ((by decide)) ?_
      refine ab_W.go (mm _) 1 (c' := (35, [.ref β, .int (nI (mkN (pr c) 12)), .int (nI 12)], [.int (nI (mkN (pr c) 12))], (0, 0), h)) rfl ?_
      refine ab_W.retI (mm _) (rt := some .int) (v := nI (mkN (pr c) 12)) rfl rfl ?_
      exact hp
    · intro s hs ih
      have e := (c4 s hs).1
      refine ab_W.go (mm _) 2 (c' := (7, [.ref β, .int (nI (mkN (pr c) s)), .int (nI s)], [.int (nI 12), .int (nI s)], (0, 0), h)) rfl ?_
      refine ab_W.itF (mm _) (p := (nI 12) ≤ (nI s)) (c1 := (34, [.ref β, .int (nI (mkN (pr c) s)), .int (nI s)], [], (0, 0), h)) (c2 := (10, [.ref β, .int (nI (mkN (pr c) s)), .int (nI s)], [], (0, 0), h)) rfl (fun z => absurd ((nI_leI (by omega) (by omega)).mp z) (by omega)) ?_
      refine ab_W.go (mm _) 1 (c' := (11, [.ref β, .int (nI (mkN (pr c) s)), .int (nI s)], [.ref β], (0, 0), h)) rfl ?_
      refine ab_W.o (mm _) (c1) rfl (c' := (14, [.ref β, .int (nI (mkN (pr c) s)), .int (nI s)], [.ref (β + 1)], (0, 0), h)) rfl ?_
      refine ab_W.go (mm _) 1 (c' := (15, [.ref β, .int (nI (mkN (pr c) s)), .int (nI s)], [.int (nI s), .ref (β + 1)], (0, 0), h)) rfl ?_
      refine ab_W.aref (mm _) (j := s) (c2) (c3 s hs) rfl (by omega) rfl rfl rfl ?_
      show ab_W _ _ _ (16, [.ref β, .int (nI (mkN (pr c) s)), .int (nI s)], [.ref (β + 2 + 2 * s)], (0, 0), h)
      refine ab_W.o (mm _) (e) rfl (c' := (19, [.ref β, .int (nI (mkN (pr c) s)), .int (nI s)], [.int (b2i (pr c s))], (0, 0), h)) rfl ?_
      refine ab_W.ite (mm _) (p := (b2i (pr c s)) = 0) (c1 := (28, [.ref β, .int (nI (mkN (pr c) s)), .int (nI s)], [], (0, 0), h)) (c2 := (22, [.ref β, .int (nI (mkN (pr c) s)), .int (nI s)], [], (0, 0), h)) rfl (fun q => ?_) (fun q => ?_)
      · skip
        rw [mkN_f (b2i_0.mp q)] at ih
        refine ab_W.go (mm _) 1 (c' := (31, [.ref β, .int (nI (mkN (pr c) s)), .int (nI s + nI 1)], [], (0, 0), h)) rfl ?_
        rw [nI_add s 1]
        refine ab_W.go (mm _) 1 (c' := (4, [.ref β, .int (nI (mkN (pr c) s)), .int (nI (s + 1))], [], (0, 0), h)) rfl ?_
        exact ih
      · skip
        have q : pr c s = true := by
          cases hb : pr c s with
          | true => rfl
          | false => exact absurd (b2i_0.mpr hb) q
        rw [mkN_t q] at ih
        refine ab_W.go (mm _) 5 (c' := (27, [.ref β, .int (nI (mkN (pr c) s)), .int (nI s)], [.int ((nI (mkN (pr c) s)) ||| ((nI 1) <<< ((nI s) &&& 31)))], (0, 0), h)) rfl ?_
        refine ab_W.topi (or_pow s hs _ (mkN_lt _ s)) ?_
        refine ab_W.go (mm _) 2 (c' := (31, [.ref β, .int (nI (mkN (pr c) s + 2 ^ s)), .int (nI s + nI 1)], [], (0, 0), h)) rfl ?_
        rw [nI_add s 1]
        refine ab_W.go (mm _) 1 (c' := (4, [.ref β, .int (nI (mkN (pr c) s + 2 ^ s)), .int (nI (s + 1))], [], (0, 0), h)) rfl ?_
        exact ih
  refine ⟨rfl, ?_⟩
  show ab_W _ _ _ (0, [.ref β, .retAddr 0, .retAddr 0], [], (0, 0), h)
  refine ab_W.go (mm _) 4 (c' := (4, [.ref β, .int (nI 0), .int (nI 0)], [], (0, 0), h)) rfl ?_
  exact loop 0 (Nat.zero_le _)
def ib1 (x : Int32) : Int32 := x - ((x.toUInt32 >>> ((nI 1).toUInt32 &&& Int32.toUInt32 31)).toInt32 &&& nI 1431655765)
def ib2 (x : Int32) : Int32 := (x &&& nI 858993459) + ((x.toUInt32 >>> ((nI 2).toUInt32 &&& Int32.toUInt32 31)).toInt32 &&& nI 858993459)
def ib3 (x : Int32) : Int32 := (x + (x.toUInt32 >>> ((nI 4).toUInt32 &&& Int32.toUInt32 31)).toInt32) &&& nI 252645135
def ib4 (x : Int32) : Int32 := x + (x.toUInt32 >>> ((nI 8).toUInt32 &&& Int32.toUInt32 31)).toInt32
def ib5 (x : Int32) : Int32 := x + (x.toUInt32 >>> ((nI 16).toUInt32 &&& Int32.toUInt32 31)).toInt32
theorem ib_ok' : ∀ a, a < 64 → ∀ b, b < 64 → (ib5 (ib4 (ib3 (ib2 (ib1 (nI (64 * a + b))))))) &&& nI 63 = nI (cntB (64 * a + b) 12) := by decide +kernel
theorem ib_ok (m : Nat) (hm : m < 4096) : (ib5 (ib4 (ib3 (ib2 (ib1 (nI m)))))) &&& nI 63 = nI (cntB m 12) := by
  have := ib_ok' (m / 64) (by omega) (m % 64) (by omega)
  rw [Nat.div_add_mod] at this
  exact this
theorem sp_ibc (d : Nat) {h : ab_H} {m : Nat} (hm : m < 4096) {post : ab_P} (hp : post (some (.int (nI (cntB m 12)))) h) : mCC (d + 1) kInteger_bitCount [.int (nI m)] h post := by
  refine ⟨rfl, ?_⟩
  show ab_W _ _ _ (0, [.int (nI m)], [], (0, 0), h)
  refine ab_W.go (mm _) 7 (c' := (9, [.int (nI m)], [.int ((nI m) - ((((nI m).toUInt32 >>> ((nI 1).toUInt32 &&& Int32.toUInt32 31)).toInt32) &&& (nI 1431655765)))], (0, 0), h)) rfl ?_
  refine ab_W.topi ((rfl : _ = ib1 (nI m))) ?_
  refine ab_W.go (mm _) 10 (c' := (23, [.int (ib1 (nI m))], [.int (((ib1 (nI m)) &&& (nI 858993459)) + ((((ib1 (nI m)).toUInt32 >>> ((nI 2).toUInt32 &&& Int32.toUInt32 31)).toInt32) &&& (nI 858993459)))], (0, 0), h)) rfl ?_
  refine ab_W.topi ((rfl : _ = ib2 (ib1 (nI m)))) ?_
  refine ab_W.go (mm _) 8 (c' := (33, [.int (ib2 (ib1 (nI m)))], [.int (((ib2 (ib1 (nI m))) + (((ib2 (ib1 (nI m))).toUInt32 >>> ((nI 4).toUInt32 &&& Int32.toUInt32 31)).toInt32)) &&& (nI 252645135))], (0, 0), h)) rfl ?_
  refine ab_W.topi ((rfl : _ = ib3 (ib2 (ib1 (nI m))))) ?_
  refine ab_W.go (mm _) 6 (c' := (40, [.int (ib3 (ib2 (ib1 (nI m))))], [.int ((ib3 (ib2 (ib1 (nI m)))) + (((ib3 (ib2 (ib1 (nI m)))).toUInt32 >>> ((nI 8).toUInt32 &&& Int32.toUInt32 31)).toInt32))], (0, 0), h)) rfl ?_
  refine ab_W.topi ((rfl : _ = ib4 (ib3 (ib2 (ib1 (nI m)))))) ?_
  refine ab_W.go (mm _) 6 (c' := (47, [.int (ib4 (ib3 (ib2 (ib1 (nI m)))))], [.int ((ib4 (ib3 (ib2 (ib1 (nI m))))) + (((ib4 (ib3 (ib2 (ib1 (nI m))))).toUInt32 >>> ((nI 16).toUInt32 &&& Int32.toUInt32 31)).toInt32))], (0, 0), h)) rfl ?_
  refine ab_W.topi ((rfl : _ = ib5 (ib4 (ib3 (ib2 (ib1 (nI m))))))) ?_
  refine ab_W.go (mm _) 4 (c' := (52, [.int (ib5 (ib4 (ib3 (ib2 (ib1 (nI m))))))], [.int ((ib5 (ib4 (ib3 (ib2 (ib1 (nI m)))))) &&& (nI 63))], (0, 0), h)) rfl ?_
  refine ab_W.topi (ib_ok m hm) ?_
  refine ab_W.retI (mm _) (rt := some .int) (v := nI (cntB m 12)) rfl rfl ?_
  exact hp
theorem sp_howMany (d : Nat) {h : ab_H} {β : Nat} {c : Ci} (hc : cir h β c) {post : ab_P} (hp : post (some (.int (nI (cb (pr c) 12)))) h) : mCC (d + 2) kCircle_howMany [.ref β] h post := by
  refine ⟨rfl, ?_⟩
  show ab_W _ _ _ (0, [.ref β], [], (0, 0), h)
  refine ab_W.go (mm _) 1 (c' := (1, [.ref β], [.ref β], (0, 0), h)) rfl ?_
  refine ab_W.callV (mm _) (hc.1) rfl (k := 3) (av := [.ref β]) (c' := (4, [.ref β], [], (0, 0), h)) rfl ?_
  refine sp_numbers _ hc ?_
  show ab_W _ _ _ (4, [.ref β], [.int (nI (mkN (pr c) 12))], (0, 0), h)
  refine ab_W.call (mm _) (k := 121) (av := [.int (nI (mkN (pr c) 12))]) (c' := (7, [.ref β], [], (0, 0), h)) rfl ?_
  refine sp_ibc _ (mkN_lt (pr c) 12) ?_
  show ab_W _ _ _ (7, [.ref β], [.int (nI (cntB (mkN (pr c) 12) 12))], (0, 0), h)
  rw [cntB_mkN]
  refine ab_W.retI (mm _) (rt := some .int) (v := nI (cb (pr c) 12)) rfl rfl ?_
  exact hp
/-- copying a circle -/
theorem sp_ccopy (d : Nat) {h : ab_H} {β γ : Nat} {c k : Ci} (hc : cir h β c) (hk : cir h γ k) (ha : β + 26 ≤ γ ∨ γ + 26 ≤ β) {post : ab_P} (hp : ∀ h', cir h' β k → (∀ i, i < β ∨ β + 26 ≤ i → h'[i]? = h[i]?) → post none h') : mCC (d + 2) kCircle_copyFrom [.ref β, .ref γ] h post := by
  obtain ⟨c1, ⟨q, c2, c3⟩, c4⟩ := hc
  obtain ⟨k1, ⟨r, k2, k3⟩, k4⟩ := hk
  have loop : ∀ s, s ≤ 12 → ∀ h1, (∀ i, i < β + 2 ∨ β + 26 ≤ i → h1[i]? = h[i]?) → (∀ j, j < s → st_P h1 (β + 2 + 2 * j) (pr k j) (nm k j) (kn k j) (ht k j)) → (∀ j, s ≤ j → j < 12 → st_P h1 (β + 2 + 2 * j) (pr c j) (nm c j) (kn c j) (ht c j)) → ab_W (ab_st (mT kCircle_copyFrom) mB mF (mR kCircle_copyFrom) none) (mCC (d + 1)) post (2, [.ref β, .ref γ, .int (nI s)], [], (0, 0), h1) := by
    refine down 12 ?_ ?_
    · intro h1 e1 e2 e3
      refine ab_W.go (mm _) 2 (c' := (5, [.ref β, .ref γ, .int (nI 12)], [.int (nI 12), .int (nI 12)], (0, 0), h1)) rfl ?_
      refine ab_W.itT (mm _) (p := (nI 12) ≤ (nI 12)) (c1 := (29, [.ref β, .ref γ, .int (nI 12)], [], (0, 0), h1)) (c2 := (8, [.ref β, .ref γ, .int (nI 12)], [], (0, 0), h1)) rfl ((by decide)) ?_
      refine ab_W.go (mm _) 2 (c' := (31, [.ref β, .ref γ, .int (nI 12)], [.ref γ, .ref β], (0, 0), h1)) rfl ?_
      refine ab_W.o (mm _) ((e1 γ (by omega)).trans k1) rfl (c' := (34, [.ref β, .ref γ, .int (nI 12)], [.int (nI (hn k)), .ref β], (0, 0), h1)) rfl ?_
      have f1 := (e1 β (by omega)).trans c1
      refine ab_W.o (mm _) (f1) rfl (c' := (37, [.ref β, .ref γ, .int (nI 12)], [], (0, 0), h1.set β (.inr (0, [.ref (β + 1), .int (nI (hn k))])))) rfl ?_
      refine ab_W.ret (mm _) (v := none) rfl ?_
      refine hp _ ⟨set_at f1, ⟨q, (set_ne (by omega)).trans ((e1 (β + 1) (by omega)).trans c2), c3⟩, fun s hs => (e2 s hs).kept (set_ne (by omega)) (set_ne (by omega))⟩ (fun i hi => (set_ne (by omega)).trans (e1 i (by omega)))
    · intro s hs ih h1 e1 e2 e3
      have f1 := (e1 β (by omega)).trans c1
      have f2 := (e1 (β + 1) (by omega)).trans c2
      have g1 := (e1 γ (by omega)).trans k1
      have g2 := (e1 (γ + 1) (by omega)).trans k2
      have g4 : st_P h1 (γ + 2 + 2 * s) (pr k s) (nm k s) (kn k s) (ht k s) := (k4 s hs).kept (e1 _ (by omega)) (e1 _ (by omega))
      have f4 := e3 s (Nat.le_refl _) hs
      refine ab_W.go (mm _) 2 (c' := (5, [.ref β, .ref γ, .int (nI s)], [.int (nI 12), .int (nI s)], (0, 0), h1)) rfl ?_
      refine ab_W.itF (mm _) (p := (nI 12) ≤ (nI s)) (c1 := (29, [.ref β, .ref γ, .int (nI s)], [], (0, 0), h1)) (c2 := (8, [.ref β, .ref γ, .int (nI s)], [], (0, 0), h1)) rfl (fun z => absurd ((nI_leI (by omega) (by omega)).mp z) (by omega)) ?_
      refine ab_W.go (mm _) 1 (c' := (9, [.ref β, .ref γ, .int (nI s)], [.ref β], (0, 0), h1)) rfl ?_
      refine ab_W.o (mm _) (f1) rfl (c' := (12, [.ref β, .ref γ, .int (nI s)], [.ref (β + 1)], (0, 0), h1)) rfl ?_
      refine ab_W.go (mm _) 1 (c' := (13, [.ref β, .ref γ, .int (nI s)], [.int (nI s), .ref (β + 1)], (0, 0), h1)) rfl ?_
      refine ab_W.aref (mm _) (j := s) (f2) (c3 s hs) rfl (by omega) rfl rfl rfl ?_
      show ab_W _ _ _ (14, [.ref β, .ref γ, .int (nI s)], [.ref (β + 2 + 2 * s)], (0, 0), h1)
      refine ab_W.go (mm _) 1 (c' := (15, [.ref β, .ref γ, .int (nI s)], [.ref γ, .ref (β + 2 + 2 * s)], (0, 0), h1)) rfl ?_
      refine ab_W.o (mm _) (g1) rfl (c' := (18, [.ref β, .ref γ, .int (nI s)], [.ref (γ + 1), .ref (β + 2 + 2 * s)], (0, 0), h1)) rfl ?_
      refine ab_W.go (mm _) 1 (c' := (19, [.ref β, .ref γ, .int (nI s)], [.int (nI s), .ref (γ + 1), .ref (β + 2 + 2 * s)], (0, 0), h1)) rfl ?_
      refine ab_W.aref (mm _) (j := s) (g2) (k3 s hs) rfl (by omega) rfl rfl rfl ?_
      show ab_W _ _ _ (20, [.ref β, .ref γ, .int (nI s)], [.ref (γ + 2 + 2 * s), .ref (β + 2 + 2 * s)], (0, 0), h1)
      refine ab_W.callV (mm _) (f4.1) rfl (k := 38) (av := [.ref (β + 2 + 2 * s), .ref (γ + 2 + 2 * s)]) (c' := (23, [.ref β, .ref γ, .int (nI s)], [], (0, 0), h1)) rfl ?_
      refine sp_scopy d f4 g4 (by omega) (by omega) (by omega) (fun h2 s1 u1 => ?_)
      show ab_W _ _ _ (23, [.ref β, .ref γ, .int (nI s)], [], (0, 0), h2)
      refine ab_W.go (mm _) 1 (c' := (26, [.ref β, .ref γ, .int (nI s + nI 1)], [], (0, 0), h2)) rfl ?_
      rw [nI_add s 1]
      refine ab_W.go (mm _) 1 (c' := (2, [.ref β, .ref γ, .int (nI (s + 1))], [], (0, 0), h2)) rfl ?_
      refine ih h2 (fun i hi => (u1 i (by omega) (by omega)).trans (e1 i hi)) (fun j hj => ?_) (fun j j1 j2 => (e3 j (by omega) j2).kept (u1 _ (by omega) (by omega)) (u1 _ (by omega) (by omega)))
      rcases Nat.lt_or_ge j s with z | z
      · exact (e2 j z).kept (u1 _ (by omega) (by omega)) (u1 _ (by omega) (by omega))
      · rw [show j = s by omega]; exact s1
  refine ⟨rfl, ?_⟩
  show ab_W _ _ _ (0, [.ref β, .ref γ, .retAddr 0], [], (0, 0), h)
  refine ab_W.go (mm _) 2 (c' := (2, [.ref β, .ref γ, .int (nI 0)], [], (0, 0), h)) rfl ?_
  exact loop 0 (Nat.zero_le _) h (fun _ _ => rfl) (fun j hj => absurd hj (Nat.not_lt_zero j)) (fun j _ j2 => c4 j j2)
end
section
/-! the class counts kinds of stamps -/
theorem ordN_le (f g : Nat → Int32) : ordN f g ≤ 3 := by
  unfold ordN
  by_cases h1 : ∃ c, c < 64 ∧ f c < g c
  · rw [ci_t h1]
    by_cases h2 : ∃ c, c < 64 ∧ g c < f c
    · rw [ci_t h2]; decide
    · rw [ci_f h2]; decide
  · rw [ci_f h1]
    by_cases h2 : ∃ c, c < 64 ∧ g c < f c
    · rw [ci_t h2]; decide
    · rw [ci_f h2]; decide
theorem pr_t {c : Ci} {s : Nat} (h : ¬ b2i (pr c s) = 0) : pr c s = true := by
  cases hb : pr c s with
  | true => rfl
  | false => exact absurd (b2i_0.mpr hb) h
theorem sp_isEven (d : Nat) {h : ab_H} {β s : Nat} {c : Ci} (hc : cir h β c) (hs : s < 12) {post : ab_P} (hp : ∀ v : Int32, ((∃ t, t < s ∧ pr c t = true ∧ ordN (ht c t) (ht c s) = 0) ∧ v = nI 1) ∨ ((¬ ∃ t, t < s ∧ pr c t = true ∧ ordN (ht c t) (ht c s) = 0) ∧ v = nI 0) → post (some (.int v)) h) : mCC (d + 2) kCircle_isEvenWithEarlier [.ref β, .int (nI s)] h post := by
  obtain ⟨c1, ⟨q, c2, c3⟩, c4⟩ := hc
  have f := (c4 s hs).1
  have loop : ∀ t, t ≤ s → (∀ j, j < t → ¬ (pr c j = true ∧ ordN (ht c j) (ht c s) = 0)) → ab_W (ab_st (mT kCircle_isEvenWithEarlier) mB mF (mR kCircle_isEvenWithEarlier) none) (mCC (d + 1)) post (2, [.ref β, .int (nI s), .int (nI t)], [], (0, 0), h) := by
    refine down s ?_ ?_
    · intro hno
      refine ab_W.go (mm _) 2 (c' := (4, [.ref β, .int (nI s), .int (nI s)], [.int (nI s), .int (nI s)], (0, 0), h)) rfl ?_
      refine ab_W.itT (mm _) (p := (nI s) ≤ (nI s)) (c1 := (45, [.ref β, .int (nI s), .int (nI s)], [], (0, 0), h)) (c2 := (7, [.ref β, .int (nI s), .int (nI s)], [], (0, 0), h)) rfl ((nI_leI (by omega) (by omega)).mpr (Nat.le_refl _)) ?_
      refine ab_W.go (mm _) 1 (c' := (46, [.ref β, .int (nI s), .int (nI s)], [.int (nI 0)], (0, 0), h)) rfl ?_
      refine ab_W.retI (mm _) (rt := some .boolean) (v := nI 0) rfl rfl ?_
      exact hp _ (Or.inr ⟨fun ⟨t, t1, t2⟩ => hno t t1 t2, rfl⟩)
    · intro t htl ih hno
      have e := (c4 t (by omega)).1
      have next : ¬ (pr c t = true ∧ ordN (ht c t) (ht c s) = 0) → ∀ j, j < t + 1 → ¬ (pr c j = true ∧ ordN (ht c j) (ht c s) = 0) := fun z j hj => by
        rcases Nat.lt_or_ge j t with y | y
        · exact hno j y
        · rw [show j = t by omega]; exact z
      refine ab_W.go (mm _) 2 (c' := (4, [.ref β, .int (nI s), .int (nI t)], [.int (nI s), .int (nI t)], (0, 0), h)) rfl ?_
      refine ab_W.itF (mm _) (p := (nI s) ≤ (nI t)) (c1 := (45, [.ref β, .int (nI s), .int (nI t)], [], (0, 0), h)) (c2 := (7, [.ref β, .int (nI s), .int (nI t)], [], (0, 0), h)) rfl (fun z => absurd ((nI_leI (by omega) (by omega)).mp z) (by omega)) ?_
      refine ab_W.go (mm _) 1 (c' := (8, [.ref β, .int (nI s), .int (nI t)], [.ref β], (0, 0), h)) rfl ?_
      refine ab_W.o (mm _) (c1) rfl (c' := (11, [.ref β, .int (nI s), .int (nI t)], [.ref (β + 1)], (0, 0), h)) rfl ?_
      refine ab_W.go (mm _) 1 (c' := (12, [.ref β, .int (nI s), .int (nI t)], [.int (nI t), .ref (β + 1)], (0, 0), h)) rfl ?_
      refine ab_W.aref (mm _) (j := t) (c2) (c3 t (by omega)) rfl (by omega) rfl rfl rfl ?_
      show ab_W _ _ _ (13, [.ref β, .int (nI s), .int (nI t)], [.ref (β + 2 + 2 * t)], (0, 0), h)
      refine ab_W.o (mm _) (e) rfl (c' := (16, [.ref β, .int (nI s), .int (nI t)], [.int (b2i (pr c t))], (0, 0), h)) rfl ?_
      refine ab_W.ite (mm _) (p := (b2i (pr c t)) = 0) (c1 := (39, [.ref β, .int (nI s), .int (nI t)], [], (0, 0), h)) (c2 := (19, [.ref β, .int (nI s), .int (nI t)], [], (0, 0), h)) rfl (fun q1 => ?_) (fun q1 => ?_)
      · skip
        have q1 := b2i_0.mp q1
        refine ab_W.go (mm _) 1 (c' := (42, [.ref β, .int (nI s), .int (nI t + nI 1)], [], (0, 0), h)) rfl ?_
        rw [nI_add t 1]
        refine ab_W.go (mm _) 1 (c' := (2, [.ref β, .int (nI s), .int (nI (t + 1))], [], (0, 0), h)) rfl ?_
        exact ih (next (fun z => by rw [q1] at z; exact absurd z.1 (by decide)))
      · skip
        have q1 := pr_t q1
        refine ab_W.go (mm _) 1 (c' := (20, [.ref β, .int (nI s), .int (nI t)], [.ref β], (0, 0), h)) rfl ?_
        refine ab_W.o (mm _) (c1) rfl (c' := (23, [.ref β, .int (nI s), .int (nI t)], [.ref (β + 1)], (0, 0), h)) rfl ?_
        refine ab_W.go (mm _) 1 (c' := (24, [.ref β, .int (nI s), .int (nI t)], [.int (nI t), .ref (β + 1)], (0, 0), h)) rfl ?_
        refine ab_W.aref (mm _) (j := t) (c2) (c3 t (by omega)) rfl (by omega) rfl rfl rfl ?_
        show ab_W _ _ _ (25, [.ref β, .int (nI s), .int (nI t)], [.ref (β + 2 + 2 * t)], (0, 0), h)
        refine ab_W.go (mm _) 1 (c' := (26, [.ref β, .int (nI s), .int (nI t)], [.ref β, .ref (β + 2 + 2 * t)], (0, 0), h)) rfl ?_
        refine ab_W.o (mm _) (c1) rfl (c' := (29, [.ref β, .int (nI s), .int (nI t)], [.ref (β + 1), .ref (β + 2 + 2 * t)], (0, 0), h)) rfl ?_
        refine ab_W.go (mm _) 1 (c' := (30, [.ref β, .int (nI s), .int (nI t)], [.int (nI s), .ref (β + 1), .ref (β + 2 + 2 * t)], (0, 0), h)) rfl ?_
        refine ab_W.aref (mm _) (j := s) (c2) (c3 s hs) rfl (by omega) rfl rfl rfl ?_
        show ab_W _ _ _ (31, [.ref β, .int (nI s), .int (nI t)], [.ref (β + 2 + 2 * s), .ref (β + 2 + 2 * t)], (0, 0), h)
        refine ab_W.callV (mm _) (e) rfl (k := 40) (av := [.ref (β + 2 + 2 * t), .ref (β + 2 + 2 * s)]) (c' := (34, [.ref β, .int (nI s), .int (nI t)], [], (0, 0), h)) rfl ?_
        refine sp_compare _ (c4 t (by omega)) (c4 s hs) ?_
        show ab_W _ _ _ (34, [.ref β, .int (nI s), .int (nI t)], [.int (nI (ordN (ht c t) (ht c s)))], (0, 0), h)
        have o3 := ordN_le (ht c t) (ht c s)
        refine ab_W.ite (mm _) (p := (nI (ordN (ht c t) (ht c s))) = 0) (c1 := (37, [.ref β, .int (nI s), .int (nI t)], [], (0, 0), h)) (c2 := (39, [.ref β, .int (nI s), .int (nI t)], [], (0, 0), h)) rfl (fun q2 => ?_) (fun q2 => ?_)
        · skip
          have q2 := (nI_eq (b := 0) (by omega) (by omega)).mp q2
          refine ab_W.go (mm _) 1 (c' := (38, [.ref β, .int (nI s), .int (nI t)], [.int (nI 1)], (0, 0), h)) rfl ?_
          refine ab_W.retI (mm _) (rt := some .boolean) (v := nI 1) rfl rfl ?_
          exact hp _ (Or.inl ⟨⟨t, htl, q1, q2⟩, rfl⟩)
        · skip
          have q2 : ¬ ordN (ht c t) (ht c s) = 0 := fun z => q2 (by rw [z]; rfl)
          refine ab_W.go (mm _) 1 (c' := (42, [.ref β, .int (nI s), .int (nI t + nI 1)], [], (0, 0), h)) rfl ?_
          rw [nI_add t 1]
          refine ab_W.go (mm _) 1 (c' := (2, [.ref β, .int (nI s), .int (nI (t + 1))], [], (0, 0), h)) rfl ?_
          exact ih (next (fun z => q2 z.2))
  refine ⟨rfl, ?_⟩
  show ab_W _ _ _ (0, [.ref β, .int (nI s), .retAddr 0], [], (0, 0), h)
  refine ab_W.go (mm _) 2 (c' := (2, [.ref β, .int (nI s), .int (nI 0)], [], (0, 0), h)) rfl ?_
  exact loop 0 (Nat.zero_le _) (fun j hj => absurd hj (Nat.not_lt_zero j))
theorem sp_uneven (d : Nat) {h : ab_H} {β : Nat} {c : Ci} (hc : cir h β c) {post : ab_P} (hp : post (some (.int (nI (cn (fun s => pr c s = true ∧ ¬ ∃ t, t < s ∧ pr c t = true ∧ ordN (ht c t) (ht c s) = 0) 12)))) h) : mCC (d + 3) kCircle_countUnevenStamps [.ref β] h post := by
  obtain ⟨c1, ⟨q, c2, c3⟩, c4⟩ := id hc
  obtain ⟨P, hP⟩ : ∃ P : Nat → Prop, P = fun s => pr c s = true ∧ ¬ ∃ t, t < s ∧ pr c t = true ∧ ordN (ht c t) (ht c s) = 0 := ⟨_, rfl⟩
  rw [← hP] at hp
  have loop : ∀ s, s ≤ 12 → ab_W (ab_st (mT kCircle_countUnevenStamps) mB mF (mR kCircle_countUnevenStamps) none) (mCC (d + 2)) post (4, [.ref β, .int (nI (cn P s)), .int (nI s)], [], (0, 0), h) := by
    refine down 12 ?_ ?_
    · skip
      refine ab_W.go (mm _) 2 (c' := (7, [.ref β, .int (nI (cn P 12)), .int (nI 12)], [.int (nI 12), .int (nI 12)], (0, 0), h)) rfl ?_
      refine ab_W.itT (mm _) (p := (nI 12) ≤ (nI 12)) (c1 := (39, [.ref β, .int (nI (cn P 12)), .int (nI 12)], [], (0, 0), h)) (c2 := (10, [.ref β, .int (nI (cn P 12)), .int (nI 12)], [], (0, 0), h)) rfl ((by decide)) ?_
      refine ab_W.go (mm _) 1 (c' := (40, [.ref β, .int (nI (cn P 12)), .int (nI 12)], [.int (nI (cn P 12))], (0, 0), h)) rfl ?_
      refine ab_W.retI (mm _) (rt := some .int) (v := nI (cn P 12)) rfl rfl ?_
      exact hp
    · intro s hs ih
      have e := (c4 s hs).1
      refine ab_W.go (mm _) 2 (c' := (7, [.ref β, .int (nI (cn P s)), .int (nI s)], [.int (nI 12), .int (nI s)], (0, 0), h)) rfl ?_
      refine ab_W.itF (mm _) (p := (nI 12) ≤ (nI s)) (c1 := (39, [.ref β, .int (nI (cn P s)), .int (nI s)], [], (0, 0), h)) (c2 := (10, [.ref β, .int (nI (cn P s)), .int (nI s)], [], (0, 0), h)) rfl (fun z => absurd ((nI_leI (by omega) (by omega)).mp z) (by omega)) ?_
      refine ab_W.go (mm _) 1 (c' := (11, [.ref β, .int (nI (cn P s)), .int (nI s)], [.ref β], (0, 0), h)) rfl ?_
      refine ab_W.o (mm _) (c1) rfl (c' := (14, [.ref β, .int (nI (cn P s)), .int (nI s)], [.ref (β + 1)], (0, 0), h)) rfl ?_
      refine ab_W.go (mm _) 1 (c' := (15, [.ref β, .int (nI (cn P s)), .int (nI s)], [.int (nI s), .ref (β + 1)], (0, 0), h)) rfl ?_
      refine ab_W.aref (mm _) (j := s) (c2) (c3 s hs) rfl (by omega) rfl rfl rfl ?_
      show ab_W _ _ _ (16, [.ref β, .int (nI (cn P s)), .int (nI s)], [.ref (β + 2 + 2 * s)], (0, 0), h)
      refine ab_W.o (mm _) (e) rfl (c' := (19, [.ref β, .int (nI (cn P s)), .int (nI s)], [.int (b2i (pr c s))], (0, 0), h)) rfl ?_
      refine ab_W.ite (mm _) (p := (b2i (pr c s)) = 0) (c1 := (33, [.ref β, .int (nI (cn P s)), .int (nI s)], [], (0, 0), h)) (c2 := (22, [.ref β, .int (nI (cn P s)), .int (nI s)], [], (0, 0), h)) rfl (fun q1 => ?_) (fun q1 => ?_)
      · skip
        have q1 := b2i_0.mp q1
        rw [cn_f (p := P) (by rw [hP]; exact fun z => by have := z.1; rw [q1] at this; cases this)] at ih
        refine ab_W.go (mm _) 1 (c' := (36, [.ref β, .int (nI (cn P s)), .int (nI s + nI 1)], [], (0, 0), h)) rfl ?_
        rw [nI_add s 1]
        refine ab_W.go (mm _) 1 (c' := (4, [.ref β, .int (nI (cn P s)), .int (nI (s + 1))], [], (0, 0), h)) rfl ?_
        exact ih
      · skip
        have q1 := pr_t q1
        refine ab_W.go (mm _) 2 (c' := (24, [.ref β, .int (nI (cn P s)), .int (nI s)], [.int (nI s), .ref β], (0, 0), h)) rfl ?_
        refine ab_W.callV (mm _) (c1) rfl (k := 7) (av := [.ref β, .int (nI s)]) (c' := (27, [.ref β, .int (nI (cn P s)), .int (nI s)], [], (0, 0), h)) rfl ?_
        refine sp_isEven d hc hs (fun v hv => ?_)
        rcases hv with ⟨q2, rfl⟩ | ⟨q2, rfl⟩
        · rw [cn_f (p := P) (by rw [hP]; exact fun z => z.2 q2)] at ih
          show ab_W _ _ _ (27, [.ref β, .int (nI (cn P s)), .int (nI s)], [.int (nI 1)], (0, 0), h)
          refine ab_W.itF (mm _) (p := (nI 1) = 0) (c1 := (30, [.ref β, .int (nI (cn P s)), .int (nI s)], [], (0, 0), h)) (c2 := (33, [.ref β, .int (nI (cn P s)), .int (nI s)], [], (0, 0), h)) rfl (nI_ne01) ?_
          refine ab_W.go (mm _) 1 (c' := (36, [.ref β, .int (nI (cn P s)), .int (nI s + nI 1)], [], (0, 0), h)) rfl ?_
          rw [nI_add s 1]
          refine ab_W.go (mm _) 1 (c' := (4, [.ref β, .int (nI (cn P s)), .int (nI (s + 1))], [], (0, 0), h)) rfl ?_
          exact ih
        · rw [cn_t (p := P) (by rw [hP]; exact ⟨q1, q2⟩)] at ih
          show ab_W _ _ _ (27, [.ref β, .int (nI (cn P s)), .int (nI s)], [.int (nI 0)], (0, 0), h)
          refine ab_W.itT (mm _) (p := (nI 0) = 0) (c1 := (30, [.ref β, .int (nI (cn P s)), .int (nI s)], [], (0, 0), h)) (c2 := (33, [.ref β, .int (nI (cn P s)), .int (nI s)], [], (0, 0), h)) rfl (nI_0) ?_
          refine ab_W.go (mm _) 1 (c' := (33, [.ref β, .int (nI (cn P s) + nI 1), .int (nI s)], [], (0, 0), h)) rfl ?_
          rw [nI_add (cn P s) 1]
          refine ab_W.go (mm _) 1 (c' := (36, [.ref β, .int (nI ((cn P s) + 1)), .int (nI s + nI 1)], [], (0, 0), h)) rfl ?_
          rw [nI_add s 1]
          refine ab_W.go (mm _) 1 (c' := (4, [.ref β, .int (nI ((cn P s) + 1)), .int (nI (s + 1))], [], (0, 0), h)) rfl ?_
          exact ih
  refine ⟨rfl, ?_⟩
  show ab_W _ _ _ (0, [.ref β, .retAddr 0, .retAddr 0], [], (0, 0), h)
  refine ab_W.go (mm _) 4 (c' := (4, [.ref β, .int (nI 0), .int (nI 0)], [], (0, 0), h)) rfl ?_
  exact loop 0 (Nat.zero_le _)
theorem sp_isNamed (d : Nat) {h : ab_H} {β s : Nat} {c : Ci} (hc : cir h β c) (hs : s < 12) {post : ab_P} (hp : ∀ v : Int32, ((∃ t, t < s ∧ pr c t = true ∧ nm c t = nm c s) ∧ v = nI 1) ∨ ((¬ ∃ t, t < s ∧ pr c t = true ∧ nm c t = nm c s) ∧ v = nI 0) → post (some (.int v)) h) : mCC (d + 2) kCircle_isNamedAsEarlier [.ref β, .int (nI s)] h post := by
  obtain ⟨c1, ⟨q, c2, c3⟩, c4⟩ := hc
  have f := (c4 s hs).1
  have loop : ∀ t, t ≤ s → (∀ j, j < t → ¬ (pr c j = true ∧ nm c j = nm c s)) → ab_W (ab_st (mT kCircle_isNamedAsEarlier) mB mF (mR kCircle_isNamedAsEarlier) none) (mCC (d + 1)) post (2, [.ref β, .int (nI s), .int (nI t)], [], (0, 0), h) := by
    refine down s ?_ ?_
    · intro hno
      refine ab_W.go (mm _) 2 (c' := (4, [.ref β, .int (nI s), .int (nI s)], [.int (nI s), .int (nI s)], (0, 0), h)) rfl ?_
      refine ab_W.itT (mm _) (p := (nI s) ≤ (nI s)) (c1 := (49, [.ref β, .int (nI s), .int (nI s)], [], (0, 0), h)) (c2 := (7, [.ref β, .int (nI s), .int (nI s)], [], (0, 0), h)) rfl ((nI_leI (by omega) (by omega)).mpr (Nat.le_refl _)) ?_
      refine ab_W.go (mm _) 1 (c' := (50, [.ref β, .int (nI s), .int (nI s)], [.int (nI 0)], (0, 0), h)) rfl ?_
      refine ab_W.retI (mm _) (rt := some .boolean) (v := nI 0) rfl rfl ?_
      exact hp _ (Or.inr ⟨fun ⟨t, t1, t2⟩ => hno t t1 t2, rfl⟩)
    · intro t htl ih hno
      have e := (c4 t (by omega)).1
      have next : ¬ (pr c t = true ∧ nm c t = nm c s) → ∀ j, j < t + 1 → ¬ (pr c j = true ∧ nm c j = nm c s) := fun z j hj => by
        rcases Nat.lt_or_ge j t with y | y
        · exact hno j y
        · rw [show j = t by omega]; exact z
      refine ab_W.go (mm _) 2 (c' := (4, [.ref β, .int (nI s), .int (nI t)], [.int (nI s), .int (nI t)], (0, 0), h)) rfl ?_
      refine ab_W.itF (mm _) (p := (nI s) ≤ (nI t)) (c1 := (49, [.ref β, .int (nI s), .int (nI t)], [], (0, 0), h)) (c2 := (7, [.ref β, .int (nI s), .int (nI t)], [], (0, 0), h)) rfl (fun z => absurd ((nI_leI (by omega) (by omega)).mp z) (by omega)) ?_
      refine ab_W.go (mm _) 1 (c' := (8, [.ref β, .int (nI s), .int (nI t)], [.ref β], (0, 0), h)) rfl ?_
      refine ab_W.o (mm _) (c1) rfl (c' := (11, [.ref β, .int (nI s), .int (nI t)], [.ref (β + 1)], (0, 0), h)) rfl ?_
      refine ab_W.go (mm _) 1 (c' := (12, [.ref β, .int (nI s), .int (nI t)], [.int (nI t), .ref (β + 1)], (0, 0), h)) rfl ?_
      refine ab_W.aref (mm _) (j := t) (c2) (c3 t (by omega)) rfl (by omega) rfl rfl rfl ?_
      show ab_W _ _ _ (13, [.ref β, .int (nI s), .int (nI t)], [.ref (β + 2 + 2 * t)], (0, 0), h)
      refine ab_W.o (mm _) (e) rfl (c' := (16, [.ref β, .int (nI s), .int (nI t)], [.int (b2i (pr c t))], (0, 0), h)) rfl ?_
      refine ab_W.ite (mm _) (p := (b2i (pr c t)) = 0) (c1 := (43, [.ref β, .int (nI s), .int (nI t)], [], (0, 0), h)) (c2 := (19, [.ref β, .int (nI s), .int (nI t)], [], (0, 0), h)) rfl (fun q1 => ?_) (fun q1 => ?_)
      · skip
        have q1 := b2i_0.mp q1
        refine ab_W.go (mm _) 1 (c' := (46, [.ref β, .int (nI s), .int (nI t + nI 1)], [], (0, 0), h)) rfl ?_
        rw [nI_add t 1]
        refine ab_W.go (mm _) 1 (c' := (2, [.ref β, .int (nI s), .int (nI (t + 1))], [], (0, 0), h)) rfl ?_
        exact ih (next (fun z => by rw [q1] at z; exact absurd z.1 (by decide)))
      · skip
        have q1 := pr_t q1
        refine ab_W.go (mm _) 1 (c' := (20, [.ref β, .int (nI s), .int (nI t)], [.ref β], (0, 0), h)) rfl ?_
        refine ab_W.o (mm _) (c1) rfl (c' := (23, [.ref β, .int (nI s), .int (nI t)], [.ref (β + 1)], (0, 0), h)) rfl ?_
        refine ab_W.go (mm _) 1 (c' := (24, [.ref β, .int (nI s), .int (nI t)], [.int (nI t), .ref (β + 1)], (0, 0), h)) rfl ?_
        refine ab_W.aref (mm _) (j := t) (c2) (c3 t (by omega)) rfl (by omega) rfl rfl rfl ?_
        show ab_W _ _ _ (25, [.ref β, .int (nI s), .int (nI t)], [.ref (β + 2 + 2 * t)], (0, 0), h)
        refine ab_W.o (mm _) (e) rfl (c' := (28, [.ref β, .int (nI s), .int (nI t)], [.long (nm c t)], (0, 0), h)) rfl ?_
        refine ab_W.go (mm _) 1 (c' := (29, [.ref β, .int (nI s), .int (nI t)], [.ref β, .long (nm c t)], (0, 0), h)) rfl ?_
        refine ab_W.o (mm _) (c1) rfl (c' := (32, [.ref β, .int (nI s), .int (nI t)], [.ref (β + 1), .long (nm c t)], (0, 0), h)) rfl ?_
        refine ab_W.go (mm _) 1 (c' := (33, [.ref β, .int (nI s), .int (nI t)], [.int (nI s), .ref (β + 1), .long (nm c t)], (0, 0), h)) rfl ?_
        refine ab_W.aref (mm _) (j := s) (c2) (c3 s hs) rfl (by omega) rfl rfl rfl ?_
        show ab_W _ _ _ (34, [.ref β, .int (nI s), .int (nI t)], [.ref (β + 2 + 2 * s), .long (nm c t)], (0, 0), h)
        refine ab_W.o (mm _) (f) rfl (c' := (37, [.ref β, .int (nI s), .int (nI t)], [.long (nm c s), .long (nm c t)], (0, 0), h)) rfl ?_
        refine ab_W.go (mm _) 1 (c' := (38, [.ref β, .int (nI s), .int (nI t)], [.int (lg_cmp (nm c t) (nm c s))], (0, 0), h)) rfl ?_
        refine ab_W.ite (mm _) (p := (lg_cmp (nm c t) (nm c s)) = 0) (c1 := (41, [.ref β, .int (nI s), .int (nI t)], [], (0, 0), h)) (c2 := (43, [.ref β, .int (nI s), .int (nI t)], [], (0, 0), h)) rfl (fun q2 => ?_) (fun q2 => ?_)
        · skip
          have q2 := (lg_cmp0 _ _).mp q2
          refine ab_W.go (mm _) 1 (c' := (42, [.ref β, .int (nI s), .int (nI t)], [.int (nI 1)], (0, 0), h)) rfl ?_
          refine ab_W.retI (mm _) (rt := some .boolean) (v := nI 1) rfl rfl ?_
          exact hp _ (Or.inl ⟨⟨t, htl, q1, q2⟩, rfl⟩)
        · skip
          have q2 : ¬ nm c t = nm c s := fun z => q2 ((lg_cmp0 _ _).mpr z)
          refine ab_W.go (mm _) 1 (c' := (46, [.ref β, .int (nI s), .int (nI t + nI 1)], [], (0, 0), h)) rfl ?_
          rw [nI_add t 1]
          refine ab_W.go (mm _) 1 (c' := (2, [.ref β, .int (nI s), .int (nI (t + 1))], [], (0, 0), h)) rfl ?_
          exact ih (next (fun z => q2 z.2))
  refine ⟨rfl, ?_⟩
  show ab_W _ _ _ (0, [.ref β, .int (nI s), .retAddr 0], [], (0, 0), h)
  refine ab_W.go (mm _) 2 (c' := (2, [.ref β, .int (nI s), .int (nI 0)], [], (0, 0), h)) rfl ?_
  exact loop 0 (Nat.zero_le _) (fun j hj => absurd hj (Nat.not_lt_zero j))
theorem sp_unlikeN (d : Nat) {h : ab_H} {β : Nat} {c : Ci} (hc : cir h β c) {post : ab_P} (hp : post (some (.int (nI (cn (fun s => pr c s = true ∧ ¬ ∃ t, t < s ∧ pr c t = true ∧ nm c t = nm c s) 12)))) h) : mCC (d + 3) kCircle_countUnlikeNames [.ref β] h post := by
  obtain ⟨c1, ⟨q, c2, c3⟩, c4⟩ := id hc
  obtain ⟨P, hP⟩ : ∃ P : Nat → Prop, P = fun s => pr c s = true ∧ ¬ ∃ t, t < s ∧ pr c t = true ∧ nm c t = nm c s := ⟨_, rfl⟩
  rw [← hP] at hp
  have loop : ∀ s, s ≤ 12 → ab_W (ab_st (mT kCircle_countUnlikeNames) mB mF (mR kCircle_countUnlikeNames) none) (mCC (d + 2)) post (4, [.ref β, .int (nI (cn P s)), .int (nI s)], [], (0, 0), h) := by
    refine down 12 ?_ ?_
    · skip
      refine ab_W.go (mm _) 2 (c' := (7, [.ref β, .int (nI (cn P 12)), .int (nI 12)], [.int (nI 12), .int (nI 12)], (0, 0), h)) rfl ?_
      refine ab_W.itT (mm _) (p := (nI 12) ≤ (nI 12)) (c1 := (39, [.ref β, .int (nI (cn P 12)), .int (nI 12)], [], (0, 0), h)) (c2 := (10, [.ref β, .int (nI (cn P 12)), .int (nI 12)], [], (0, 0), h)) rfl ((by decide)) ?_
      refine ab_W.go (mm _) 1 (c' := (40, [.ref β, .int (nI (cn P 12)), .int (nI 12)], [.int (nI (cn P 12))], (0, 0), h)) rfl ?_
      refine ab_W.retI (mm _) (rt := some .int) (v := nI (cn P 12)) rfl rfl ?_
      exact hp
    · intro s hs ih
      have e := (c4 s hs).1
      refine ab_W.go (mm _) 2 (c' := (7, [.ref β, .int (nI (cn P s)), .int (nI s)], [.int (nI 12), .int (nI s)], (0, 0), h)) rfl ?_
      refine ab_W.itF (mm _) (p := (nI 12) ≤ (nI s)) (c1 := (39, [.ref β, .int (nI (cn P s)), .int (nI s)], [], (0, 0), h)) (c2 := (10, [.ref β, .int (nI (cn P s)), .int (nI s)], [], (0, 0), h)) rfl (fun z => absurd ((nI_leI (by omega) (by omega)).mp z) (by omega)) ?_
      refine ab_W.go (mm _) 1 (c' := (11, [.ref β, .int (nI (cn P s)), .int (nI s)], [.ref β], (0, 0), h)) rfl ?_
      refine ab_W.o (mm _) (c1) rfl (c' := (14, [.ref β, .int (nI (cn P s)), .int (nI s)], [.ref (β + 1)], (0, 0), h)) rfl ?_
      refine ab_W.go (mm _) 1 (c' := (15, [.ref β, .int (nI (cn P s)), .int (nI s)], [.int (nI s), .ref (β + 1)], (0, 0), h)) rfl ?_
      refine ab_W.aref (mm _) (j := s) (c2) (c3 s hs) rfl (by omega) rfl rfl rfl ?_
      show ab_W _ _ _ (16, [.ref β, .int (nI (cn P s)), .int (nI s)], [.ref (β + 2 + 2 * s)], (0, 0), h)
      refine ab_W.o (mm _) (e) rfl (c' := (19, [.ref β, .int (nI (cn P s)), .int (nI s)], [.int (b2i (pr c s))], (0, 0), h)) rfl ?_
      refine ab_W.ite (mm _) (p := (b2i (pr c s)) = 0) (c1 := (33, [.ref β, .int (nI (cn P s)), .int (nI s)], [], (0, 0), h)) (c2 := (22, [.ref β, .int (nI (cn P s)), .int (nI s)], [], (0, 0), h)) rfl (fun q1 => ?_) (fun q1 => ?_)
      · skip
        have q1 := b2i_0.mp q1
        rw [cn_f (p := P) (by rw [hP]; exact fun z => by have := z.1; rw [q1] at this; cases this)] at ih
        refine ab_W.go (mm _) 1 (c' := (36, [.ref β, .int (nI (cn P s)), .int (nI s + nI 1)], [], (0, 0), h)) rfl ?_
        rw [nI_add s 1]
        refine ab_W.go (mm _) 1 (c' := (4, [.ref β, .int (nI (cn P s)), .int (nI (s + 1))], [], (0, 0), h)) rfl ?_
        exact ih
      · skip
        have q1 := pr_t q1
        refine ab_W.go (mm _) 2 (c' := (24, [.ref β, .int (nI (cn P s)), .int (nI s)], [.int (nI s), .ref β], (0, 0), h)) rfl ?_
        refine ab_W.callV (mm _) (c1) rfl (k := 9) (av := [.ref β, .int (nI s)]) (c' := (27, [.ref β, .int (nI (cn P s)), .int (nI s)], [], (0, 0), h)) rfl ?_
        refine sp_isNamed d hc hs (fun v hv => ?_)
        rcases hv with ⟨q2, rfl⟩ | ⟨q2, rfl⟩
        · rw [cn_f (p := P) (by rw [hP]; exact fun z => z.2 q2)] at ih
          show ab_W _ _ _ (27, [.ref β, .int (nI (cn P s)), .int (nI s)], [.int (nI 1)], (0, 0), h)
          refine ab_W.itF (mm _) (p := (nI 1) = 0) (c1 := (30, [.ref β, .int (nI (cn P s)), .int (nI s)], [], (0, 0), h)) (c2 := (33, [.ref β, .int (nI (cn P s)), .int (nI s)], [], (0, 0), h)) rfl (nI_ne01) ?_
          refine ab_W.go (mm _) 1 (c' := (36, [.ref β, .int (nI (cn P s)), .int (nI s + nI 1)], [], (0, 0), h)) rfl ?_
          rw [nI_add s 1]
          refine ab_W.go (mm _) 1 (c' := (4, [.ref β, .int (nI (cn P s)), .int (nI (s + 1))], [], (0, 0), h)) rfl ?_
          exact ih
        · rw [cn_t (p := P) (by rw [hP]; exact ⟨q1, q2⟩)] at ih
          show ab_W _ _ _ (27, [.ref β, .int (nI (cn P s)), .int (nI s)], [.int (nI 0)], (0, 0), h)
          refine ab_W.itT (mm _) (p := (nI 0) = 0) (c1 := (30, [.ref β, .int (nI (cn P s)), .int (nI s)], [], (0, 0), h)) (c2 := (33, [.ref β, .int (nI (cn P s)), .int (nI s)], [], (0, 0), h)) rfl (nI_0) ?_
          refine ab_W.go (mm _) 1 (c' := (33, [.ref β, .int (nI (cn P s) + nI 1), .int (nI s)], [], (0, 0), h)) rfl ?_
          rw [nI_add (cn P s) 1]
          refine ab_W.go (mm _) 1 (c' := (36, [.ref β, .int (nI ((cn P s) + 1)), .int (nI s + nI 1)], [], (0, 0), h)) rfl ?_
          rw [nI_add s 1]
          refine ab_W.go (mm _) 1 (c' := (4, [.ref β, .int (nI ((cn P s) + 1)), .int (nI (s + 1))], [], (0, 0), h)) rfl ?_
          exact ih
  refine ⟨rfl, ?_⟩
  show ab_W _ _ _ (0, [.ref β, .retAddr 0, .retAddr 0], [], (0, 0), h)
  refine ab_W.go (mm _) 4 (c' := (4, [.ref β, .int (nI 0), .int (nI 0)], [], (0, 0), h)) rfl ?_
  exact loop 0 (Nat.zero_le _)
theorem sp_isBef (d : Nat) {h : ab_H} {β s : Nat} {c : Ci} (hc : cir h β c) (hs : s < 12) {post : ab_P} (hp : ∀ v : Int32, ((∃ t, t < 12 ∧ pr c t = true ∧ ordN (ht c s) (ht c t) = 1) ∧ v = nI 1) ∨ ((¬ ∃ t, t < 12 ∧ pr c t = true ∧ ordN (ht c s) (ht c t) = 1) ∧ v = nI 0) → post (some (.int v)) h) : mCC (d + 2) kCircle_isBeforeAny [.ref β, .int (nI s)] h post := by
  obtain ⟨c1, ⟨q, c2, c3⟩, c4⟩ := hc
  have f := (c4 s hs).1
  have loop : ∀ t, t ≤ 12 → (∀ j, j < t → ¬ (pr c j = true ∧ ordN (ht c s) (ht c j) = 1)) → ab_W (ab_st (mT kCircle_isBeforeAny) mB mF (mR kCircle_isBeforeAny) none) (mCC (d + 1)) post (2, [.ref β, .int (nI s), .int (nI t)], [], (0, 0), h) := by
    refine down 12 ?_ ?_
    · intro hno
      refine ab_W.go (mm _) 2 (c' := (5, [.ref β, .int (nI s), .int (nI 12)], [.int (nI 12), .int (nI 12)], (0, 0), h)) rfl ?_
      refine ab_W.itT (mm _) (p := (nI 12) ≤ (nI 12)) (c1 := (47, [.ref β, .int (nI s), .int (nI 12)], [], (0, 0), h)) (c2 := (8, [.ref β, .int (nI s), .int (nI 12)], [], (0, 0), h)) rfl ((nI_leI (by omega) (by omega)).mpr (Nat.le_refl _)) ?_
      refine ab_W.go (mm _) 1 (c' := (48, [.ref β, .int (nI s), .int (nI 12)], [.int (nI 0)], (0, 0), h)) rfl ?_
      refine ab_W.retI (mm _) (rt := some .boolean) (v := nI 0) rfl rfl ?_
      exact hp _ (Or.inr ⟨fun ⟨t, t1, t2⟩ => hno t t1 t2, rfl⟩)
    · intro t htl ih hno
      have e := (c4 t (by omega)).1
      have next : ¬ (pr c t = true ∧ ordN (ht c s) (ht c t) = 1) → ∀ j, j < t + 1 → ¬ (pr c j = true ∧ ordN (ht c s) (ht c j) = 1) := fun z j hj => by
        rcases Nat.lt_or_ge j t with y | y
        · exact hno j y
        · rw [show j = t by omega]; exact z
      refine ab_W.go (mm _) 2 (c' := (5, [.ref β, .int (nI s), .int (nI t)], [.int (nI 12), .int (nI t)], (0, 0), h)) rfl ?_
      refine ab_W.itF (mm _) (p := (nI 12) ≤ (nI t)) (c1 := (47, [.ref β, .int (nI s), .int (nI t)], [], (0, 0), h)) (c2 := (8, [.ref β, .int (nI s), .int (nI t)], [], (0, 0), h)) rfl (fun z => absurd ((nI_leI (by omega) (by omega)).mp z) (by omega)) ?_
      refine ab_W.go (mm _) 1 (c' := (9, [.ref β, .int (nI s), .int (nI t)], [.ref β], (0, 0), h)) rfl ?_
      refine ab_W.o (mm _) (c1) rfl (c' := (12, [.ref β, .int (nI s), .int (nI t)], [.ref (β + 1)], (0, 0), h)) rfl ?_
      refine ab_W.go (mm _) 1 (c' := (13, [.ref β, .int (nI s), .int (nI t)], [.int (nI t), .ref (β + 1)], (0, 0), h)) rfl ?_
      refine ab_W.aref (mm _) (j := t) (c2) (c3 t (by omega)) rfl (by omega) rfl rfl rfl ?_
      show ab_W _ _ _ (14, [.ref β, .int (nI s), .int (nI t)], [.ref (β + 2 + 2 * t)], (0, 0), h)
      refine ab_W.o (mm _) (e) rfl (c' := (17, [.ref β, .int (nI s), .int (nI t)], [.int (b2i (pr c t))], (0, 0), h)) rfl ?_
      refine ab_W.ite (mm _) (p := (b2i (pr c t)) = 0) (c1 := (41, [.ref β, .int (nI s), .int (nI t)], [], (0, 0), h)) (c2 := (20, [.ref β, .int (nI s), .int (nI t)], [], (0, 0), h)) rfl (fun q1 => ?_) (fun q1 => ?_)
      · skip
        have q1 := b2i_0.mp q1
        refine ab_W.go (mm _) 1 (c' := (44, [.ref β, .int (nI s), .int (nI t + nI 1)], [], (0, 0), h)) rfl ?_
        rw [nI_add t 1]
        refine ab_W.go (mm _) 1 (c' := (2, [.ref β, .int (nI s), .int (nI (t + 1))], [], (0, 0), h)) rfl ?_
        exact ih (next (fun z => by rw [q1] at z; exact absurd z.1 (by decide)))
      · skip
        have q1 := pr_t q1
        refine ab_W.go (mm _) 1 (c' := (21, [.ref β, .int (nI s), .int (nI t)], [.ref β], (0, 0), h)) rfl ?_
        refine ab_W.o (mm _) (c1) rfl (c' := (24, [.ref β, .int (nI s), .int (nI t)], [.ref (β + 1)], (0, 0), h)) rfl ?_
        refine ab_W.go (mm _) 1 (c' := (25, [.ref β, .int (nI s), .int (nI t)], [.int (nI s), .ref (β + 1)], (0, 0), h)) rfl ?_
        refine ab_W.aref (mm _) (j := s) (c2) (c3 s hs) rfl (by omega) rfl rfl rfl ?_
        show ab_W _ _ _ (26, [.ref β, .int (nI s), .int (nI t)], [.ref (β + 2 + 2 * s)], (0, 0), h)
        refine ab_W.go (mm _) 1 (c' := (27, [.ref β, .int (nI s), .int (nI t)], [.ref β, .ref (β + 2 + 2 * s)], (0, 0), h)) rfl ?_
        refine ab_W.o (mm _) (c1) rfl (c' := (30, [.ref β, .int (nI s), .int (nI t)], [.ref (β + 1), .ref (β + 2 + 2 * s)], (0, 0), h)) rfl ?_
        refine ab_W.go (mm _) 1 (c' := (31, [.ref β, .int (nI s), .int (nI t)], [.int (nI t), .ref (β + 1), .ref (β + 2 + 2 * s)], (0, 0), h)) rfl ?_
        refine ab_W.aref (mm _) (j := t) (c2) (c3 t (by omega)) rfl (by omega) rfl rfl rfl ?_
        show ab_W _ _ _ (32, [.ref β, .int (nI s), .int (nI t)], [.ref (β + 2 + 2 * t), .ref (β + 2 + 2 * s)], (0, 0), h)
        refine ab_W.callV (mm _) (f) rfl (k := 40) (av := [.ref (β + 2 + 2 * s), .ref (β + 2 + 2 * t)]) (c' := (35, [.ref β, .int (nI s), .int (nI t)], [], (0, 0), h)) rfl ?_
        refine sp_compare _ (c4 s hs) (c4 t (by omega)) ?_
        show ab_W _ _ _ (35, [.ref β, .int (nI s), .int (nI t)], [.int (nI (ordN (ht c s) (ht c t)))], (0, 0), h)
        have o3 := ordN_le (ht c s) (ht c t)
        refine ab_W.go (mm _) 1 (c' := (36, [.ref β, .int (nI s), .int (nI t)], [.int (nI 1), .int (nI (ordN (ht c s) (ht c t)))], (0, 0), h)) rfl ?_
        refine ab_W.ite (mm _) (p := (nI (ordN (ht c s) (ht c t))) = (nI 1)) (c1 := (39, [.ref β, .int (nI s), .int (nI t)], [], (0, 0), h)) (c2 := (41, [.ref β, .int (nI s), .int (nI t)], [], (0, 0), h)) rfl (fun q2 => ?_) (fun q2 => ?_)
        · skip
          have q2 := (nI_eq (by omega) (by omega)).mp q2
          refine ab_W.go (mm _) 1 (c' := (40, [.ref β, .int (nI s), .int (nI t)], [.int (nI 1)], (0, 0), h)) rfl ?_
          refine ab_W.retI (mm _) (rt := some .boolean) (v := nI 1) rfl rfl ?_
          exact hp _ (Or.inl ⟨⟨t, htl, q1, q2⟩, rfl⟩)
        · skip
          have q2 : ¬ ordN (ht c s) (ht c t) = 1 := fun z => q2 (by rw [z])
          refine ab_W.go (mm _) 1 (c' := (44, [.ref β, .int (nI s), .int (nI t + nI 1)], [], (0, 0), h)) rfl ?_
          rw [nI_add t 1]
          refine ab_W.go (mm _) 1 (c' := (2, [.ref β, .int (nI s), .int (nI (t + 1))], [], (0, 0), h)) rfl ?_
          exact ih (next (fun z => q2 z.2))
  refine ⟨rfl, ?_⟩
  show ab_W _ _ _ (0, [.ref β, .int (nI s), .retAddr 0], [], (0, 0), h)
  refine ab_W.go (mm _) 2 (c' := (2, [.ref β, .int (nI s), .int (nI 0)], [], (0, 0), h)) rfl ?_
  exact loop 0 (Nat.zero_le _) (fun j hj => absurd hj (Nat.not_lt_zero j))
theorem sp_befNone (d : Nat) {h : ab_H} {β : Nat} {c : Ci} (hc : cir h β c) {post : ab_P} (hp : post (some (.int (nI (cn (fun s => pr c s = true ∧ ¬ ∃ t, t < 12 ∧ pr c t = true ∧ ordN (ht c s) (ht c t) = 1) 12)))) h) : mCC (d + 3) kCircle_countBeforeNone [.ref β] h post := by
  obtain ⟨c1, ⟨q, c2, c3⟩, c4⟩ := id hc
  obtain ⟨P, hP⟩ : ∃ P : Nat → Prop, P = fun s => pr c s = true ∧ ¬ ∃ t, t < 12 ∧ pr c t = true ∧ ordN (ht c s) (ht c t) = 1 := ⟨_, rfl⟩
  rw [← hP] at hp
  have loop : ∀ s, s ≤ 12 → ab_W (ab_st (mT kCircle_countBeforeNone) mB mF (mR kCircle_countBeforeNone) none) (mCC (d + 2)) post (4, [.ref β, .int (nI (cn P s)), .int (nI s)], [], (0, 0), h) := by
    refine down 12 ?_ ?_
    · skip
      refine ab_W.go (mm _) 2 (c' := (7, [.ref β, .int (nI (cn P 12)), .int (nI 12)], [.int (nI 12), .int (nI 12)], (0, 0), h)) rfl ?_
      refine ab_W.itT (mm _) (p := (nI 12) ≤ (nI 12)) (c1 := (39, [.ref β, .int (nI (cn P 12)), .int (nI 12)], [], (0, 0), h)) (c2 := (10, [.ref β, .int (nI (cn P 12)), .int (nI 12)], [], (0, 0), h)) rfl ((by decide)) ?_
      refine ab_W.go (mm _) 1 (c' := (40, [.ref β, .int (nI (cn P 12)), .int (nI 12)], [.int (nI (cn P 12))], (0, 0), h)) rfl ?_
      refine ab_W.retI (mm _) (rt := some .int) (v := nI (cn P 12)) rfl rfl ?_
      exact hp
    · intro s hs ih
      have e := (c4 s hs).1
      refine ab_W.go (mm _) 2 (c' := (7, [.ref β, .int (nI (cn P s)), .int (nI s)], [.int (nI 12), .int (nI s)], (0, 0), h)) rfl ?_
      refine ab_W.itF (mm _) (p := (nI 12) ≤ (nI s)) (c1 := (39, [.ref β, .int (nI (cn P s)), .int (nI s)], [], (0, 0), h)) (c2 := (10, [.ref β, .int (nI (cn P s)), .int (nI s)], [], (0, 0), h)) rfl (fun z => absurd ((nI_leI (by omega) (by omega)).mp z) (by omega)) ?_
      refine ab_W.go (mm _) 1 (c' := (11, [.ref β, .int (nI (cn P s)), .int (nI s)], [.ref β], (0, 0), h)) rfl ?_
      refine ab_W.o (mm _) (c1) rfl (c' := (14, [.ref β, .int (nI (cn P s)), .int (nI s)], [.ref (β + 1)], (0, 0), h)) rfl ?_
      refine ab_W.go (mm _) 1 (c' := (15, [.ref β, .int (nI (cn P s)), .int (nI s)], [.int (nI s), .ref (β + 1)], (0, 0), h)) rfl ?_
      refine ab_W.aref (mm _) (j := s) (c2) (c3 s hs) rfl (by omega) rfl rfl rfl ?_
      show ab_W _ _ _ (16, [.ref β, .int (nI (cn P s)), .int (nI s)], [.ref (β + 2 + 2 * s)], (0, 0), h)
      refine ab_W.o (mm _) (e) rfl (c' := (19, [.ref β, .int (nI (cn P s)), .int (nI s)], [.int (b2i (pr c s))], (0, 0), h)) rfl ?_
      refine ab_W.ite (mm _) (p := (b2i (pr c s)) = 0) (c1 := (33, [.ref β, .int (nI (cn P s)), .int (nI s)], [], (0, 0), h)) (c2 := (22, [.ref β, .int (nI (cn P s)), .int (nI s)], [], (0, 0), h)) rfl (fun q1 => ?_) (fun q1 => ?_)
      · skip
        have q1 := b2i_0.mp q1
        rw [cn_f (p := P) (by rw [hP]; exact fun z => by have := z.1; rw [q1] at this; cases this)] at ih
        refine ab_W.go (mm _) 1 (c' := (36, [.ref β, .int (nI (cn P s)), .int (nI s + nI 1)], [], (0, 0), h)) rfl ?_
        rw [nI_add s 1]
        refine ab_W.go (mm _) 1 (c' := (4, [.ref β, .int (nI (cn P s)), .int (nI (s + 1))], [], (0, 0), h)) rfl ?_
        exact ih
      · skip
        have q1 := pr_t q1
        refine ab_W.go (mm _) 2 (c' := (24, [.ref β, .int (nI (cn P s)), .int (nI s)], [.int (nI s), .ref β], (0, 0), h)) rfl ?_
        refine ab_W.callV (mm _) (c1) rfl (k := 11) (av := [.ref β, .int (nI s)]) (c' := (27, [.ref β, .int (nI (cn P s)), .int (nI s)], [], (0, 0), h)) rfl ?_
        refine sp_isBef d hc hs (fun v hv => ?_)
        rcases hv with ⟨q2, rfl⟩ | ⟨q2, rfl⟩
        · rw [cn_f (p := P) (by rw [hP]; exact fun z => z.2 q2)] at ih
          show ab_W _ _ _ (27, [.ref β, .int (nI (cn P s)), .int (nI s)], [.int (nI 1)], (0, 0), h)
          refine ab_W.itF (mm _) (p := (nI 1) = 0) (c1 := (30, [.ref β, .int (nI (cn P s)), .int (nI s)], [], (0, 0), h)) (c2 := (33, [.ref β, .int (nI (cn P s)), .int (nI s)], [], (0, 0), h)) rfl (nI_ne01) ?_
          refine ab_W.go (mm _) 1 (c' := (36, [.ref β, .int (nI (cn P s)), .int (nI s + nI 1)], [], (0, 0), h)) rfl ?_
          rw [nI_add s 1]
          refine ab_W.go (mm _) 1 (c' := (4, [.ref β, .int (nI (cn P s)), .int (nI (s + 1))], [], (0, 0), h)) rfl ?_
          exact ih
        · rw [cn_t (p := P) (by rw [hP]; exact ⟨q1, q2⟩)] at ih
          show ab_W _ _ _ (27, [.ref β, .int (nI (cn P s)), .int (nI s)], [.int (nI 0)], (0, 0), h)
          refine ab_W.itT (mm _) (p := (nI 0) = 0) (c1 := (30, [.ref β, .int (nI (cn P s)), .int (nI s)], [], (0, 0), h)) (c2 := (33, [.ref β, .int (nI (cn P s)), .int (nI s)], [], (0, 0), h)) rfl (nI_0) ?_
          refine ab_W.go (mm _) 1 (c' := (33, [.ref β, .int (nI (cn P s) + nI 1), .int (nI s)], [], (0, 0), h)) rfl ?_
          rw [nI_add (cn P s) 1]
          refine ab_W.go (mm _) 1 (c' := (36, [.ref β, .int (nI ((cn P s) + 1)), .int (nI s + nI 1)], [], (0, 0), h)) rfl ?_
          rw [nI_add s 1]
          refine ab_W.go (mm _) 1 (c' := (4, [.ref β, .int (nI ((cn P s) + 1)), .int (nI (s + 1))], [], (0, 0), h)) rfl ?_
          exact ih
  refine ⟨rfl, ?_⟩
  show ab_W _ _ _ (0, [.ref β, .retAddr 0, .retAddr 0], [], (0, 0), h)
  refine ab_W.go (mm _) 4 (c' := (4, [.ref β, .int (nI 0), .int (nI 0)], [], (0, 0), h)) rfl ?_
  exact loop 0 (Nat.zero_le _)
end
section
/-! trees of the class -/
def rowP (h : ab_H) (r : Nat) (L : List Int32) : Prop := h[r]? = some (.inr (2, [.ref (r + 1), .int (nI L.length)])) ∧ ∃ g, h[r + 1]? = some (.inl (0, 190, .inl g)) ∧ ∀ i, i < L.length → L[i]? = some (g i)
theorem sp_add (d : Nat) {h : ab_H} {r : Nat} {L : List Int32} {v : Int32} (hr : rowP h r L) (hL : L.length < 190) {post : ab_P} (hp : ∀ h', rowP h' r (L ++ [v]) → (∀ i, i ≠ r → i ≠ r + 1 → h'[i]? = h[i]?) → post none h') : mCC (d + 1) kRow_add [.ref r, .int v] h post := by
  obtain ⟨r1, g, r2, r3⟩ := hr
  have r1' : (h.set (r + 1) (.inl (0, 190, .inl (upd g L.length v))))[r]? = some (.inr (2, [.ref (r + 1), .int (nI L.length)])) := (set_ne (by omega)).trans r1
  refine ⟨rfl, ?_⟩
  show ab_W _ _ _ (0, [.ref r, .int v], [], (0, 0), h)
  refine ab_W.go (mm _) 1 (c' := (1, [.ref r, .int v], [.ref r], (0, 0), h)) rfl ?_
  refine ab_W.o (mm _) (r1) rfl (c' := (4, [.ref r, .int v], [.int (nI L.length)], (0, 0), h)) rfl ?_
  refine ab_W.go (mm _) 1 (c' := (7, [.ref r, .int v], [.int (nI 190), .int (nI L.length)], (0, 0), h)) rfl ?_
  refine ab_W.itF (mm _) (p := (nI 190) ≤ (nI L.length)) (c1 := (30, [.ref r, .int v], [], (0, 0), h)) (c2 := (10, [.ref r, .int v], [], (0, 0), h)) rfl (fun z => absurd ((nI_leI (by omega) (by omega)).mp z) (by omega)) ?_
  refine ab_W.go (mm _) 1 (c' := (11, [.ref r, .int v], [.ref r], (0, 0), h)) rfl ?_
  refine ab_W.o (mm _) (r1) rfl (c' := (14, [.ref r, .int v], [.ref (r + 1)], (0, 0), h)) rfl ?_
  refine ab_W.go (mm _) 1 (c' := (15, [.ref r, .int v], [.ref r, .ref (r + 1)], (0, 0), h)) rfl ?_
  refine ab_W.o (mm _) (r1) rfl (c' := (18, [.ref r, .int v], [.int (nI L.length), .ref (r + 1)], (0, 0), h)) rfl ?_
  refine ab_W.go (mm _) 1 (c' := (19, [.ref r, .int v], [.int v, .int (nI L.length), .ref (r + 1)], (0, 0), h)) rfl ?_
  refine ab_W.iast (mm _) (j := L.length) (r2) rfl (by omega) rfl rfl ?_
  show ab_W _ _ _ (20, [.ref r, .int v], [], (0, 0), h.set (r + 1) (.inl (0, 190, .inl (upd g L.length v))))
  refine ab_W.go (mm _) 2 (c' := (22, [.ref r, .int v], [.ref r, .ref r], (0, 0), h.set (r + 1) (.inl (0, 190, .inl (upd g L.length v))))) rfl ?_
  refine ab_W.o (mm _) (r1') rfl (c' := (25, [.ref r, .int v], [.int (nI L.length), .ref r], (0, 0), h.set (r + 1) (.inl (0, 190, .inl (upd g L.length v))))) rfl ?_
  refine ab_W.go (mm _) 2 (c' := (27, [.ref r, .int v], [.int ((nI L.length) + (nI 1)), .ref r], (0, 0), h.set (r + 1) (.inl (0, 190, .inl (upd g L.length v))))) rfl ?_
  refine ab_W.topi (nI_add L.length 1) ?_
  refine ab_W.o (mm _) (r1') rfl (c' := (30, [.ref r, .int v], [], (0, 0), (h.set (r + 1) (.inl (0, 190, .inl (upd g L.length v)))).set r (.inr (2, [.ref (r + 1), .int (nI (L.length + 1))])))) rfl ?_
  refine ab_W.ret (mm _) (v := none) rfl ?_
  refine hp _ ⟨?_, upd g L.length v, (set_ne (by omega)).trans (set_at r2), fun i hi => ?_⟩ (fun i i1 i2 => (set_ne (fun z => i1 z.symm)).trans (set_ne (fun z => i2 z.symm)))
  · rw [show (L ++ [v]).length = L.length + 1 by simp]
    exact set_at r1'
  · rw [show (L ++ [v]).length = L.length + 1 by simp] at hi
    rcases Nat.lt_or_ge i L.length with z | z
    · rw [List.getElem?_append_left z, pk_un (by omega)]
      exact r3 i z
    · have e : i = L.length := by omega
      subst e
      rw [List.getElem?_append_right (Nat.le_refl _), Nat.sub_self, pk_us]
      rfl
/-- the k-th number of a row, or how many there are -/
def tlF (L : List Int32) (x : Int32) : Int32 := if x = -(nI 1) then nI L.length else if ¬ x < 0 ∧ x < nI L.length then L.getD x.toNatClampNeg 0 else -(nI 6)
theorem sp_tell (d : Nat) {h : ab_H} {r : Nat} {L : List Int32} {x : Int32} (hr : rowP h r L) (hL : L.length ≤ 190) {post : ab_P} (hp : post (some (.int (tlF L x))) h) : mCC (d + 1) kRow_tell [.ref r, .int x] h post := by
  obtain ⟨r1, g, r2, r3⟩ := hr
  unfold tlF at hp
  refine ⟨rfl, ?_⟩
  show ab_W _ _ _ (0, [.ref r, .int x], [], (0, 0), h)
  refine ab_W.go (mm _) 2 (c' := (2, [.ref r, .int x], [.int (-(nI 1)), .int x], (0, 0), h)) rfl ?_
  refine ab_W.ite (mm _) (p := x = (-(nI 1))) (c1 := (5, [.ref r, .int x], [], (0, 0), h)) (c2 := (10, [.ref r, .int x], [], (0, 0), h)) rfl (fun q => ?_) (fun q => ?_)
  · skip
    rw [if_pos q] at hp
    refine ab_W.go (mm _) 1 (c' := (6, [.ref r, .int x], [.ref r], (0, 0), h)) rfl ?_
    refine ab_W.o (mm _) (r1) rfl (c' := (9, [.ref r, .int x], [.int (nI L.length)], (0, 0), h)) rfl ?_
    refine ab_W.retI (mm _) (rt := some .int) (v := nI L.length) rfl rfl ?_
    exact hp
  · skip
    rw [if_neg q] at hp
    refine ab_W.go (mm _) 1 (c' := (11, [.ref r, .int x], [.int x], (0, 0), h)) rfl ?_
    refine ab_W.ite (mm _) (p := x < 0) (c1 := (31, [.ref r, .int x], [], (0, 0), h)) (c2 := (14, [.ref r, .int x], [], (0, 0), h)) rfl (fun q1 => ?_) (fun q1 => ?_)
    · skip
      rw [if_neg (fun z => z.1 q1)] at hp
      refine ab_W.go (mm _) 1 (c' := (33, [.ref r, .int x], [.int (-(nI 6))], (0, 0), h)) rfl ?_
      refine ab_W.retI (mm _) (rt := some .int) (v := -(nI 6)) rfl rfl ?_
      exact hp
    · skip
      refine ab_W.go (mm _) 2 (c' := (16, [.ref r, .int x], [.ref r, .int x], (0, 0), h)) rfl ?_
      refine ab_W.o (mm _) (r1) rfl (c' := (19, [.ref r, .int x], [.int (nI L.length), .int x], (0, 0), h)) rfl ?_
      refine ab_W.ite (mm _) (p := (nI L.length) ≤ x) (c1 := (31, [.ref r, .int x], [], (0, 0), h)) (c2 := (22, [.ref r, .int x], [], (0, 0), h)) rfl (fun q2 => ?_) (fun q2 => ?_)
      · skip
        rw [if_neg (fun z => absurd z.2 (Int32.not_lt.mpr q2))] at hp
        refine ab_W.go (mm _) 1 (c' := (33, [.ref r, .int x], [.int (-(nI 6))], (0, 0), h)) rfl ?_
        refine ab_W.retI (mm _) (rt := some .int) (v := -(nI 6)) rfl rfl ?_
        exact hp
      · skip
        have q2 := Int32.not_le.mp q2
        rw [if_pos ⟨q1, q2⟩] at hp
        obtain ⟨j, j1, rfl⟩ := nI_of q1
        have hj : j < L.length := (nI_ltI j1 (by omega)).mp q2
        rw [nI_clamp j1, List.getD_eq_getElem?_getD, r3 j hj] at hp
        refine ab_W.go (mm _) 1 (c' := (23, [.ref r, .int (nI j)], [.ref r], (0, 0), h)) rfl ?_
        refine ab_W.o (mm _) (r1) rfl (c' := (26, [.ref r, .int (nI j)], [.ref (r + 1)], (0, 0), h)) rfl ?_
        refine ab_W.go (mm _) 1 (c' := (27, [.ref r, .int (nI j)], [.int (nI j), .ref (r + 1)], (0, 0), h)) rfl ?_
        refine ab_W.iald (mm _) (j := j) (r2) rfl (by omega) rfl rfl ?_
        show ab_W _ _ _ (28, [.ref r, .int (nI j)], [.int (g j)], (0, 0), h)
        refine ab_W.go (mm _) 1 (c' := (33, [.ref r, .int (nI j)], [.int (g j)], (0, 0), h)) rfl ?_
        refine ab_W.retI (mm _) (rt := some .int) (v := g j) rfl rfl ?_
        exact hp
noncomputable def nT (N : Int64) : Nat → Nat → List Int32
  | 0, k => ci (¬ hits N k) [nI 0] [nI 1]
  | n + 1, k => ci (¬ hits N k) [nI 0] (ci (lies N k) [nI 1] (nI 2 :: (nT N n (2 * k) ++ nT N n (2 * k + 1))))
noncomputable def hT (f : Nat → Int32) : Nat → Nat → Int32 → List Int32
  | 0, k, b => [mn f k - b]
  | n + 1, k, b => ci (alk f k) [mn f k - b] (nI 1000 :: (mn f k - b) :: (hT f n (2 * k) (mn f k) ++ hT f n (2 * k + 1) (mn f k)))
theorem nT_len (N : Int64) : ∀ n k, (nT N n k).length + 1 ≤ 2 ^ (n + 1) := by
  intro n
  induction n with
  | zero =>
    intro k
    by_cases h : hits N k
    · rw [show nT N 0 k = _ from ci_f (fun z => z h)]; decide
    · rw [show nT N 0 k = _ from ci_t h]; decide
  | succ n ih =>
    intro k
    have h2 : 2 ^ (n + 1 + 1) = 2 ^ (n + 1) + 2 ^ (n + 1) := by rw [Nat.pow_succ]; omega
    have hpos : 1 ≤ 2 ^ (n + 1) := Nat.two_pow_pos _
    by_cases h : hits N k
    · by_cases hl : lies N k
      · rw [show nT N (n + 1) k = _ from (ci_f (fun z => z h)).trans (ci_t hl)]
        show 2 ≤ _
        omega
      · rw [show nT N (n + 1) k = _ from (ci_f (fun z => z h)).trans (ci_f hl), List.length_cons, List.length_append]
        have := ih (2 * k)
        have := ih (2 * k + 1)
        omega
    · rw [show nT N (n + 1) k = _ from ci_t h]
      show 2 ≤ _
      omega
theorem hT_len (f : Nat → Int32) : ∀ n k b, (hT f n k b).length + 2 ≤ 3 * 2 ^ n := by
  intro n
  induction n with
  | zero => intro k b; show 1 + 2 ≤ 3; decide
  | succ n ih =>
    intro k b
    have hpos : 1 ≤ 2 ^ n := Nat.two_pow_pos _
    rw [Nat.pow_succ]
    by_cases h : alk f k
    · rw [show hT f (n + 1) k b = _ from ci_t h]
      show 1 + 2 ≤ _
      omega
    · rw [show hT f (n + 1) k b = _ from ci_f h, List.length_cons, List.length_cons, List.length_append]
      have := ih (2 * k) (mn f k)
      have := ih (2 * k + 1) (mn f k)
      omega
theorem lies_eq {N : Int64} {k : Nat} (h1 : 1 ≤ k) (hk : k < 128) : (N &&& msk k) = msk k ↔ lies N k := by
  rw [lies_iff h1 hk]
  constructor
  · intro h j hj
    have hl := inK_lt h1 hk hj
    have h2 : bt (N &&& msk k) j = bt (msk k) j := by rw [h]
    rw [bt_and, (msk_in h1 hk hl).mpr hj, Bool.and_true] at h2
    exact h2
  · intro h
    apply bt_ext
    intro j hj
    rw [bt_and]
    cases hb : bt (msk k) j with
    | false => rw [Bool.and_false]
    | true => rw [h j ((msk_in h1 hk hj).mp hb)]; rfl
theorem sp_wName {r : Nat} {N : Int64} : ∀ (n k : Nat), 1 ≤ k → k < 128 → dep k + n = 6 → ∀ (D : Nat), n + 3 ≤ D → ∀ (h : ab_H) (L : List Int32), rowP h r L → L.length + (nT N n k).length ≤ 190 → ∀ {post : ab_P}, (∀ h', rowP h' r (L ++ nT N n k) → (∀ i, i ≠ r → i ≠ r + 1 → h'[i]? = h[i]?) → post none h') → mCC D kSpanStamps_writeName [.ref r, .long N, .int (nI (beg k)), .int (nI (dep k))] h post := by
  intro n
  induction n with
  | zero =>
    intro k h1 hk hd D hD h L hr hL post hp
    obtain ⟨x, rfl⟩ : ∃ x, D = x + 3 := ⟨D - 3, by omega⟩
    refine ⟨rfl, ?_⟩
    show ab_W _ _ _ (0, [.ref r, .long N, .retAddr 0, .int (nI (beg k)), .int (nI (dep k)), .retAddr 0, .retAddr 0], [], (0, 0), h)
    refine ab_W.go (mm _) 2 (c' := (3, [.ref r, .long N, .retAddr 0, .int (nI (beg k)), .int (nI (dep k)), .retAddr 0, .retAddr 0], [.int (nI (dep k)), .int (nI (beg k))], (0, 0), h)) rfl ?_
    refine ab_W.call (mm _) (k := 23) (av := [.int (nI (beg k)), .int (nI (dep k))]) (c' := (6, [.ref r, .long N, .retAddr 0, .int (nI (beg k)), .int (nI (dep k)), .retAddr 0, .retAddr 0], [], (0, 0), h)) rfl ?_
    refine sp_cellsOf _ h1 hk ?_
    show ab_W _ _ _ (6, [.ref r, .long N, .retAddr 0, .int (nI (beg k)), .int (nI (dep k)), .retAddr 0, .retAddr 0], [.long (msk k)], (0, 0), h)
    refine ab_W.go (mm _) 6 (c' := (14, [.ref r, .long N, .retAddr 0, .int (nI (beg k)), .int (nI (dep k)), .long (msk k), .retAddr 0], [.int (lg_cmp (N &&& (msk k)) (lN 0))], (0, 0), h)) rfl ?_
    refine ab_W.ite (mm _) (p := (lg_cmp (N &&& (msk k)) (lN 0)) = 0) (c1 := (17, [.ref r, .long N, .retAddr 0, .int (nI (beg k)), .int (nI (dep k)), .long (msk k), .retAddr 0], [], (0, 0), h)) (c2 := (25, [.ref r, .long N, .retAddr 0, .int (nI (beg k)), .int (nI (dep k)), .long (msk k), .retAddr 0], [], (0, 0), h)) rfl (fun q => ?_) (fun q => ?_)
    · skip
      have q := (lg_cmp0 _ _).mp q
      rw [and_comm64] at q
      have e : nT N 0 k = [nI 0] := ci_t (fun z => z q)
      rw [e] at hp hL
      refine ab_W.go (mm _) 2 (c' := (19, [.ref r, .long N, .retAddr 0, .int (nI (beg k)), .int (nI (dep k)), .long (msk k), .retAddr 0], [.int (nI 0), .ref r], (0, 0), h)) rfl ?_
      refine ab_W.callV (mm _) (hr.1) rfl (k := 20) (av := [.ref r, .int (nI 0)]) (c' := (22, [.ref r, .long N, .retAddr 0, .int (nI (beg k)), .int (nI (dep k)), .long (msk k), .retAddr 0], [], (0, 0), h)) rfl ?_
      refine sp_add _ hr (by simp at hL; omega) (fun h2 s2 k2 => ?_)
      show ab_W _ _ _ (22, [.ref r, .long N, .retAddr 0, .int (nI (beg k)), .int (nI (dep k)), .long (msk k), .retAddr 0], [], (0, 0), h2)
      refine ab_W.go (mm _) 1 (c' := (80, [.ref r, .long N, .retAddr 0, .int (nI (beg k)), .int (nI (dep k)), .long (msk k), .retAddr 0], [], (0, 0), h2)) rfl ?_
      refine ab_W.ret (mm _) (v := none) rfl ?_
      exact hp h2 s2 k2
    · skip
      have q : hits N k := fun z => q ((lg_cmp0 _ _).mpr (by rw [and_comm64]; exact z))
      have e : nT N 0 k = [nI 1] := ci_f (fun z => z q)
      rw [e] at hp hL
      have fin : ab_W (ab_st (mT kSpanStamps_writeName) mB mF (mR kSpanStamps_writeName) none) (mCC (x + 2)) post (42, [.ref r, .long N, .retAddr 0, .int (nI (beg k)), .int (nI (dep k)), .long (msk k), .retAddr 0], [], (0, 0), h) := by
        refine ab_W.go (mm _) 2 (c' := (44, [.ref r, .long N, .retAddr 0, .int (nI (beg k)), .int (nI (dep k)), .long (msk k), .retAddr 0], [.int (nI 1), .ref r], (0, 0), h)) rfl ?_
        refine ab_W.callV (mm _) (hr.1) rfl (k := 20) (av := [.ref r, .int (nI 1)]) (c' := (47, [.ref r, .long N, .retAddr 0, .int (nI (beg k)), .int (nI (dep k)), .long (msk k), .retAddr 0], [], (0, 0), h)) rfl ?_
        refine sp_add _ hr (by simp at hL; omega) (fun h2 s2 k2 => ?_)
        show ab_W _ _ _ (47, [.ref r, .long N, .retAddr 0, .int (nI (beg k)), .int (nI (dep k)), .long (msk k), .retAddr 0], [], (0, 0), h2)
        refine ab_W.go (mm _) 1 (c' := (80, [.ref r, .long N, .retAddr 0, .int (nI (beg k)), .int (nI (dep k)), .long (msk k), .retAddr 0], [], (0, 0), h2)) rfl ?_
        refine ab_W.ret (mm _) (v := none) rfl ?_
        exact hp h2 s2 k2
      refine ab_W.go (mm _) 5 (c' := (32, [.ref r, .long N, .retAddr 0, .int (nI (beg k)), .int (nI (dep k)), .long (msk k), .retAddr 0], [.int (lg_cmp (N &&& (msk k)) (msk k))], (0, 0), h)) rfl ?_
      refine ab_W.ite (mm _) (p := (lg_cmp (N &&& (msk k)) (msk k)) = 0) (c1 := (42, [.ref r, .long N, .retAddr 0, .int (nI (beg k)), .int (nI (dep k)), .long (msk k), .retAddr 0], [], (0, 0), h)) (c2 := (35, [.ref r, .long N, .retAddr 0, .int (nI (beg k)), .int (nI (dep k)), .long (msk k), .retAddr 0], [], (0, 0), h)) rfl (fun q2 => ?_) (fun q2 => ?_)
      · skip
        exact fin
      · skip
        refine ab_W.go (mm _) 2 (c' := (39, [.ref r, .long N, .retAddr 0, .int (nI (beg k)), .int (nI (dep k)), .long (msk k), .retAddr 0], [.int (nI 6), .int (nI (dep k))], (0, 0), h)) rfl ?_
        refine ab_W.itF (mm _) (p := (nI (dep k)) < (nI 6)) (c1 := (50, [.ref r, .long N, .retAddr 0, .int (nI (beg k)), .int (nI (dep k)), .long (msk k), .retAddr 0], [], (0, 0), h)) (c2 := (42, [.ref r, .long N, .retAddr 0, .int (nI (beg k)), .int (nI (dep k)), .long (msk k), .retAddr 0], [], (0, 0), h)) rfl (by rw [show dep k = 6 by omega]; decide) ?_
        exact fin
  | succ n ih =>
    intro k h1 hk hd D hD h L hr hL post hp
    obtain ⟨x, rfl⟩ : ∃ x, D = x + 4 := ⟨D - 4, by omega⟩
    have hk64 := dep_lt h1 hk hd
    obtain ⟨e1, e2, e3, e4, e5, e6, e7, e8⟩ := sp_half k hk64 h1
    refine ⟨rfl, ?_⟩
    show ab_W _ _ _ (0, [.ref r, .long N, .retAddr 0, .int (nI (beg k)), .int (nI (dep k)), .retAddr 0, .retAddr 0], [], (0, 0), h)
    refine ab_W.go (mm _) 2 (c' := (3, [.ref r, .long N, .retAddr 0, .int (nI (beg k)), .int (nI (dep k)), .retAddr 0, .retAddr 0], [.int (nI (dep k)), .int (nI (beg k))], (0, 0), h)) rfl ?_
    refine ab_W.call (mm _) (k := 23) (av := [.int (nI (beg k)), .int (nI (dep k))]) (c' := (6, [.ref r, .long N, .retAddr 0, .int (nI (beg k)), .int (nI (dep k)), .retAddr 0, .retAddr 0], [], (0, 0), h)) rfl ?_
    refine sp_cellsOf (x + 1) h1 hk ?_
    show ab_W _ _ _ (6, [.ref r, .long N, .retAddr 0, .int (nI (beg k)), .int (nI (dep k)), .retAddr 0, .retAddr 0], [.long (msk k)], (0, 0), h)
    refine ab_W.go (mm _) 6 (c' := (14, [.ref r, .long N, .retAddr 0, .int (nI (beg k)), .int (nI (dep k)), .long (msk k), .retAddr 0], [.int (lg_cmp (N &&& (msk k)) (lN 0))], (0, 0), h)) rfl ?_
    refine ab_W.ite (mm _) (p := (lg_cmp (N &&& (msk k)) (lN 0)) = 0) (c1 := (17, [.ref r, .long N, .retAddr 0, .int (nI (beg k)), .int (nI (dep k)), .long (msk k), .retAddr 0], [], (0, 0), h)) (c2 := (25, [.ref r, .long N, .retAddr 0, .int (nI (beg k)), .int (nI (dep k)), .long (msk k), .retAddr 0], [], (0, 0), h)) rfl (fun q => ?_) (fun q => ?_)
    · skip
      have q := (lg_cmp0 _ _).mp q
      rw [and_comm64] at q
      have e : nT N (n + 1) k = [nI 0] := ci_t (fun z => z q)
      rw [e] at hp hL
      refine ab_W.go (mm _) 2 (c' := (19, [.ref r, .long N, .retAddr 0, .int (nI (beg k)), .int (nI (dep k)), .long (msk k), .retAddr 0], [.int (nI 0), .ref r], (0, 0), h)) rfl ?_
      refine ab_W.callV (mm _) (hr.1) rfl (k := 20) (av := [.ref r, .int (nI 0)]) (c' := (22, [.ref r, .long N, .retAddr 0, .int (nI (beg k)), .int (nI (dep k)), .long (msk k), .retAddr 0], [], (0, 0), h)) rfl ?_
      refine sp_add (x + 2) hr (by simp at hL; omega) (fun h2 s2 k2 => ?_)
      show ab_W _ _ _ (22, [.ref r, .long N, .retAddr 0, .int (nI (beg k)), .int (nI (dep k)), .long (msk k), .retAddr 0], [], (0, 0), h2)
      refine ab_W.go (mm _) 1 (c' := (80, [.ref r, .long N, .retAddr 0, .int (nI (beg k)), .int (nI (dep k)), .long (msk k), .retAddr 0], [], (0, 0), h2)) rfl ?_
      refine ab_W.ret (mm _) (v := none) rfl ?_
      exact hp h2 s2 k2
    · skip
      have q : hits N k := fun z => q ((lg_cmp0 _ _).mpr (by rw [and_comm64]; exact z))
      refine ab_W.go (mm _) 5 (c' := (32, [.ref r, .long N, .retAddr 0, .int (nI (beg k)), .int (nI (dep k)), .long (msk k), .retAddr 0], [.int (lg_cmp (N &&& (msk k)) (msk k))], (0, 0), h)) rfl ?_
      refine ab_W.ite (mm _) (p := (lg_cmp (N &&& (msk k)) (msk k)) = 0) (c1 := (42, [.ref r, .long N, .retAddr 0, .int (nI (beg k)), .int (nI (dep k)), .long (msk k), .retAddr 0], [], (0, 0), h)) (c2 := (35, [.ref r, .long N, .retAddr 0, .int (nI (beg k)), .int (nI (dep k)), .long (msk k), .retAddr 0], [], (0, 0), h)) rfl (fun q2 => ?_) (fun q2 => ?_)
      · skip
        have q2 := (lies_eq h1 hk).mp ((lg_cmp0 _ _).mp q2)
        have e : nT N (n + 1) k = [nI 1] := (ci_f (fun z => z q)).trans (ci_t q2)
        rw [e] at hp hL
        refine ab_W.go (mm _) 2 (c' := (44, [.ref r, .long N, .retAddr 0, .int (nI (beg k)), .int (nI (dep k)), .long (msk k), .retAddr 0], [.int (nI 1), .ref r], (0, 0), h)) rfl ?_
        refine ab_W.callV (mm _) (hr.1) rfl (k := 20) (av := [.ref r, .int (nI 1)]) (c' := (47, [.ref r, .long N, .retAddr 0, .int (nI (beg k)), .int (nI (dep k)), .long (msk k), .retAddr 0], [], (0, 0), h)) rfl ?_
        refine sp_add (x + 2) hr (by simp at hL; omega) (fun h2 s2 k2 => ?_)
        show ab_W _ _ _ (47, [.ref r, .long N, .retAddr 0, .int (nI (beg k)), .int (nI (dep k)), .long (msk k), .retAddr 0], [], (0, 0), h2)
        refine ab_W.go (mm _) 1 (c' := (80, [.ref r, .long N, .retAddr 0, .int (nI (beg k)), .int (nI (dep k)), .long (msk k), .retAddr 0], [], (0, 0), h2)) rfl ?_
        refine ab_W.ret (mm _) (v := none) rfl ?_
        exact hp h2 s2 k2
      · skip
        have q2 : ¬ lies N k := fun z => q2 ((lg_cmp0 _ _).mpr ((lies_eq h1 hk).mpr z))
        have e : nT N (n + 1) k = nI 2 :: (nT N n (2 * k) ++ nT N n (2 * k + 1)) := (ci_f (fun z => z q)).trans (ci_f q2)
        rw [e] at hp hL
        rw [List.length_cons, List.length_append] at hL
        refine ab_W.go (mm _) 2 (c' := (39, [.ref r, .long N, .retAddr 0, .int (nI (beg k)), .int (nI (dep k)), .long (msk k), .retAddr 0], [.int (nI 6), .int (nI (dep k))], (0, 0), h)) rfl ?_
        refine ab_W.itT (mm _) (p := (nI (dep k)) < (nI 6)) (c1 := (50, [.ref r, .long N, .retAddr 0, .int (nI (beg k)), .int (nI (dep k)), .long (msk k), .retAddr 0], [], (0, 0), h)) (c2 := (42, [.ref r, .long N, .retAddr 0, .int (nI (beg k)), .int (nI (dep k)), .long (msk k), .retAddr 0], [], (0, 0), h)) rfl ((nI_ltI (by omega) (by omega)).mpr (by omega)) ?_
        refine ab_W.go (mm _) 2 (c' := (52, [.ref r, .long N, .retAddr 0, .int (nI (beg k)), .int (nI (dep k)), .long (msk k), .retAddr 0], [.int (nI 2), .ref r], (0, 0), h)) rfl ?_
        refine ab_W.callV (mm _) (hr.1) rfl (k := 20) (av := [.ref r, .int (nI 2)]) (c' := (55, [.ref r, .long N, .retAddr 0, .int (nI (beg k)), .int (nI (dep k)), .long (msk k), .retAddr 0], [], (0, 0), h)) rfl ?_
        refine sp_add (x + 2) hr (by omega) (fun h2 s2 k2 => ?_)
        show ab_W _ _ _ (55, [.ref r, .long N, .retAddr 0, .int (nI (beg k)), .int (nI (dep k)), .long (msk k), .retAddr 0], [], (0, 0), h2)
        refine ab_W.go (mm _) 6 (c' := (62, [.ref r, .long N, .retAddr 0, .int (nI (beg k)), .int (nI (dep k)), .long (msk k), .retAddr 0], [.int ((nI (dep k)) + (nI 1)), .int (nI (beg k)), .long N, .ref r], (0, 0), h2)) rfl ?_
        refine ab_W.topi (nI_add (dep k) 1) ?_
        refine ab_W.call (mm _) (k := 61) (av := [.ref r, .long N, .int (nI (beg k)), .int (nI (dep k + 1))]) (c' := (65, [.ref r, .long N, .retAddr 0, .int (nI (beg k)), .int (nI (dep k)), .long (msk k), .retAddr 0], [], (0, 0), h2)) rfl ?_
        have key := ih (2 * k) (by omega) (by omega) (by omega) (x + 3) (by omega) h2 (L ++ [nI 2]) s2 (by simp; omega) (post := fun v h' => ab_W (ab_st (mT kSpanStamps_writeName) mB mF (mR kSpanStamps_writeName) none) (mCC (x + 3)) post (65, [.ref r, .long N, .retAddr 0, .int (nI (beg k)), .int (nI (dep k)), .long (msk k), .retAddr 0], v.toList ++ [], (0, 0), h')) (fun h3 s3 k3 => ?_)
        · rw [e3, e1] at key
          exact key
        · skip
          show ab_W _ _ _ (65, [.ref r, .long N, .retAddr 0, .int (nI (beg k)), .int (nI (dep k)), .long (msk k), .retAddr 0], [], (0, 0), h3)
          refine ab_W.go (mm _) 4 (c' := (70, [.ref r, .long N, .retAddr 0, .int (nI (beg k)), .int (nI (dep k)), .long (msk k), .retAddr 0], [.int (nI (dep k)), .int (nI (beg k)), .long N, .ref r], (0, 0), h3)) rfl ?_
          refine ab_W.call (mm _) (k := 24) (av := [.int (nI (beg k)), .int (nI (dep k))]) (c' := (73, [.ref r, .long N, .retAddr 0, .int (nI (beg k)), .int (nI (dep k)), .long (msk k), .retAddr 0], [.long N, .ref r], (0, 0), h3)) rfl ?_
          refine sp_upperFirst (x + 1) h1 hk64 ?_
          show ab_W _ _ _ (73, [.ref r, .long N, .retAddr 0, .int (nI (beg k)), .int (nI (dep k)), .long (msk k), .retAddr 0], [.int (nI (beg (2 * k + 1))), .long N, .ref r], (0, 0), h3)
          refine ab_W.go (mm _) 3 (c' := (77, [.ref r, .long N, .retAddr 0, .int (nI (beg k)), .int (nI (dep k)), .long (msk k), .retAddr 0], [.int ((nI (dep k)) + (nI 1)), .int (nI (beg (2 * k + 1))), .long N, .ref r], (0, 0), h3)) rfl ?_
          refine ab_W.topi (nI_add (dep k) 1) ?_
          refine ab_W.call (mm _) (k := 61) (av := [.ref r, .long N, .int (nI (beg (2 * k + 1))), .int (nI (dep k + 1))]) (c' := (80, [.ref r, .long N, .retAddr 0, .int (nI (beg k)), .int (nI (dep k)), .long (msk k), .retAddr 0], [], (0, 0), h3)) rfl ?_
          have key := ih (2 * k + 1) (by omega) (by omega) (by omega) (x + 3) (by omega) h3 (L ++ [nI 2] ++ nT N n (2 * k)) s3 (by simp; omega) (post := fun v h' => ab_W (ab_st (mT kSpanStamps_writeName) mB mF (mR kSpanStamps_writeName) none) (mCC (x + 3)) post (80, [.ref r, .long N, .retAddr 0, .int (nI (beg k)), .int (nI (dep k)), .long (msk k), .retAddr 0], v.toList ++ [], (0, 0), h')) (fun h4 s4 k4 => ?_)
          · rw [e2] at key
            exact key
          · skip
            show ab_W _ _ _ (80, [.ref r, .long N, .retAddr 0, .int (nI (beg k)), .int (nI (dep k)), .long (msk k), .retAddr 0], [], (0, 0), h4)
            refine ab_W.ret (mm _) (v := none) rfl ?_
            refine hp h4 ?_ (fun i i1 i2 => (k4 i i1 i2).trans ((k3 i i1 i2).trans (k2 i i1 i2)))
            rw [show L ++ nI 2 :: (nT N n (2 * k) ++ nT N n (2 * k + 1)) = L ++ [nI 2] ++ nT N n (2 * k) ++ nT N n (2 * k + 1) by simp]
            exact s4
theorem sp_wHeights {r a : Nat} {f : Nat → Int32} (n1 : a ≠ r) (n2 : a ≠ r + 1) : ∀ (n k : Nat), 1 ≤ k → k < 128 → dep k + n = 6 → ∀ (D : Nat), n + 3 ≤ D → ∀ (h : ab_H) (L : List Int32) (b : Int32), rowP h r L → h[a]? = some (.inl (0, 64, .inl f)) → L.length + (hT f n k b).length ≤ 190 → ∀ {post : ab_P}, (∀ h', rowP h' r (L ++ hT f n k b) → (∀ i, i ≠ r → i ≠ r + 1 → h'[i]? = h[i]?) → post none h') → mCC D kSpanStamps_writeHeights [.ref r, .ref a, .int (nI (beg k)), .int (nI (dep k)), .int b] h post := by
  intro n
  induction n with
  | zero =>
    intro k h1 hk hd D hD h L b hr ha hL post hp
    obtain ⟨x, rfl⟩ : ∃ x, D = x + 3 := ⟨D - 3, by omega⟩
    rw [show hT f 0 k b = [mn f k - b] from rfl] at hp hL
    refine ⟨rfl, ?_⟩
    show ab_W _ _ _ (0, [.ref r, .ref a, .int (nI (beg k)), .int (nI (dep k)), .int b, .retAddr 0], [], (0, 0), h)
    refine ab_W.go (mm _) 3 (c' := (3, [.ref r, .ref a, .int (nI (beg k)), .int (nI (dep k)), .int b, .retAddr 0], [.int (nI (dep k)), .int (nI (beg k)), .ref a], (0, 0), h)) rfl ?_
    refine ab_W.call (mm _) (k := 34) (av := [.ref a, .int (nI (beg k)), .int (nI (dep k))]) (c' := (6, [.ref r, .ref a, .int (nI (beg k)), .int (nI (dep k)), .int b, .retAddr 0], [], (0, 0), h)) rfl ?_
    refine sp_leastOf _ ha h1 hk ?_
    show ab_W _ _ _ (6, [.ref r, .ref a, .int (nI (beg k)), .int (nI (dep k)), .int b, .retAddr 0], [.int (mn f k)], (0, 0), h)
    refine ab_W.go (mm _) 3 (c' := (11, [.ref r, .ref a, .int (nI (beg k)), .int (nI (dep k)), .int b, .int (mn f k)], [.int (nI 6), .int (nI (dep k))], (0, 0), h)) rfl ?_
    refine ab_W.itT (mm _) (p := (nI 6) ≤ (nI (dep k))) (c1 := (23, [.ref r, .ref a, .int (nI (beg k)), .int (nI (dep k)), .int b, .int (mn f k)], [], (0, 0), h)) (c2 := (14, [.ref r, .ref a, .int (nI (beg k)), .int (nI (dep k)), .int b, .int (mn f k)], [], (0, 0), h)) rfl (by rw [show dep k = 6 by omega]; decide) ?_
    refine ab_W.go (mm _) 4 (c' := (29, [.ref r, .ref a, .int (nI (beg k)), .int (nI (dep k)), .int b, .int (mn f k)], [.int ((mn f k) - b), .ref r], (0, 0), h)) rfl ?_
    refine ab_W.callV (mm _) (hr.1) rfl (k := 20) (av := [.ref r, .int ((mn f k) - b)]) (c' := (32, [.ref r, .ref a, .int (nI (beg k)), .int (nI (dep k)), .int b, .int (mn f k)], [], (0, 0), h)) rfl ?_
    refine sp_add _ hr (by simp at hL; omega) (fun h2 s2 k2 => ?_)
    show ab_W _ _ _ (32, [.ref r, .ref a, .int (nI (beg k)), .int (nI (dep k)), .int b, .int (mn f k)], [], (0, 0), h2)
    refine ab_W.go (mm _) 1 (c' := (77, [.ref r, .ref a, .int (nI (beg k)), .int (nI (dep k)), .int b, .int (mn f k)], [], (0, 0), h2)) rfl ?_
    refine ab_W.ret (mm _) (v := none) rfl ?_
    exact hp h2 s2 k2
  | succ n ih =>
    intro k h1 hk hd D hD h L b hr ha hL post hp
    obtain ⟨x, rfl⟩ : ∃ x, D = x + 4 := ⟨D - 4, by omega⟩
    have hk64 := dep_lt h1 hk hd
    obtain ⟨e1, e2, e3, e4, e5, e6, e7, e8⟩ := sp_half k hk64 h1
    refine ⟨rfl, ?_⟩
    show ab_W _ _ _ (0, [.ref r, .ref a, .int (nI (beg k)), .int (nI (dep k)), .int b, .retAddr 0], [], (0, 0), h)
    refine ab_W.go (mm _) 3 (c' := (3, [.ref r, .ref a, .int (nI (beg k)), .int (nI (dep k)), .int b, .retAddr 0], [.int (nI (dep k)), .int (nI (beg k)), .ref a], (0, 0), h)) rfl ?_
    refine ab_W.call (mm _) (k := 34) (av := [.ref a, .int (nI (beg k)), .int (nI (dep k))]) (c' := (6, [.ref r, .ref a, .int (nI (beg k)), .int (nI (dep k)), .int b, .retAddr 0], [], (0, 0), h)) rfl ?_
    refine sp_leastOf (x + 1) ha h1 hk ?_
    show ab_W _ _ _ (6, [.ref r, .ref a, .int (nI (beg k)), .int (nI (dep k)), .int b, .retAddr 0], [.int (mn f k)], (0, 0), h)
    refine ab_W.go (mm _) 3 (c' := (11, [.ref r, .ref a, .int (nI (beg k)), .int (nI (dep k)), .int b, .int (mn f k)], [.int (nI 6), .int (nI (dep k))], (0, 0), h)) rfl ?_
    refine ab_W.itF (mm _) (p := (nI 6) ≤ (nI (dep k))) (c1 := (23, [.ref r, .ref a, .int (nI (beg k)), .int (nI (dep k)), .int b, .int (mn f k)], [], (0, 0), h)) (c2 := (14, [.ref r, .ref a, .int (nI (beg k)), .int (nI (dep k)), .int b, .int (mn f k)], [], (0, 0), h)) rfl (fun z => absurd ((nI_leI (by omega) (by omega)).mp z) (by omega)) ?_
    refine ab_W.go (mm _) 3 (c' := (17, [.ref r, .ref a, .int (nI (beg k)), .int (nI (dep k)), .int b, .int (mn f k)], [.int (nI (dep k)), .int (nI (beg k)), .ref a], (0, 0), h)) rfl ?_
    refine ab_W.call (mm _) (k := 32) (av := [.ref a, .int (nI (beg k)), .int (nI (dep k))]) (c' := (20, [.ref r, .ref a, .int (nI (beg k)), .int (nI (dep k)), .int b, .int (mn f k)], [], (0, 0), h)) rfl ?_
    refine sp_isAlike (x + 1) ha h1 hk (fun v hv => ?_)
    rcases hv with ⟨q, rfl⟩ | ⟨q, rfl⟩
    · have e : hT f (n + 1) k b = [mn f k - b] := ci_t q
      rw [e] at hp hL
      show ab_W _ _ _ (20, [.ref r, .ref a, .int (nI (beg k)), .int (nI (dep k)), .int b, .int (mn f k)], [.int (nI 1)], (0, 0), h)
      refine ab_W.itF (mm _) (p := (nI 1) = 0) (c1 := (35, [.ref r, .ref a, .int (nI (beg k)), .int (nI (dep k)), .int b, .int (mn f k)], [], (0, 0), h)) (c2 := (23, [.ref r, .ref a, .int (nI (beg k)), .int (nI (dep k)), .int b, .int (mn f k)], [], (0, 0), h)) rfl (nI_ne01) ?_
      refine ab_W.go (mm _) 4 (c' := (29, [.ref r, .ref a, .int (nI (beg k)), .int (nI (dep k)), .int b, .int (mn f k)], [.int ((mn f k) - b), .ref r], (0, 0), h)) rfl ?_
      refine ab_W.callV (mm _) (hr.1) rfl (k := 20) (av := [.ref r, .int ((mn f k) - b)]) (c' := (32, [.ref r, .ref a, .int (nI (beg k)), .int (nI (dep k)), .int b, .int (mn f k)], [], (0, 0), h)) rfl ?_
      refine sp_add (x + 2) hr (by simp at hL; omega) (fun h2 s2 k2 => ?_)
      show ab_W _ _ _ (32, [.ref r, .ref a, .int (nI (beg k)), .int (nI (dep k)), .int b, .int (mn f k)], [], (0, 0), h2)
      refine ab_W.go (mm _) 1 (c' := (77, [.ref r, .ref a, .int (nI (beg k)), .int (nI (dep k)), .int b, .int (mn f k)], [], (0, 0), h2)) rfl ?_
      refine ab_W.ret (mm _) (v := none) rfl ?_
      exact hp h2 s2 k2
    · have e : hT f (n + 1) k b = nI 1000 :: (mn f k - b) :: (hT f n (2 * k) (mn f k) ++ hT f n (2 * k + 1) (mn f k)) := ci_f q
      rw [e] at hp hL
      rw [List.length_cons, List.length_cons, List.length_append] at hL
      show ab_W _ _ _ (20, [.ref r, .ref a, .int (nI (beg k)), .int (nI (dep k)), .int b, .int (mn f k)], [.int (nI 0)], (0, 0), h)
      refine ab_W.itT (mm _) (p := (nI 0) = 0) (c1 := (35, [.ref r, .ref a, .int (nI (beg k)), .int (nI (dep k)), .int b, .int (mn f k)], [], (0, 0), h)) (c2 := (23, [.ref r, .ref a, .int (nI (beg k)), .int (nI (dep k)), .int b, .int (mn f k)], [], (0, 0), h)) rfl (nI_0) ?_
      refine ab_W.go (mm _) 2 (c' := (39, [.ref r, .ref a, .int (nI (beg k)), .int (nI (dep k)), .int b, .int (mn f k)], [.int (nI 1000), .ref r], (0, 0), h)) rfl ?_
      refine ab_W.callV (mm _) (hr.1) rfl (k := 20) (av := [.ref r, .int (nI 1000)]) (c' := (42, [.ref r, .ref a, .int (nI (beg k)), .int (nI (dep k)), .int b, .int (mn f k)], [], (0, 0), h)) rfl ?_
      refine sp_add (x + 2) hr (by omega) (fun h1' s1 k1 => ?_)
      show ab_W _ _ _ (42, [.ref r, .ref a, .int (nI (beg k)), .int (nI (dep k)), .int b, .int (mn f k)], [], (0, 0), h1')
      refine ab_W.go (mm _) 4 (c' := (48, [.ref r, .ref a, .int (nI (beg k)), .int (nI (dep k)), .int b, .int (mn f k)], [.int ((mn f k) - b), .ref r], (0, 0), h1')) rfl ?_
      refine ab_W.callV (mm _) (s1.1) rfl (k := 20) (av := [.ref r, .int ((mn f k) - b)]) (c' := (51, [.ref r, .ref a, .int (nI (beg k)), .int (nI (dep k)), .int b, .int (mn f k)], [], (0, 0), h1')) rfl ?_
      refine sp_add (x + 2) s1 (by simp; omega) (fun h2 s2 k2 => ?_)
      have a2 : h2[a]? = some (.inl (0, 64, .inl f)) := (k2 a n1 n2).trans ((k1 a n1 n2).trans ha)
      show ab_W _ _ _ (51, [.ref r, .ref a, .int (nI (beg k)), .int (nI (dep k)), .int b, .int (mn f k)], [], (0, 0), h2)
      refine ab_W.go (mm _) 6 (c' := (57, [.ref r, .ref a, .int (nI (beg k)), .int (nI (dep k)), .int b, .int (mn f k)], [.int ((nI (dep k)) + (nI 1)), .int (nI (beg k)), .ref a, .ref r], (0, 0), h2)) rfl ?_
      refine ab_W.topi (nI_add (dep k) 1) ?_
      refine ab_W.go (mm _) 1 (c' := (59, [.ref r, .ref a, .int (nI (beg k)), .int (nI (dep k)), .int b, .int (mn f k)], [.int (mn f k), .int (nI ((dep k) + 1)), .int (nI (beg k)), .ref a, .ref r], (0, 0), h2)) rfl ?_
      refine ab_W.call (mm _) (k := 62) (av := [.ref r, .ref a, .int (nI (beg k)), .int (nI (dep k + 1)), .int (mn f k)]) (c' := (62, [.ref r, .ref a, .int (nI (beg k)), .int (nI (dep k)), .int b, .int (mn f k)], [], (0, 0), h2)) rfl ?_
      have key := ih (2 * k) (by omega) (by omega) (by omega) (x + 3) (by omega) h2 (L ++ [nI 1000] ++ [mn f k - b]) (mn f k) s2 a2 (by simp; omega) (post := fun v h' => ab_W (ab_st (mT kSpanStamps_writeHeights) mB mF (mR kSpanStamps_writeHeights) none) (mCC (x + 3)) post (62, [.ref r, .ref a, .int (nI (beg k)), .int (nI (dep k)), .int b, .int (mn f k)], v.toList ++ [], (0, 0), h')) (fun h3 s3 k3 => ?_)
      · rw [e3, e1] at key
        exact key
      · have a3 : h3[a]? = some (.inl (0, 64, .inl f)) := (k3 a n1 n2).trans a2
        show ab_W _ _ _ (62, [.ref r, .ref a, .int (nI (beg k)), .int (nI (dep k)), .int b, .int (mn f k)], [], (0, 0), h3)
        refine ab_W.go (mm _) 4 (c' := (66, [.ref r, .ref a, .int (nI (beg k)), .int (nI (dep k)), .int b, .int (mn f k)], [.int (nI (dep k)), .int (nI (beg k)), .ref a, .ref r], (0, 0), h3)) rfl ?_
        refine ab_W.call (mm _) (k := 24) (av := [.int (nI (beg k)), .int (nI (dep k))]) (c' := (69, [.ref r, .ref a, .int (nI (beg k)), .int (nI (dep k)), .int b, .int (mn f k)], [.ref a, .ref r], (0, 0), h3)) rfl ?_
        refine sp_upperFirst (x + 1) h1 hk64 ?_
        show ab_W _ _ _ (69, [.ref r, .ref a, .int (nI (beg k)), .int (nI (dep k)), .int b, .int (mn f k)], [.int (nI (beg (2 * k + 1))), .ref a, .ref r], (0, 0), h3)
        refine ab_W.go (mm _) 3 (c' := (72, [.ref r, .ref a, .int (nI (beg k)), .int (nI (dep k)), .int b, .int (mn f k)], [.int ((nI (dep k)) + (nI 1)), .int (nI (beg (2 * k + 1))), .ref a, .ref r], (0, 0), h3)) rfl ?_
        refine ab_W.topi (nI_add (dep k) 1) ?_
        refine ab_W.go (mm _) 1 (c' := (74, [.ref r, .ref a, .int (nI (beg k)), .int (nI (dep k)), .int b, .int (mn f k)], [.int (mn f k), .int (nI ((dep k) + 1)), .int (nI (beg (2 * k + 1))), .ref a, .ref r], (0, 0), h3)) rfl ?_
        refine ab_W.call (mm _) (k := 62) (av := [.ref r, .ref a, .int (nI (beg (2 * k + 1))), .int (nI (dep k + 1)), .int (mn f k)]) (c' := (77, [.ref r, .ref a, .int (nI (beg k)), .int (nI (dep k)), .int b, .int (mn f k)], [], (0, 0), h3)) rfl ?_
        have key := ih (2 * k + 1) (by omega) (by omega) (by omega) (x + 3) (by omega) h3 (L ++ [nI 1000] ++ [mn f k - b] ++ hT f n (2 * k) (mn f k)) (mn f k) s3 a3 (by simp; omega) (post := fun v h' => ab_W (ab_st (mT kSpanStamps_writeHeights) mB mF (mR kSpanStamps_writeHeights) none) (mCC (x + 3)) post (77, [.ref r, .ref a, .int (nI (beg k)), .int (nI (dep k)), .int b, .int (mn f k)], v.toList ++ [], (0, 0), h')) (fun h4 s4 k4 => ?_)
        · rw [e2] at key
          exact key
        · skip
          show ab_W _ _ _ (77, [.ref r, .ref a, .int (nI (beg k)), .int (nI (dep k)), .int b, .int (mn f k)], [], (0, 0), h4)
          refine ab_W.ret (mm _) (v := none) rfl ?_
          refine hp h4 ?_ (fun i i1 i2 => (k4 i i1 i2).trans ((k3 i i1 i2).trans ((k2 i i1 i2).trans (k1 i i1 i2))))
          rw [show L ++ nI 1000 :: (mn f k - b) :: (hT f n (2 * k) (mn f k) ++ hT f n (2 * k + 1) (mn f k)) = L ++ [nI 1000] ++ [mn f k - b] ++ hT f n (2 * k) (mn f k) ++ hT f n (2 * k + 1) (mn f k) by simp]
          exact s4
/-- the lower part of a name that has more than one cell -/
theorem cnt_one : ∀ c, c < 64 → cnt (lN (2 ^ c)) 64 = 1 := by decide +kernel
theorem lsN_lt {N : Int64} (hN : ¬ N = lN 0) (h1 : ¬ cnt N 64 = 1) : lsN N < 64 := by
  obtain ⟨k1, k2, k3, k4⟩ := lsN_ok N
  rcases Nat.lt_or_ge (lsN N) 64 with q | q
  · exact q
  · exfalso
    obtain ⟨s1, s2⟩ := sp_leaf _ k2 q
    obtain ⟨c, hc⟩ := low_ex hN
    have hin := (inS_iff k1 k2).mp k3
    have e : N = lN (2 ^ c) := by
      apply bt_ext
      intro j hj
      rw [bt_pow c hc.1 j hj]
      have hcc := hin c hc.1 hc.2.1
      cases hb : bt N j with
      | true =>
        have hj2 := hin j hj hb
        unfold inK at hcc hj2
        rw [s2] at hcc hj2
        exact (decide_eq_true (by omega)).symm
      | false =>
        refine (decide_eq_false (fun z => ?_)).symm
        rw [z, hc.2.1] at hb
        cases hb
    apply h1
    rw [e]
    exact cnt_one c hc.1
theorem sp_lowerPart (d : Nat) {h : ab_H} {N : Int64} (hN : ¬ N = lN 0) (h1 : ¬ cnt N 64 = 1) {post : ab_P} (hp : post (some (.long (N &&& msk (2 * lsN N)))) h) : mCC (d + 4) kSpan_lowerPart [.long N] h post := by
  have hlt := lsN_lt hN h1
  obtain ⟨k1, k2, k3, k4⟩ := lsN_ok N
  obtain ⟨s1, s2, s3, s4⟩ := sp_le _ k2 k1
  obtain ⟨e1, e2, e3, e4, e5, e6, e7, e8⟩ := sp_half _ hlt k1
  obtain ⟨c, hc⟩ := low_ex hN
  have hin := (inS_iff k1 k2).mp k3 c hc.1 hc.2.1
  have e := anc_of _ k2 k1 c hc.1 hin.1 hin.2
  refine ⟨rfl, ?_⟩
  show ab_W _ _ _ (0, [.long N, .retAddr 0, .retAddr 0], [], (0, 0), h)
  refine ab_W.go (mm _) 1 (c' := (1, [.long N, .retAddr 0, .retAddr 0], [.long N], (0, 0), h)) rfl ?_
  refine ab_W.call (mm _) (k := 27) (av := [.long N]) (c' := (4, [.long N, .retAddr 0, .retAddr 0], [], (0, 0), h)) rfl ?_
  refine sp_depthAround _ hN ?_
  show ab_W _ _ _ (4, [.long N, .retAddr 0, .retAddr 0], [.int (nI (dep (lsN N)))], (0, 0), h)
  refine ab_W.go (mm _) 3 (c' := (7, [.long N, .retAddr 0, .int (nI (dep (lsN N)))], [.long N, .long N], (0, 0), h)) rfl ?_
  refine ab_W.call (mm _) (k := 29) (av := [.long N]) (c' := (10, [.long N, .retAddr 0, .int (nI (dep (lsN N)))], [.long N], (0, 0), h)) rfl ?_
  refine sp_lowestCell _ hc ?_
  show ab_W _ _ _ (10, [.long N, .retAddr 0, .int (nI (dep (lsN N)))], [.int (nI c), .long N], (0, 0), h)
  refine ab_W.go (mm _) 1 (c' := (11, [.long N, .retAddr 0, .int (nI (dep (lsN N)))], [.int (nI (dep (lsN N))), .int (nI c), .long N], (0, 0), h)) rfl ?_
  refine ab_W.call (mm _) (k := 25) (av := [.int (nI c), .int (nI (dep (lsN N)))]) (c' := (14, [.long N, .retAddr 0, .int (nI (dep (lsN N)))], [.long N], (0, 0), h)) rfl ?_
  refine sp_firstAround _ hc.1 s1 ?_
  show ab_W _ _ _ (14, [.long N, .retAddr 0, .int (nI (dep (lsN N)))], [.int (nI (beg (anc c (dep (lsN N))))), .long N], (0, 0), h)
  rw [e, ← e3]
  show ab_W _ _ _ (14, [.long N, .retAddr 0, .int (nI (dep (lsN N)))], [.int (nI (beg (2 * lsN N))), .long N], (0, 0), h)
  refine ab_W.go (mm _) 3 (c' := (17, [.long N, .retAddr 0, .int (nI (dep (lsN N)))], [.int ((nI (dep (lsN N))) + (nI 1)), .int (nI (beg (2 * lsN N))), .long N], (0, 0), h)) rfl ?_
  refine ab_W.topi (nI_add (dep (lsN N)) 1) ?_
  rw [← e1]
  refine ab_W.call (mm _) (k := 23) (av := [.int (nI (beg (2 * lsN N))), .int (nI (dep (2 * lsN N)))]) (c' := (20, [.long N, .retAddr 0, .int (nI (dep (lsN N)))], [.long N], (0, 0), h)) rfl ?_
  refine sp_cellsOf (d + 1) (by omega) (by omega) ?_
  show ab_W _ _ _ (20, [.long N, .retAddr 0, .int (nI (dep (lsN N)))], [.long (msk (2 * lsN N)), .long N], (0, 0), h)
  refine ab_W.go (mm _) 1 (c' := (21, [.long N, .retAddr 0, .int (nI (dep (lsN N)))], [.long (N &&& (msk (2 * lsN N)))], (0, 0), h)) rfl ?_
  refine ab_W.ret (mm _) (v := (some (.long (N &&& (msk (2 * lsN N)))))) rfl ?_
  exact hp
end
section
/-! WHAT EACH CALL DOES, as a function of the stamps -/
abbrev Sg : Type := Ci × (Nat → Ci) × (Nat → Bool)
noncomputable def stN (c : Ci) (x : Int32) : Option Nat := ci (∃ s, s < 12 ∧ x = nI s ∧ pr c s = true) (some x.toNatClampNeg) none
theorem stN_yes {c : Ci} {s : Nat} (hs : s < 12) (hp : pr c s = true) : stN c (nI s) = some s := by
  unfold stN
  rw [ci_t ⟨s, hs, rfl, hp⟩, nI_clamp (by omega)]
theorem stN_no {c : Ci} {x : Int32} (h : noS c x) : stN c x = none := by
  refine ci_f ?_
  rintro ⟨s, s1, rfl, s3⟩
  rcases h with h | h | ⟨t, t1, t2, t3⟩
  · exact nI_pos (by omega) h
  · have := (nI_leI (a := 12) (b := s) (by omega) (by omega)).mp h
    omega
  · have := (nI_eq (by omega) (by omega)).mp t2
    subst this
    rw [s3] at t3
    cases t3
noncomputable def frN (c : Ci) : Option Nat := @dite _ (∃ t, free1 c t) (Classical.propDecidable _) (fun h => some (Classical.choose h)) (fun _ => none)
theorem free1_one {c : Ci} {s t : Nat} (h1 : free1 c s) (h2 : free1 c t) : s = t := by
  rcases Nat.lt_trichotomy s t with q | q | q
  · have := h2.2.2 s q
    rw [h1.2.1] at this
    cases this
  · exact q
  · have := h1.2.2 t q
    rw [h2.2.1] at this
    cases this
theorem frN_yes {c : Ci} {t : Nat} (h : free1 c t) : frN c = some t := by
  unfold frN
  rw [dif_pos ⟨t, h⟩]
  exact congrArg some (free1_one (Classical.choose_spec (⟨t, h⟩ : ∃ t, free1 c t)) h)
theorem frN_no {c : Ci} (h : ∀ s, s < 12 → pr c s = true) : frN c = none := by
  unfold frN
  refine dif_neg ?_
  rintro ⟨t, t1, t2, -⟩
  rw [h t t1] at t2
  cases t2
def setH (c : Ci) (n : Nat) : Ci := (pr c, nm c, kn c, ht c, n)
/-- the growing piece, and what a happening makes of heights -/
noncomputable def bst (N : Int64) (f : Nat → Int32) : Nat := @Classical.epsilon Nat ⟨0⟩ (Best N f)
theorem Best.one {N : Int64} {f : Nat → Int32} {k l : Nat} (h1 : Best N f k) (h2 : Best N f l) : k = l := by
  obtain ⟨⟨k1, k2, k3⟩, k4⟩ := h1
  obtain ⟨⟨l1, l2, l3⟩, l4⟩ := h2
  have a := k4 l l1 l2 l3
  have b := l4 k k1 k2 k3
  have e : beg k = beg l := by omega
  exact isP_one k1 k2 l1 l2 k3 l3 (inK_beg k1 k2) (by rw [e]; exact inK_beg l1 l2)
theorem bst_eq {N : Int64} {f : Nat → Int32} {k : Nat} (h : Best N f k) : bst N f = k := Best.one (@Classical.epsilon_spec Nat (Best N f) ⟨k, h⟩) h
noncomputable def nch (N : Int64) (f : Nat → Int32) : Nat := chF (fl N 6 1 f) f 64
noncomputable def grF (N : Int64) (f : Nat → Int32) (w : Nat) : Int32 := match w with
  | 0 => ci (0 < nch N f) (nI 1) (nI 0)
  | 1 => ci (0 < nch N f) (nI (nch N f)) (nI (siz (bst N f)))
  | 2 => ci (0 < nch N f) (-(nI 6)) (nI (cst f (bst N f)))
  | 3 => ci (0 < nch N f) (-(nI 6)) (nI (beg (bst N f)))
  | _ => ci (0 < nch N f) (-(nI 6)) (nI (dep (bst N f)))
noncomputable def hpF (N : Int64) (f : Nat → Int32) : Nat → Int32 := ci (0 < nch N f) (fl N 6 1 f) (rsF f (beg (bst N f)) (beg (bst N f) + siz (bst N f)))
theorem LK.ok {N : Int64} {f : Nat → Int32} {y1 y2 y3 y4 y5 : Int32} {G : Nat → Int32} (h : LK N f y1 y2 y3 y4 y5 G) : y1 = grF N f 0 ∧ y2 = grF N f 1 ∧ y3 = grF N f 2 ∧ y4 = grF N f 3 ∧ y5 = grF N f 4 ∧ ∀ c, c < 64 → G c = hpF N f c := by
  rcases h with ⟨q, e1, e2, e3, e4, e5, e6⟩ | ⟨q, k, hk, e1, e2, e3, e4, e5, e6⟩
  · have q' : 0 < nch N f := q
    unfold grF hpF
    rw [ci_t q', ci_t q', ci_t q', ci_t q', ci_t q', ci_t q']
    exact ⟨e1, e2, e3, e4, e5, e6⟩
  · have q' : ¬ 0 < nch N f := by
      show ¬ 0 < chF (fl N 6 1 f) f 64
      omega
    unfold grF hpF
    rw [ci_f q', ci_f q', ci_f q', ci_f q', ci_f q', ci_f q', bst_eq hk]
    exact ⟨e1, e2, e3, e4, e5, e6⟩
def inv64 (A : Int64) : Int64 := A ^^^ (-(lN 1))
def lowN (N : Int64) : Int64 := N &&& msk (2 * lsN N)
def uppN (N : Int64) : Int64 := N &&& inv64 (msk (2 * lsN N))
noncomputable def forkO (c : Ci) : Option Nat → Int32 × Ci
  | none => (-(nI 1), c)
  | some s => ci (nm c s = lN 0) (-(nI 3), c) (ci (cnt (nm c s) 64 = 1) (-(nI 5), c) (match frN c with
    | none => (-(nI 4), c)
    | some t => (nI t, setS (setS c t true (uppN (nm c s)) (kn c s) (ht c s)) s true (lowN (nm c s)) (kn c s) (ht c s))))
noncomputable def peekO (c : Ci) : Option Nat → Int32 × Ci
  | none => (-(nI 1), c)
  | some s => match frN c with
    | none => (-(nI 4), c)
    | some t => (nI t, setS c t true (lN 0) (kn c s) (ht c s))
noncomputable def happenO (c : Ci) : Option Nat → Int32 × Ci
  | none => (-(nI 1), c)
  | some s => ci (nm c s = lN 0) (-(nI 3), c) (ci (60 ≤ hn c) (-(nI 4), c) (nI (hn c), setH (setS c s true (nm c s) (kn c s ||| (lN 1 <<< ((nI (hn c)).toInt64 &&& 63))) (hpF (nm c s) (ht c s))) (hn c + 1)))
def mxH (f g : Nat → Int32) : Nat → Int32 := fun c => mxI (f c) (g c)
def hearC (c : Ci) (s t : Nat) : Ci := setS c s true (nm c s) (kn c s ||| kn c t) (mxH (ht c s) (ht c t))
noncomputable def hearO (c : Ci) : Option Nat → Option Nat → Int32 × Ci
  | some s, some t => ci (s = t) (-(nI 2), c) (nI (cn (fun j => ht c s j < ht c t j) 64), hearC c s t)
  | _, _ => (-(nI 1), c)
def joinC (c : Ci) (s t : Nat) : Ci := setS (setS c s true (nm c s ||| nm c t) (kn c s ||| kn c t) (mxH (ht c s) (ht c t))) t false (nm c t) (kn c t) (ht c t)
noncomputable def joinO (c : Ci) : Option Nat → Option Nat → Int32 × Ci
  | some s, some t => ci (s = t) (-(nI 2), c) (nI (cb (pr (joinC c s t)) 12), joinC c s t)
  | _, _ => (-(nI 1), c)
def shareC (c : Ci) (s t : Nat) : Ci := setS (setS c s true (lowN (nm c s ||| nm c t)) (kn c s ||| kn c t) (mxH (ht c s) (ht c t))) t true (uppN (nm c s ||| nm c t)) (kn c t ||| (kn c s ||| kn c t)) (mxH (ht c t) (mxH (ht c s) (ht c t)))
noncomputable def shareO (c : Ci) : Option Nat → Option Nat → Int32 × Ci
  | some s, some t => ci (s = t) (-(nI 2), c) (ci ((nm c s ||| nm c t) = lN 0) (-(nI 3), c) (ci (cnt (nm c s ||| nm c t) 64 = 1) (-(nI 5), c) (nI (cnt (lowN (nm c s ||| nm c t)) 64), shareC c s t)))
  | _, _ => (-(nI 1), c)
def dropC (c : Ci) (s : Nat) : Ci := setS c s false (nm c s) (kn c s) (ht c s)
noncomputable def dropO (c : Ci) : Option Nat → Int32 × Ci
  | none => (-(nI 1), c)
  | some s => ci (nm c s = lN 0) (nI (cb (pr (dropC c s)) 12), dropC c s) (-(nI 5), c)
noncomputable def orderO (c : Ci) : Option Nat → Option Nat → Int32
  | some s, some t => nI (ordN (ht c s) (ht c t))
  | _, _ => -(nI 1)
noncomputable def knowsO (c : Ci) (e : Int32) : Option Nat → Int32
  | none => -(nI 1)
  | some s => ci (e = -(nI 1)) (nI (cnt (kn c s) 64)) (ci (e < 0 ∨ nI (hn c) ≤ e) (-(nI 2)) (b2i (bt (kn c s) e.toNatClampNeg)))
noncomputable def heightO (c : Ci) (y : Int32) : Option Nat → Int32
  | none => -(nI 1)
  | some s => ci (y < 0 ∨ nI 64 ≤ y) (-(nI 2)) (ht c s y.toNatClampNeg)
def ownP (c : Ci) (j s : Nat) : Prop := s < 12 ∧ pr c s = true ∧ bt (nm c s) j = true
noncomputable def ownF (c : Ci) (y : Int32) : Int32 := ci (y < 0 ∨ nI 64 ≤ y) (-(nI 2)) (ci (∃ s, ownP c y.toNatClampNeg s) (nI (@Classical.epsilon Nat ⟨0⟩ (ownP c y.toNatClampNeg))) (-(nI 6)))
noncomputable def nameO (c : Ci) (k : Int32) : Option Nat → Int32
  | none => -(nI 1)
  | some s => ci (k < -(nI 1)) (-(nI 2)) (tlF (nT (nm c s) 6 1) k)
noncomputable def treeO (c : Ci) (k : Int32) : Option Nat → Int32
  | none => -(nI 1)
  | some s => ci (k < -(nI 1)) (-(nI 2)) (tlF (hT (ht c s) 6 1 0) k)
noncomputable def aboutO (c : Ci) (w : Int32) : Option Nat → Int32
  | none => -(nI 1)
  | some s => ci (w = nI 0) (nI (cnt (nm c s) 64)) (ci (w = nI 1) (nI (npc (nm c s))) (ci (w = nI 2) (mx (ht c s) 1) (ci (w = nI 3) (mn (ht c s) 1) (ci (w = nI 4) (ci (nm c s = lN 0) (-(nI 6)) (nI (dep (lsN (nm c s))))) (-(nI 2))))))
noncomputable def growthO (c : Ci) (w : Int32) : Option Nat → Int32
  | none => -(nI 1)
  | some s => ci (w < 0 ∨ nI 4 < w) (-(nI 2)) (ci (nm c s = lN 0) (-(nI 3)) (grF (nm c s) (ht c s) w.toNatClampNeg))
noncomputable def unF (c : Ci) (w : Int32) : Int32 := ci (w = nI 0) (nI (cn (fun s => pr c s = true ∧ ¬ ∃ t, t < s ∧ pr c t = true ∧ ordN (ht c t) (ht c s) = 0) 12)) (ci (w = nI 1) (nI (cn (fun s => pr c s = true ∧ ¬ ∃ t, t < s ∧ pr c t = true ∧ nm c t = nm c s) 12)) (ci (w = nI 2) (nI (cn (fun s => pr c s = true ∧ ¬ ∃ t, t < 12 ∧ pr c t = true ∧ ordN (ht c s) (ht c t) = 1) 12)) (-(nI 2))))
def kpN (k : Nat → Bool) : Nat := (if k 0 = true then 1 else 0) + (if k 1 = true then 2 else 0)
noncomputable def imgF (σ : Sg) (k : Int32) : Int32 × Sg := ci (k < 0 ∨ nI 2 ≤ k) (-(nI 2), σ) (nI 1, σ.1, va_up σ.2.1 k.toNatClampNeg σ.1, va_up σ.2.2 k.toNatClampNeg true)
noncomputable def resF (σ : Sg) (k : Int32) : Int32 × Sg := ci (k < 0 ∨ nI 2 ≤ k) (-(nI 2), σ) (ci (σ.2.2 k.toNatClampNeg = true) (nI 1, σ.2.1 k.toNatClampNeg, σ.2.1, σ.2.2) (-(nI 3), σ))
noncomputable def cntF (σ : Sg) (w : Int32) : Int32 := ci (w = nI 0) (nI (cb (pr σ.1) 12)) (ci (w = nI 1) (nI (mkN (pr σ.1) 12)) (ci (w = nI 2) (nI (hn σ.1)) (ci (w = nI 3) (nI (kpN σ.2.2)) (-(nI 2)))))
/-- the cells of the class -/
def relC (h : ab_H) (σ : Sg) : Prop := h[0]? = some (.inr (4, [.ref 1, .ref 27, .int (nI (kpN σ.2.2)), .ref 28, .ref 30])) ∧ cir h 1 σ.1 ∧ (∃ q, h[27]? = some (.inl (4, 2, .inr (.inr (.inr (.inr q))))) ∧ q 0 = some 32 ∧ q 1 = some 58) ∧ (∃ x1 x2 x3 x4 x5, h[28]? = some (.inr (1, [.ref 29, .int x1, .int x2, .int x3, .int x4, .int x5]))) ∧ (∃ g, h[29]? = some (.inl (0, 64, .inl g))) ∧ (∃ z, h[30]? = some (.inr (2, [.ref 31, .int z]))) ∧ (∃ g, h[31]? = some (.inl (0, 190, .inl g))) ∧ cir h 32 (σ.2.1 0) ∧ cir h 58 (σ.2.1 1)
/-- only the present circle's cells changed -/
theorem relC.cur {h h' : ab_H} {σ : Sg} {c' : Ci} (hR : relC h σ) (hc : cir h' 1 c') (hk : ∀ i, i < 1 ∨ 27 ≤ i → h'[i]? = h[i]?) : relC h' (c', σ.2) := by
  obtain ⟨r0, -, ⟨q, r2, r3⟩, ⟨x1, x2, x3, x4, x5, r4⟩, ⟨g, r5⟩, ⟨z, r6⟩, ⟨g2, r7⟩, r8, r9⟩ := hR
  exact ⟨(hk _ (by omega)).trans r0, hc, ⟨q, (hk _ (by omega)).trans r2, r3⟩, ⟨x1, x2, x3, x4, x5, (hk _ (by omega)).trans r4⟩, ⟨g, (hk _ (by omega)).trans r5⟩, ⟨z, (hk _ (by omega)).trans r6⟩, ⟨g2, (hk _ (by omega)).trans r7⟩, r8.kept (fun i h1 h2 => hk i (by omega)), r9.kept (fun i h1 h2 => hk i (by omega))⟩
end
section
/-! THE CALLS OF THE CLASS -/
def okC (h : ab_H) (post : ab_P) (a : Int32) (σ' : Sg) : Prop := ∀ h', relC h' σ' → (∀ i, 84 ≤ i → h'[i]? = h[i]?) → post (some (.int a)) h'
theorem nI_ne4 : ∀ t, t < 12 → ¬ nI t = -(nI 4) := by decide +kernel
theorem upp_eq (N M : Int64) : N &&& ((N &&& M) ^^^ (-(lN 1))) = N &&& inv64 M := by
  unfold inv64
  refine Int64.toBitVec_inj.mp ?_
  have e : (-(lN 1)).toBitVec = BitVec.allOnes 64 := by decide
  rw [Int64.toBitVec_and, Int64.toBitVec_and, Int64.toBitVec_xor, Int64.toBitVec_xor, Int64.toBitVec_and, e]
  refine BitVec.eq_of_getLsbD_eq fun i hi => ?_
  simp only [BitVec.getLsbD_and, BitVec.getLsbD_xor, BitVec.getLsbD_allOnes, hi, decide_true]
  cases N.toBitVec.getLsbD i <;> cases M.toBitVec.getLsbD i <;> rfl
theorem sp_fork (d : Nat) {h : ab_H} {σ : Sg} {x : Int32} (hR : relC h σ) {post : ab_P} (hp : okC h post ((forkO σ.1 (stN σ.1 x)).1) ((forkO σ.1 (stN σ.1 x)).2, σ.2)) : mCC (d + 6) kSpanStamps_fork [.ref 0, .int x] h post := by
  have r0 := hR.1
  have rc := hR.2.1
  rcases stamp_or σ.1 x with hx | ⟨s, hs, rfl, hx⟩
  · rw [stN_no hx] at hp
    refine ⟨rfl, ?_⟩
    show ab_W _ _ _ (0, [.ref 0, .int x, .retAddr 0, .retAddr 0, .retAddr 0, .retAddr 0], [], (0, 0), h)
    refine ab_W.go (mm _) 1 (c' := (1, [.ref 0, .int x, .retAddr 0, .retAddr 0, .retAddr 0, .retAddr 0], [.ref 0], (0, 0), h)) rfl ?_
    refine ab_W.o (mm _) (r0) rfl (c' := (4, [.ref 0, .int x, .retAddr 0, .retAddr 0, .retAddr 0, .retAddr 0], [.ref 1], (0, 0), h)) rfl ?_
    refine ab_W.go (mm _) 1 (c' := (5, [.ref 0, .int x, .retAddr 0, .retAddr 0, .retAddr 0, .retAddr 0], [.int x, .ref 1], (0, 0), h)) rfl ?_
    refine ab_W.callV (mm _) (rc.1) rfl (k := 1) (av := [.ref 1, .int x]) (c' := (8, [.ref 0, .int x, .retAddr 0, .retAddr 0, .retAddr 0, .retAddr 0], [], (0, 0), h)) rfl ?_
    refine sp_findN _ rc hx ?_
    show ab_W _ _ _ (8, [.ref 0, .int x, .retAddr 0, .retAddr 0, .retAddr 0, .retAddr 0], [.null], (0, 0), h)
    refine ab_W.go (mm _) 2 (c' := (10, [.ref 0, .int x, .null, .retAddr 0, .retAddr 0, .retAddr 0], [.null], (0, 0), h)) rfl ?_
    refine ab_W.go (mm _) 1 (c' := (13, [.ref 0, .int x, .null, .retAddr 0, .retAddr 0, .retAddr 0], [], (0, 0), h)) rfl ?_
    refine ab_W.go (mm _) 1 (c' := (14, [.ref 0, .int x, .null, .retAddr 0, .retAddr 0, .retAddr 0], [.int (-(nI 1))], (0, 0), h)) rfl ?_
    refine ab_W.retI (mm _) (rt := some .int) (v := -(nI 1)) rfl rfl ?_
    exact hp h hR (fun _ _ => rfl)
  · rw [stN_yes hs hx] at hp
    have e := (rc.2.2 s hs).1
    refine ⟨rfl, ?_⟩
    show ab_W _ _ _ (0, [.ref 0, .int (nI s), .retAddr 0, .retAddr 0, .retAddr 0, .retAddr 0], [], (0, 0), h)
    refine ab_W.go (mm _) 1 (c' := (1, [.ref 0, .int (nI s), .retAddr 0, .retAddr 0, .retAddr 0, .retAddr 0], [.ref 0], (0, 0), h)) rfl ?_
    refine ab_W.o (mm _) (r0) rfl (c' := (4, [.ref 0, .int (nI s), .retAddr 0, .retAddr 0, .retAddr 0, .retAddr 0], [.ref 1], (0, 0), h)) rfl ?_
    refine ab_W.go (mm _) 1 (c' := (5, [.ref 0, .int (nI s), .retAddr 0, .retAddr 0, .retAddr 0, .retAddr 0], [.int (nI s), .ref 1], (0, 0), h)) rfl ?_
    refine ab_W.callV (mm _) (rc.1) rfl (k := 1) (av := [.ref 1, .int (nI s)]) (c' := (8, [.ref 0, .int (nI s), .retAddr 0, .retAddr 0, .retAddr 0, .retAddr 0], [], (0, 0), h)) rfl ?_
    refine sp_find _ rc hs hx ?_
    show ab_W _ _ _ (8, [.ref 0, .int (nI s), .retAddr 0, .retAddr 0, .retAddr 0, .retAddr 0], [.ref (1 + 2 + 2 * s)], (0, 0), h)
    refine ab_W.go (mm _) 2 (c' := (10, [.ref 0, .int (nI s), .ref (1 + 2 + 2 * s), .retAddr 0, .retAddr 0, .retAddr 0], [.ref (1 + 2 + 2 * s)], (0, 0), h)) rfl ?_
    refine ab_W.go (mm _) 1 (c' := (15, [.ref 0, .int (nI s), .ref (1 + 2 + 2 * s), .retAddr 0, .retAddr 0, .retAddr 0], [], (0, 0), h)) rfl ?_
    refine ab_W.go (mm _) 1 (c' := (16, [.ref 0, .int (nI s), .ref (1 + 2 + 2 * s), .retAddr 0, .retAddr 0, .retAddr 0], [.ref (1 + 2 + 2 * s)], (0, 0), h)) rfl ?_
    refine ab_W.o (mm _) (e) rfl (c' := (19, [.ref 0, .int (nI s), .ref (1 + 2 + 2 * s), .retAddr 0, .retAddr 0, .retAddr 0], [.long (nm σ.1 s)], (0, 0), h)) rfl ?_
    refine ab_W.go (mm _) 2 (c' := (21, [.ref 0, .int (nI s), .ref (1 + 2 + 2 * s), .retAddr 0, .retAddr 0, .retAddr 0], [.int (lg_cmp (nm σ.1 s) (lN 0))], (0, 0), h)) rfl ?_
    refine ab_W.ite (mm _) (p := (lg_cmp (nm σ.1 s) (lN 0)) = 0) (c1 := (24, [.ref 0, .int (nI s), .ref (1 + 2 + 2 * s), .retAddr 0, .retAddr 0, .retAddr 0], [], (0, 0), h)) (c2 := (27, [.ref 0, .int (nI s), .ref (1 + 2 + 2 * s), .retAddr 0, .retAddr 0, .retAddr 0], [], (0, 0), h)) rfl (fun q => ?_) (fun q => ?_)
    · skip
      have q := (lg_cmp0 _ _).mp q
      rw [show forkO σ.1 (some s) = (-(nI 3), σ.1) from ci_t q] at hp
      refine ab_W.go (mm _) 1 (c' := (26, [.ref 0, .int (nI s), .ref (1 + 2 + 2 * s), .retAddr 0, .retAddr 0, .retAddr 0], [.int (-(nI 3))], (0, 0), h)) rfl ?_
      refine ab_W.retI (mm _) (rt := some .int) (v := -(nI 3)) rfl rfl ?_
      exact hp h hR (fun _ _ => rfl)
    · skip
      have q : ¬ nm σ.1 s = lN 0 := fun z => q ((lg_cmp0 _ _).mpr z)
      refine ab_W.go (mm _) 1 (c' := (28, [.ref 0, .int (nI s), .ref (1 + 2 + 2 * s), .retAddr 0, .retAddr 0, .retAddr 0], [.ref (1 + 2 + 2 * s)], (0, 0), h)) rfl ?_
      refine ab_W.o (mm _) (e) rfl (c' := (31, [.ref 0, .int (nI s), .ref (1 + 2 + 2 * s), .retAddr 0, .retAddr 0, .retAddr 0], [.long (nm σ.1 s)], (0, 0), h)) rfl ?_
      refine ab_W.call (mm _) (k := 122) (av := [.long (nm σ.1 s)]) (c' := (34, [.ref 0, .int (nI s), .ref (1 + 2 + 2 * s), .retAddr 0, .retAddr 0, .retAddr 0], [], (0, 0), h)) rfl ?_
      refine bit_count _ ?_
      show ab_W _ _ _ (34, [.ref 0, .int (nI s), .ref (1 + 2 + 2 * s), .retAddr 0, .retAddr 0, .retAddr 0], [.int (nI (cnt (nm σ.1 s) 64))], (0, 0), h)
      refine ab_W.go (mm _) 1 (c' := (35, [.ref 0, .int (nI s), .ref (1 + 2 + 2 * s), .retAddr 0, .retAddr 0, .retAddr 0], [.int (nI 1), .int (nI (cnt (nm σ.1 s) 64))], (0, 0), h)) rfl ?_
      have l64 : cnt (nm σ.1 s) 64 ≤ 64 := cnt_le _ 64
      refine ab_W.ite (mm _) (p := (nI (cnt (nm σ.1 s) 64)) = (nI 1)) (c1 := (38, [.ref 0, .int (nI s), .ref (1 + 2 + 2 * s), .retAddr 0, .retAddr 0, .retAddr 0], [], (0, 0), h)) (c2 := (41, [.ref 0, .int (nI s), .ref (1 + 2 + 2 * s), .retAddr 0, .retAddr 0, .retAddr 0], [], (0, 0), h)) rfl (fun q2 => ?_) (fun q2 => ?_)
      · skip
        have q2 := (nI_eq (by omega) (by omega)).mp q2
        rw [show forkO σ.1 (some s) = (-(nI 5), σ.1) from (ci_f q).trans (ci_t q2)] at hp
        refine ab_W.go (mm _) 1 (c' := (40, [.ref 0, .int (nI s), .ref (1 + 2 + 2 * s), .retAddr 0, .retAddr 0, .retAddr 0], [.int (-(nI 5))], (0, 0), h)) rfl ?_
        refine ab_W.retI (mm _) (rt := some .int) (v := -(nI 5)) rfl rfl ?_
        exact hp h hR (fun _ _ => rfl)
      · skip
        have q2 : ¬ cnt (nm σ.1 s) 64 = 1 := fun z => q2 (by rw [z])
        refine ab_W.go (mm _) 1 (c' := (42, [.ref 0, .int (nI s), .ref (1 + 2 + 2 * s), .retAddr 0, .retAddr 0, .retAddr 0], [.ref (1 + 2 + 2 * s)], (0, 0), h)) rfl ?_
        refine ab_W.o (mm _) (e) rfl (c' := (45, [.ref 0, .int (nI s), .ref (1 + 2 + 2 * s), .retAddr 0, .retAddr 0, .retAddr 0], [.long (nm σ.1 s)], (0, 0), h)) rfl ?_
        refine ab_W.call (mm _) (k := 28) (av := [.long (nm σ.1 s)]) (c' := (48, [.ref 0, .int (nI s), .ref (1 + 2 + 2 * s), .retAddr 0, .retAddr 0, .retAddr 0], [], (0, 0), h)) rfl ?_
        refine sp_lowerPart _ q q2 ?_
        show ab_W _ _ _ (48, [.ref 0, .int (nI s), .ref (1 + 2 + 2 * s), .retAddr 0, .retAddr 0, .retAddr 0], [.long (lowN (nm σ.1 s))], (0, 0), h)
        refine ab_W.go (mm _) 2 (c' := (50, [.ref 0, .int (nI s), .ref (1 + 2 + 2 * s), .long (lowN (nm σ.1 s)), .retAddr 0, .retAddr 0], [.ref 0], (0, 0), h)) rfl ?_
        refine ab_W.o (mm _) (r0) rfl (c' := (53, [.ref 0, .int (nI s), .ref (1 + 2 + 2 * s), .long (lowN (nm σ.1 s)), .retAddr 0, .retAddr 0], [.ref 1], (0, 0), h)) rfl ?_
        refine ab_W.go (mm _) 2 (c' := (55, [.ref 0, .int (nI s), .ref (1 + 2 + 2 * s), .long (lowN (nm σ.1 s)), .retAddr 0, .retAddr 0], [.ref (1 + 2 + 2 * s), .ref (1 + 2 + 2 * s), .ref 1], (0, 0), h)) rfl ?_
        refine ab_W.o (mm _) (e) rfl (c' := (58, [.ref 0, .int (nI s), .ref (1 + 2 + 2 * s), .long (lowN (nm σ.1 s)), .retAddr 0, .retAddr 0], [.long (nm σ.1 s), .ref (1 + 2 + 2 * s), .ref 1], (0, 0), h)) rfl ?_
        refine ab_W.go (mm _) 4 (c' := (64, [.ref 0, .int (nI s), .ref (1 + 2 + 2 * s), .long (lowN (nm σ.1 s)), .retAddr 0, .retAddr 0], [.long ((nm σ.1 s) &&& ((lowN (nm σ.1 s)) ^^^ (-(lN 1)))), .ref (1 + 2 + 2 * s), .ref 1], (0, 0), h)) rfl ?_
        refine ab_W.topl (upp_eq _ _) ?_
        rcases free_or σ.1 with ⟨t, hf⟩ | hf
        · rw [show forkO σ.1 (some s) = _ from (ci_f q).trans (ci_f q2), frN_yes hf] at hp
          have hne : s ≠ t := fun z => by rw [z, hf.2.1] at hx; cases hx
          refine ab_W.callV (mm _) (rc.1) rfl (k := 2) (av := [.ref 1, .ref (1 + 2 + 2 * s), .long (uppN (nm σ.1 s))]) (c' := (67, [.ref 0, .int (nI s), .ref (1 + 2 + 2 * s), .long (lowN (nm σ.1 s)), .retAddr 0, .retAddr 0], [], (0, 0), h)) rfl ?_
          refine sp_addLike _ rc hs hx hf (fun h1 c1 k1 => ?_)
          show ab_W _ _ _ (67, [.ref 0, .int (nI s), .ref (1 + 2 + 2 * s), .long (lowN (nm σ.1 s)), .retAddr 0, .retAddr 0], [.int (nI t)], (0, 0), h1)
          refine ab_W.go (mm _) 3 (c' := (73, [.ref 0, .int (nI s), .ref (1 + 2 + 2 * s), .long (lowN (nm σ.1 s)), .retAddr 0, .int (nI t)], [.int (-(nI 4)), .int (nI t)], (0, 0), h1)) rfl ?_
          refine ab_W.itF (mm _) (p := (nI t) = (-(nI 4))) (c1 := (81, [.ref 0, .int (nI s), .ref (1 + 2 + 2 * s), .long (lowN (nm σ.1 s)), .retAddr 0, .int (nI t)], [], (0, 0), h1)) (c2 := (76, [.ref 0, .int (nI s), .ref (1 + 2 + 2 * s), .long (lowN (nm σ.1 s)), .retAddr 0, .int (nI t)], [], (0, 0), h1)) rfl (nI_ne4 t hf.1) ?_
          refine ab_W.go (mm _) 2 (c' := (78, [.ref 0, .int (nI s), .ref (1 + 2 + 2 * s), .long (lowN (nm σ.1 s)), .retAddr 0, .int (nI t)], [.long (lowN (nm σ.1 s)), .ref (1 + 2 + 2 * s)], (0, 0), h1)) rfl ?_
          have c1' := c1.2.2 s hs
          rw [show pr (setS σ.1 t true (uppN (nm σ.1 s)) (kn σ.1 s) (ht σ.1 s)) s = pr σ.1 s from va_up_ne _ _ hne, show nm (setS σ.1 t true (uppN (nm σ.1 s)) (kn σ.1 s) (ht σ.1 s)) s = nm σ.1 s from va_up_ne _ _ hne, show kn (setS σ.1 t true (uppN (nm σ.1 s)) (kn σ.1 s) (ht σ.1 s)) s = kn σ.1 s from va_up_ne _ _ hne, show ht (setS σ.1 t true (uppN (nm σ.1 s)) (kn σ.1 s) (ht σ.1 s)) s = ht σ.1 s from va_up_ne _ _ hne, hx] at c1'
          obtain ⟨f1, g, f2, f3⟩ := c1'
          refine ab_W.o (mm _) (f1) rfl (c' := (81, [.ref 0, .int (nI s), .ref (1 + 2 + 2 * s), .long (lowN (nm σ.1 s)), .retAddr 0, .int (nI t)], [], (0, 0), h1.set (1 + 2 + 2 * s) (.inr (3, [.int (b2i true), .long (lowN (nm σ.1 s)), .long (kn σ.1 s), .ref (1 + 2 + 2 * s + 1)])))) rfl ?_
          refine ab_W.go (mm _) 1 (c' := (83, [.ref 0, .int (nI s), .ref (1 + 2 + 2 * s), .long (lowN (nm σ.1 s)), .retAddr 0, .int (nI t)], [.int (nI t)], (0, 0), h1.set (1 + 2 + 2 * s) (.inr (3, [.int (b2i true), .long (lowN (nm σ.1 s)), .long (kn σ.1 s), .ref (1 + 2 + 2 * s + 1)])))) rfl ?_
          refine ab_W.retI (mm _) (rt := some .int) (v := nI t) rfl rfl ?_
          have c2 : cir (h1.set (1 + 2 + 2 * s) (.inr (3, [.int (b2i true), .long (lowN (nm σ.1 s)), .long (kn σ.1 s), .ref (1 + 2 + 2 * s + 1)]))) 1 _ := c1.set hs ⟨set_at f1, g, (set_ne (by omega)).trans f2, f3⟩ (fun i i1 i2 => set_ne (fun z => i1 z.symm))
          exact hp _ (hR.cur c2 (fun i hi => (set_ne (by omega)).trans (k1 i (by omega)))) (fun i hi => (set_ne (by omega)).trans (k1 i (by omega)))
        · rw [show forkO σ.1 (some s) = _ from (ci_f q).trans (ci_f q2), frN_no hf] at hp
          refine ab_W.callV (mm _) (rc.1) rfl (k := 2) (av := [.ref 1, .ref (1 + 2 + 2 * s), .long (uppN (nm σ.1 s))]) (c' := (67, [.ref 0, .int (nI s), .ref (1 + 2 + 2 * s), .long (lowN (nm σ.1 s)), .retAddr 0, .retAddr 0], [], (0, 0), h)) rfl ?_
          refine sp_addLikeN _ rc hf ?_
          show ab_W _ _ _ (67, [.ref 0, .int (nI s), .ref (1 + 2 + 2 * s), .long (lowN (nm σ.1 s)), .retAddr 0, .retAddr 0], [.int (-(nI 4))], (0, 0), h)
          refine ab_W.go (mm _) 3 (c' := (73, [.ref 0, .int (nI s), .ref (1 + 2 + 2 * s), .long (lowN (nm σ.1 s)), .retAddr 0, .int (-(nI 4))], [.int (-(nI 4)), .int (-(nI 4))], (0, 0), h)) rfl ?_
          refine ab_W.itT (mm _) (p := (-(nI 4)) = (-(nI 4))) (c1 := (81, [.ref 0, .int (nI s), .ref (1 + 2 + 2 * s), .long (lowN (nm σ.1 s)), .retAddr 0, .int (-(nI 4))], [], (0, 0), h)) (c2 := (76, [.ref 0, .int (nI s), .ref (1 + 2 + 2 * s), .long (lowN (nm σ.1 s)), .retAddr 0, .int (-(nI 4))], [], (0, 0), h)) rfl (rfl) ?_
          refine ab_W.go (mm _) 1 (c' := (83, [.ref 0, .int (nI s), .ref (1 + 2 + 2 * s), .long (lowN (nm σ.1 s)), .retAddr 0, .int (-(nI 4))], [.int (-(nI 4))], (0, 0), h)) rfl ?_
          refine ab_W.retI (mm _) (rt := some .int) (v := -(nI 4)) rfl rfl ?_
          exact hp h hR (fun _ _ => rfl)
theorem sp_peek (d : Nat) {h : ab_H} {σ : Sg} {x : Int32} (hR : relC h σ) {post : ab_P} (hp : okC h post ((peekO σ.1 (stN σ.1 x)).1) ((peekO σ.1 (stN σ.1 x)).2, σ.2)) : mCC (d + 6) kSpanStamps_peek [.ref 0, .int x] h post := by
  have r0 := hR.1
  have rc := hR.2.1
  rcases stamp_or σ.1 x with hx | ⟨s, hs, rfl, hx⟩
  · rw [stN_no hx] at hp
    refine ⟨rfl, ?_⟩
    show ab_W _ _ _ (0, [.ref 0, .int x, .retAddr 0], [], (0, 0), h)
    refine ab_W.go (mm _) 1 (c' := (1, [.ref 0, .int x, .retAddr 0], [.ref 0], (0, 0), h)) rfl ?_
    refine ab_W.o (mm _) (r0) rfl (c' := (4, [.ref 0, .int x, .retAddr 0], [.ref 1], (0, 0), h)) rfl ?_
    refine ab_W.go (mm _) 1 (c' := (5, [.ref 0, .int x, .retAddr 0], [.int x, .ref 1], (0, 0), h)) rfl ?_
    refine ab_W.callV (mm _) (rc.1) rfl (k := 1) (av := [.ref 1, .int x]) (c' := (8, [.ref 0, .int x, .retAddr 0], [], (0, 0), h)) rfl ?_
    refine sp_findN _ rc hx ?_
    show ab_W _ _ _ (8, [.ref 0, .int x, .retAddr 0], [.null], (0, 0), h)
    refine ab_W.go (mm _) 2 (c' := (10, [.ref 0, .int x, .null], [.null], (0, 0), h)) rfl ?_
    refine ab_W.go (mm _) 1 (c' := (13, [.ref 0, .int x, .null], [], (0, 0), h)) rfl ?_
    refine ab_W.go (mm _) 1 (c' := (14, [.ref 0, .int x, .null], [.int (-(nI 1))], (0, 0), h)) rfl ?_
    refine ab_W.retI (mm _) (rt := some .int) (v := -(nI 1)) rfl rfl ?_
    exact hp h hR (fun _ _ => rfl)
  · rw [stN_yes hs hx] at hp
    have e := (rc.2.2 s hs).1
    refine ⟨rfl, ?_⟩
    show ab_W _ _ _ (0, [.ref 0, .int (nI s), .retAddr 0], [], (0, 0), h)
    refine ab_W.go (mm _) 1 (c' := (1, [.ref 0, .int (nI s), .retAddr 0], [.ref 0], (0, 0), h)) rfl ?_
    refine ab_W.o (mm _) (r0) rfl (c' := (4, [.ref 0, .int (nI s), .retAddr 0], [.ref 1], (0, 0), h)) rfl ?_
    refine ab_W.go (mm _) 1 (c' := (5, [.ref 0, .int (nI s), .retAddr 0], [.int (nI s), .ref 1], (0, 0), h)) rfl ?_
    refine ab_W.callV (mm _) (rc.1) rfl (k := 1) (av := [.ref 1, .int (nI s)]) (c' := (8, [.ref 0, .int (nI s), .retAddr 0], [], (0, 0), h)) rfl ?_
    refine sp_find _ rc hs hx ?_
    show ab_W _ _ _ (8, [.ref 0, .int (nI s), .retAddr 0], [.ref (1 + 2 + 2 * s)], (0, 0), h)
    refine ab_W.go (mm _) 2 (c' := (10, [.ref 0, .int (nI s), .ref (1 + 2 + 2 * s)], [.ref (1 + 2 + 2 * s)], (0, 0), h)) rfl ?_
    refine ab_W.go (mm _) 1 (c' := (15, [.ref 0, .int (nI s), .ref (1 + 2 + 2 * s)], [], (0, 0), h)) rfl ?_
    refine ab_W.go (mm _) 1 (c' := (16, [.ref 0, .int (nI s), .ref (1 + 2 + 2 * s)], [.ref 0], (0, 0), h)) rfl ?_
    refine ab_W.o (mm _) (r0) rfl (c' := (19, [.ref 0, .int (nI s), .ref (1 + 2 + 2 * s)], [.ref 1], (0, 0), h)) rfl ?_
    refine ab_W.go (mm _) 2 (c' := (21, [.ref 0, .int (nI s), .ref (1 + 2 + 2 * s)], [.long (lN 0), .ref (1 + 2 + 2 * s), .ref 1], (0, 0), h)) rfl ?_
    rcases free_or σ.1 with ⟨t, hf⟩ | hf
    · simp only [peekO, frN_yes hf] at hp
      refine ab_W.callV (mm _) (rc.1) rfl (k := 2) (av := [.ref 1, .ref (1 + 2 + 2 * s), .long (lN 0)]) (c' := (24, [.ref 0, .int (nI s), .ref (1 + 2 + 2 * s)], [], (0, 0), h)) rfl ?_
      refine sp_addLike _ rc hs hx hf (fun h1 c1 k1 => ?_)
      show ab_W _ _ _ (24, [.ref 0, .int (nI s), .ref (1 + 2 + 2 * s)], [.int (nI t)], (0, 0), h1)
      refine ab_W.retI (mm _) (rt := some .int) (v := nI t) rfl rfl ?_
      exact hp _ (hR.cur c1 (fun i hi => k1 i (by omega))) (fun i hi => k1 i (by omega))
    · simp only [peekO, frN_no hf] at hp
      refine ab_W.callV (mm _) (rc.1) rfl (k := 2) (av := [.ref 1, .ref (1 + 2 + 2 * s), .long (lN 0)]) (c' := (24, [.ref 0, .int (nI s), .ref (1 + 2 + 2 * s)], [], (0, 0), h)) rfl ?_
      refine sp_addLikeN _ rc hf ?_
      show ab_W _ _ _ (24, [.ref 0, .int (nI s), .ref (1 + 2 + 2 * s)], [.int (-(nI 4))], (0, 0), h)
      refine ab_W.retI (mm _) (rt := some .int) (v := -(nI 4)) rfl rfl ?_
      exact hp h hR (fun _ _ => rfl)
theorem sp_drop (d : Nat) {h : ab_H} {σ : Sg} {x : Int32} (hR : relC h σ) {post : ab_P} (hp : okC h post ((dropO σ.1 (stN σ.1 x)).1) ((dropO σ.1 (stN σ.1 x)).2, σ.2)) : mCC (d + 6) kSpanStamps_drop [.ref 0, .int x] h post := by
  have r0 := hR.1
  have rc := hR.2.1
  rcases stamp_or σ.1 x with hx | ⟨s, hs, rfl, hx⟩
  · rw [stN_no hx] at hp
    refine ⟨rfl, ?_⟩
    show ab_W _ _ _ (0, [.ref 0, .int x, .retAddr 0], [], (0, 0), h)
    refine ab_W.go (mm _) 1 (c' := (1, [.ref 0, .int x, .retAddr 0], [.ref 0], (0, 0), h)) rfl ?_
    refine ab_W.o (mm _) (r0) rfl (c' := (4, [.ref 0, .int x, .retAddr 0], [.ref 1], (0, 0), h)) rfl ?_
    refine ab_W.go (mm _) 1 (c' := (5, [.ref 0, .int x, .retAddr 0], [.int x, .ref 1], (0, 0), h)) rfl ?_
    refine ab_W.callV (mm _) (rc.1) rfl (k := 1) (av := [.ref 1, .int x]) (c' := (8, [.ref 0, .int x, .retAddr 0], [], (0, 0), h)) rfl ?_
    refine sp_findN _ rc hx ?_
    show ab_W _ _ _ (8, [.ref 0, .int x, .retAddr 0], [.null], (0, 0), h)
    refine ab_W.go (mm _) 2 (c' := (10, [.ref 0, .int x, .null], [.null], (0, 0), h)) rfl ?_
    refine ab_W.go (mm _) 1 (c' := (13, [.ref 0, .int x, .null], [], (0, 0), h)) rfl ?_
    refine ab_W.go (mm _) 1 (c' := (14, [.ref 0, .int x, .null], [.int (-(nI 1))], (0, 0), h)) rfl ?_
    refine ab_W.retI (mm _) (rt := some .int) (v := -(nI 1)) rfl rfl ?_
    exact hp h hR (fun _ _ => rfl)
  · rw [stN_yes hs hx] at hp
    have e := (rc.2.2 s hs).1
    refine ⟨rfl, ?_⟩
    show ab_W _ _ _ (0, [.ref 0, .int (nI s), .retAddr 0], [], (0, 0), h)
    refine ab_W.go (mm _) 1 (c' := (1, [.ref 0, .int (nI s), .retAddr 0], [.ref 0], (0, 0), h)) rfl ?_
    refine ab_W.o (mm _) (r0) rfl (c' := (4, [.ref 0, .int (nI s), .retAddr 0], [.ref 1], (0, 0), h)) rfl ?_
    refine ab_W.go (mm _) 1 (c' := (5, [.ref 0, .int (nI s), .retAddr 0], [.int (nI s), .ref 1], (0, 0), h)) rfl ?_
    refine ab_W.callV (mm _) (rc.1) rfl (k := 1) (av := [.ref 1, .int (nI s)]) (c' := (8, [.ref 0, .int (nI s), .retAddr 0], [], (0, 0), h)) rfl ?_
    refine sp_find _ rc hs hx ?_
    show ab_W _ _ _ (8, [.ref 0, .int (nI s), .retAddr 0], [.ref (1 + 2 + 2 * s)], (0, 0), h)
    refine ab_W.go (mm _) 2 (c' := (10, [.ref 0, .int (nI s), .ref (1 + 2 + 2 * s)], [.ref (1 + 2 + 2 * s)], (0, 0), h)) rfl ?_
    refine ab_W.go (mm _) 1 (c' := (15, [.ref 0, .int (nI s), .ref (1 + 2 + 2 * s)], [], (0, 0), h)) rfl ?_
    refine ab_W.go (mm _) 1 (c' := (16, [.ref 0, .int (nI s), .ref (1 + 2 + 2 * s)], [.ref (1 + 2 + 2 * s)], (0, 0), h)) rfl ?_
    refine ab_W.o (mm _) (e) rfl (c' := (19, [.ref 0, .int (nI s), .ref (1 + 2 + 2 * s)], [.long (nm σ.1 s)], (0, 0), h)) rfl ?_
    refine ab_W.go (mm _) 2 (c' := (21, [.ref 0, .int (nI s), .ref (1 + 2 + 2 * s)], [.int (lg_cmp (nm σ.1 s) (lN 0))], (0, 0), h)) rfl ?_
    refine ab_W.ite (mm _) (p := (lg_cmp (nm σ.1 s) (lN 0)) = 0) (c1 := (27, [.ref 0, .int (nI s), .ref (1 + 2 + 2 * s)], [], (0, 0), h)) (c2 := (24, [.ref 0, .int (nI s), .ref (1 + 2 + 2 * s)], [], (0, 0), h)) rfl (fun q => ?_) (fun q => ?_)
    · skip
      have q := (lg_cmp0 _ _).mp q
      rw [show dropO σ.1 (some s) = _ from ci_t q] at hp
      refine ab_W.go (mm _) 2 (c' := (29, [.ref 0, .int (nI s), .ref (1 + 2 + 2 * s)], [.int (nI 0), .ref (1 + 2 + 2 * s)], (0, 0), h)) rfl ?_
      obtain ⟨f1, g, f2, f3⟩ := rc.2.2 s hs
      refine ab_W.o (mm _) (f1) rfl (c' := (32, [.ref 0, .int (nI s), .ref (1 + 2 + 2 * s)], [], (0, 0), h.set (1 + 2 + 2 * s) (.inr (3, [.int (b2i false), .long (nm σ.1 s), .long (kn σ.1 s), .ref (1 + 2 + 2 * s + 1)])))) rfl ?_
      have c2 : cir (h.set (1 + 2 + 2 * s) (.inr (3, [.int (b2i false), .long (nm σ.1 s), .long (kn σ.1 s), .ref (1 + 2 + 2 * s + 1)]))) 1 (dropC σ.1 s) := rc.set hs ⟨set_at f1, g, (set_ne (by omega)).trans f2, f3⟩ (fun i i1 i2 => set_ne (fun z => i1 z.symm))
      obtain ⟨h1, e1⟩ : ∃ h1, h1 = h.set (1 + 2 + 2 * s) (.inr (3, [.int (b2i false), .long (nm σ.1 s), .long (kn σ.1 s), .ref (1 + 2 + 2 * s + 1)])) := ⟨_, rfl⟩
      have k1 : ∀ i, i < 1 ∨ 27 ≤ i → h1[i]? = h[i]? := fun i hi => by rw [e1]; exact set_ne (by omega)
      rw [← e1] at c2
      refine ab_W.hp (e1.symm) ?_
      show ab_W _ _ _ (32, [.ref 0, .int (nI s), .ref (1 + 2 + 2 * s)], [], (0, 0), h1)
      refine ab_W.go (mm _) 1 (c' := (33, [.ref 0, .int (nI s), .ref (1 + 2 + 2 * s)], [.ref 0], (0, 0), h1)) rfl ?_
      refine ab_W.o (mm _) ((k1 0 (by omega)).trans r0) rfl (c' := (36, [.ref 0, .int (nI s), .ref (1 + 2 + 2 * s)], [.ref 1], (0, 0), h1)) rfl ?_
      refine ab_W.callV (mm _) (c2.1) rfl (k := 4) (av := [.ref 1]) (c' := (39, [.ref 0, .int (nI s), .ref (1 + 2 + 2 * s)], [], (0, 0), h1)) rfl ?_
      refine sp_howMany _ c2 ?_
      show ab_W _ _ _ (39, [.ref 0, .int (nI s), .ref (1 + 2 + 2 * s)], [.int (nI (cb (pr (dropC σ.1 s)) 12))], (0, 0), h1)
      refine ab_W.retI (mm _) (rt := some .int) (v := nI (cb (pr (dropC σ.1 s)) 12)) rfl rfl ?_
      exact hp _ (hR.cur c2 k1) (fun i hi => k1 i (by omega))
    · skip
      have q : ¬ nm σ.1 s = lN 0 := fun z => q ((lg_cmp0 _ _).mpr z)
      rw [show dropO σ.1 (some s) = _ from ci_f q] at hp
      refine ab_W.go (mm _) 1 (c' := (26, [.ref 0, .int (nI s), .ref (1 + 2 + 2 * s)], [.int (-(nI 5))], (0, 0), h)) rfl ?_
      refine ab_W.retI (mm _) (rt := some .int) (v := -(nI 5)) rfl rfl ?_
      exact hp h hR (fun _ _ => rfl)
theorem sp_order (d : Nat) {h : ab_H} {σ : Sg} {x : Int32} {y : Int32} (hR : relC h σ) {post : ab_P} (hp : okC h post (orderO σ.1 (stN σ.1 x) (stN σ.1 y)) (σ)) : mCC (d + 3) kSpanStamps_order [.ref 0, .int x, .int y] h post := by
  have r0 := hR.1
  have rc := hR.2.1
  rcases stamp_or σ.1 x with hx | ⟨s, hs, rfl, hx⟩
  · rw [stN_no hx] at hp
    rcases stamp_or σ.1 y with hy | ⟨t, ht', rfl, hy⟩
    · refine ⟨rfl, ?_⟩
      show ab_W _ _ _ (0, [.ref 0, .int x, .int y, .retAddr 0, .retAddr 0], [], (0, 0), h)
      refine ab_W.go (mm _) 1 (c' := (1, [.ref 0, .int x, .int y, .retAddr 0, .retAddr 0], [.ref 0], (0, 0), h)) rfl ?_
      refine ab_W.o (mm _) (r0) rfl (c' := (4, [.ref 0, .int x, .int y, .retAddr 0, .retAddr 0], [.ref 1], (0, 0), h)) rfl ?_
      refine ab_W.go (mm _) 1 (c' := (5, [.ref 0, .int x, .int y, .retAddr 0, .retAddr 0], [.int x, .ref 1], (0, 0), h)) rfl ?_
      refine ab_W.callV (mm _) (rc.1) rfl (k := 1) (av := [.ref 1, .int x]) (c' := (8, [.ref 0, .int x, .int y, .retAddr 0, .retAddr 0], [], (0, 0), h)) rfl ?_
      refine sp_findN _ rc hx ?_
      show ab_W _ _ _ (8, [.ref 0, .int x, .int y, .retAddr 0, .retAddr 0], [.null], (0, 0), h)
      refine ab_W.go (mm _) 2 (c' := (10, [.ref 0, .int x, .int y, .null, .retAddr 0], [.ref 0], (0, 0), h)) rfl ?_
      refine ab_W.o (mm _) (r0) rfl (c' := (13, [.ref 0, .int x, .int y, .null, .retAddr 0], [.ref 1], (0, 0), h)) rfl ?_
      refine ab_W.go (mm _) 1 (c' := (14, [.ref 0, .int x, .int y, .null, .retAddr 0], [.int y, .ref 1], (0, 0), h)) rfl ?_
      refine ab_W.callV (mm _) (rc.1) rfl (k := 1) (av := [.ref 1, .int y]) (c' := (17, [.ref 0, .int x, .int y, .null, .retAddr 0], [], (0, 0), h)) rfl ?_
      refine sp_findN _ rc hy ?_
      show ab_W _ _ _ (17, [.ref 0, .int x, .int y, .null, .retAddr 0], [.null], (0, 0), h)
      refine ab_W.go (mm _) 2 (c' := (20, [.ref 0, .int x, .int y, .null, .null], [.null], (0, 0), h)) rfl ?_
      refine ab_W.go (mm _) 1 (c' := (28, [.ref 0, .int x, .int y, .null, .null], [], (0, 0), h)) rfl ?_
      refine ab_W.go (mm _) 1 (c' := (29, [.ref 0, .int x, .int y, .null, .null], [.int (-(nI 1))], (0, 0), h)) rfl ?_
      refine ab_W.retI (mm _) (rt := some .int) (v := -(nI 1)) rfl rfl ?_
      exact hp h hR (fun _ _ => rfl)
    · refine ⟨rfl, ?_⟩
      show ab_W _ _ _ (0, [.ref 0, .int x, .int (nI t), .retAddr 0, .retAddr 0], [], (0, 0), h)
      refine ab_W.go (mm _) 1 (c' := (1, [.ref 0, .int x, .int (nI t), .retAddr 0, .retAddr 0], [.ref 0], (0, 0), h)) rfl ?_
      refine ab_W.o (mm _) (r0) rfl (c' := (4, [.ref 0, .int x, .int (nI t), .retAddr 0, .retAddr 0], [.ref 1], (0, 0), h)) rfl ?_
      refine ab_W.go (mm _) 1 (c' := (5, [.ref 0, .int x, .int (nI t), .retAddr 0, .retAddr 0], [.int x, .ref 1], (0, 0), h)) rfl ?_
      refine ab_W.callV (mm _) (rc.1) rfl (k := 1) (av := [.ref 1, .int x]) (c' := (8, [.ref 0, .int x, .int (nI t), .retAddr 0, .retAddr 0], [], (0, 0), h)) rfl ?_
      refine sp_findN _ rc hx ?_
      show ab_W _ _ _ (8, [.ref 0, .int x, .int (nI t), .retAddr 0, .retAddr 0], [.null], (0, 0), h)
      refine ab_W.go (mm _) 2 (c' := (10, [.ref 0, .int x, .int (nI t), .null, .retAddr 0], [.ref 0], (0, 0), h)) rfl ?_
      refine ab_W.o (mm _) (r0) rfl (c' := (13, [.ref 0, .int x, .int (nI t), .null, .retAddr 0], [.ref 1], (0, 0), h)) rfl ?_
      refine ab_W.go (mm _) 1 (c' := (14, [.ref 0, .int x, .int (nI t), .null, .retAddr 0], [.int (nI t), .ref 1], (0, 0), h)) rfl ?_
      refine ab_W.callV (mm _) (rc.1) rfl (k := 1) (av := [.ref 1, .int (nI t)]) (c' := (17, [.ref 0, .int x, .int (nI t), .null, .retAddr 0], [], (0, 0), h)) rfl ?_
      refine sp_find _ rc ht' hy ?_
      show ab_W _ _ _ (17, [.ref 0, .int x, .int (nI t), .null, .retAddr 0], [.ref (1 + 2 + 2 * t)], (0, 0), h)
      refine ab_W.go (mm _) 2 (c' := (20, [.ref 0, .int x, .int (nI t), .null, .ref (1 + 2 + 2 * t)], [.null], (0, 0), h)) rfl ?_
      refine ab_W.go (mm _) 1 (c' := (28, [.ref 0, .int x, .int (nI t), .null, .ref (1 + 2 + 2 * t)], [], (0, 0), h)) rfl ?_
      refine ab_W.go (mm _) 1 (c' := (29, [.ref 0, .int x, .int (nI t), .null, .ref (1 + 2 + 2 * t)], [.int (-(nI 1))], (0, 0), h)) rfl ?_
      refine ab_W.retI (mm _) (rt := some .int) (v := -(nI 1)) rfl rfl ?_
      exact hp h hR (fun _ _ => rfl)
  · rw [stN_yes hs hx] at hp
    rcases stamp_or σ.1 y with hy | ⟨t, ht', rfl, hy⟩
    · rw [stN_no hy] at hp
      refine ⟨rfl, ?_⟩
      show ab_W _ _ _ (0, [.ref 0, .int (nI s), .int y, .retAddr 0, .retAddr 0], [], (0, 0), h)
      refine ab_W.go (mm _) 1 (c' := (1, [.ref 0, .int (nI s), .int y, .retAddr 0, .retAddr 0], [.ref 0], (0, 0), h)) rfl ?_
      refine ab_W.o (mm _) (r0) rfl (c' := (4, [.ref 0, .int (nI s), .int y, .retAddr 0, .retAddr 0], [.ref 1], (0, 0), h)) rfl ?_
      refine ab_W.go (mm _) 1 (c' := (5, [.ref 0, .int (nI s), .int y, .retAddr 0, .retAddr 0], [.int (nI s), .ref 1], (0, 0), h)) rfl ?_
      refine ab_W.callV (mm _) (rc.1) rfl (k := 1) (av := [.ref 1, .int (nI s)]) (c' := (8, [.ref 0, .int (nI s), .int y, .retAddr 0, .retAddr 0], [], (0, 0), h)) rfl ?_
      refine sp_find _ rc hs hx ?_
      show ab_W _ _ _ (8, [.ref 0, .int (nI s), .int y, .retAddr 0, .retAddr 0], [.ref (1 + 2 + 2 * s)], (0, 0), h)
      refine ab_W.go (mm _) 2 (c' := (10, [.ref 0, .int (nI s), .int y, .ref (1 + 2 + 2 * s), .retAddr 0], [.ref 0], (0, 0), h)) rfl ?_
      refine ab_W.o (mm _) (r0) rfl (c' := (13, [.ref 0, .int (nI s), .int y, .ref (1 + 2 + 2 * s), .retAddr 0], [.ref 1], (0, 0), h)) rfl ?_
      refine ab_W.go (mm _) 1 (c' := (14, [.ref 0, .int (nI s), .int y, .ref (1 + 2 + 2 * s), .retAddr 0], [.int y, .ref 1], (0, 0), h)) rfl ?_
      refine ab_W.callV (mm _) (rc.1) rfl (k := 1) (av := [.ref 1, .int y]) (c' := (17, [.ref 0, .int (nI s), .int y, .ref (1 + 2 + 2 * s), .retAddr 0], [], (0, 0), h)) rfl ?_
      refine sp_findN _ rc hy ?_
      show ab_W _ _ _ (17, [.ref 0, .int (nI s), .int y, .ref (1 + 2 + 2 * s), .retAddr 0], [.null], (0, 0), h)
      refine ab_W.go (mm _) 2 (c' := (20, [.ref 0, .int (nI s), .int y, .ref (1 + 2 + 2 * s), .null], [.ref (1 + 2 + 2 * s)], (0, 0), h)) rfl ?_
      refine ab_W.go (mm _) 1 (c' := (23, [.ref 0, .int (nI s), .int y, .ref (1 + 2 + 2 * s), .null], [], (0, 0), h)) rfl ?_
      refine ab_W.go (mm _) 1 (c' := (25, [.ref 0, .int (nI s), .int y, .ref (1 + 2 + 2 * s), .null], [.null], (0, 0), h)) rfl ?_
      refine ab_W.go (mm _) 1 (c' := (28, [.ref 0, .int (nI s), .int y, .ref (1 + 2 + 2 * s), .null], [], (0, 0), h)) rfl ?_
      refine ab_W.go (mm _) 1 (c' := (29, [.ref 0, .int (nI s), .int y, .ref (1 + 2 + 2 * s), .null], [.int (-(nI 1))], (0, 0), h)) rfl ?_
      refine ab_W.retI (mm _) (rt := some .int) (v := -(nI 1)) rfl rfl ?_
      exact hp h hR (fun _ _ => rfl)
    · rw [stN_yes ht' hy] at hp
      have e := (rc.2.2 s hs).1
      have e' := (rc.2.2 t ht').1
      refine ⟨rfl, ?_⟩
      show ab_W _ _ _ (0, [.ref 0, .int (nI s), .int (nI t), .retAddr 0, .retAddr 0], [], (0, 0), h)
      refine ab_W.go (mm _) 1 (c' := (1, [.ref 0, .int (nI s), .int (nI t), .retAddr 0, .retAddr 0], [.ref 0], (0, 0), h)) rfl ?_
      refine ab_W.o (mm _) (r0) rfl (c' := (4, [.ref 0, .int (nI s), .int (nI t), .retAddr 0, .retAddr 0], [.ref 1], (0, 0), h)) rfl ?_
      refine ab_W.go (mm _) 1 (c' := (5, [.ref 0, .int (nI s), .int (nI t), .retAddr 0, .retAddr 0], [.int (nI s), .ref 1], (0, 0), h)) rfl ?_
      refine ab_W.callV (mm _) (rc.1) rfl (k := 1) (av := [.ref 1, .int (nI s)]) (c' := (8, [.ref 0, .int (nI s), .int (nI t), .retAddr 0, .retAddr 0], [], (0, 0), h)) rfl ?_
      refine sp_find _ rc hs hx ?_
      show ab_W _ _ _ (8, [.ref 0, .int (nI s), .int (nI t), .retAddr 0, .retAddr 0], [.ref (1 + 2 + 2 * s)], (0, 0), h)
      refine ab_W.go (mm _) 2 (c' := (10, [.ref 0, .int (nI s), .int (nI t), .ref (1 + 2 + 2 * s), .retAddr 0], [.ref 0], (0, 0), h)) rfl ?_
      refine ab_W.o (mm _) (r0) rfl (c' := (13, [.ref 0, .int (nI s), .int (nI t), .ref (1 + 2 + 2 * s), .retAddr 0], [.ref 1], (0, 0), h)) rfl ?_
      refine ab_W.go (mm _) 1 (c' := (14, [.ref 0, .int (nI s), .int (nI t), .ref (1 + 2 + 2 * s), .retAddr 0], [.int (nI t), .ref 1], (0, 0), h)) rfl ?_
      refine ab_W.callV (mm _) (rc.1) rfl (k := 1) (av := [.ref 1, .int (nI t)]) (c' := (17, [.ref 0, .int (nI s), .int (nI t), .ref (1 + 2 + 2 * s), .retAddr 0], [], (0, 0), h)) rfl ?_
      refine sp_find _ rc ht' hy ?_
      show ab_W _ _ _ (17, [.ref 0, .int (nI s), .int (nI t), .ref (1 + 2 + 2 * s), .retAddr 0], [.ref (1 + 2 + 2 * t)], (0, 0), h)
      refine ab_W.go (mm _) 2 (c' := (20, [.ref 0, .int (nI s), .int (nI t), .ref (1 + 2 + 2 * s), .ref (1 + 2 + 2 * t)], [.ref (1 + 2 + 2 * s)], (0, 0), h)) rfl ?_
      refine ab_W.go (mm _) 1 (c' := (23, [.ref 0, .int (nI s), .int (nI t), .ref (1 + 2 + 2 * s), .ref (1 + 2 + 2 * t)], [], (0, 0), h)) rfl ?_
      refine ab_W.go (mm _) 1 (c' := (25, [.ref 0, .int (nI s), .int (nI t), .ref (1 + 2 + 2 * s), .ref (1 + 2 + 2 * t)], [.ref (1 + 2 + 2 * t)], (0, 0), h)) rfl ?_
      refine ab_W.go (mm _) 1 (c' := (30, [.ref 0, .int (nI s), .int (nI t), .ref (1 + 2 + 2 * s), .ref (1 + 2 + 2 * t)], [], (0, 0), h)) rfl ?_
      refine ab_W.go (mm _) 2 (c' := (33, [.ref 0, .int (nI s), .int (nI t), .ref (1 + 2 + 2 * s), .ref (1 + 2 + 2 * t)], [.ref (1 + 2 + 2 * t), .ref (1 + 2 + 2 * s)], (0, 0), h)) rfl ?_
      refine ab_W.callV (mm _) (e) rfl (k := 40) (av := [.ref (1 + 2 + 2 * s), .ref (1 + 2 + 2 * t)]) (c' := (36, [.ref 0, .int (nI s), .int (nI t), .ref (1 + 2 + 2 * s), .ref (1 + 2 + 2 * t)], [], (0, 0), h)) rfl ?_
      refine sp_compare _ (rc.2.2 s hs) (rc.2.2 t ht') ?_
      show ab_W _ _ _ (36, [.ref 0, .int (nI s), .int (nI t), .ref (1 + 2 + 2 * s), .ref (1 + 2 + 2 * t)], [.int (nI (ordN (ht σ.1 s) (ht σ.1 t)))], (0, 0), h)
      refine ab_W.retI (mm _) (rt := some .int) (v := nI (ordN (ht σ.1 s) (ht σ.1 t))) rfl rfl ?_
      exact hp h hR (fun _ _ => rfl)
theorem sp_hear (d : Nat) {h : ab_H} {σ : Sg} {x : Int32} {y : Int32} (hR : relC h σ) {post : ab_P} (hp : okC h post ((hearO σ.1 (stN σ.1 x) (stN σ.1 y)).1) ((hearO σ.1 (stN σ.1 x) (stN σ.1 y)).2, σ.2)) : mCC (d + 3) kSpanStamps_hear [.ref 0, .int x, .int y] h post := by
  have r0 := hR.1
  have rc := hR.2.1
  rcases stamp_or σ.1 x with hx | ⟨s, hs, rfl, hx⟩
  · rw [stN_no hx] at hp
    rcases stamp_or σ.1 y with hy | ⟨t, ht', rfl, hy⟩
    · refine ⟨rfl, ?_⟩
      show ab_W _ _ _ (0, [.ref 0, .int x, .int y, .retAddr 0, .retAddr 0], [], (0, 0), h)
      refine ab_W.go (mm _) 1 (c' := (1, [.ref 0, .int x, .int y, .retAddr 0, .retAddr 0], [.ref 0], (0, 0), h)) rfl ?_
      refine ab_W.o (mm _) (r0) rfl (c' := (4, [.ref 0, .int x, .int y, .retAddr 0, .retAddr 0], [.ref 1], (0, 0), h)) rfl ?_
      refine ab_W.go (mm _) 1 (c' := (5, [.ref 0, .int x, .int y, .retAddr 0, .retAddr 0], [.int x, .ref 1], (0, 0), h)) rfl ?_
      refine ab_W.callV (mm _) (rc.1) rfl (k := 1) (av := [.ref 1, .int x]) (c' := (8, [.ref 0, .int x, .int y, .retAddr 0, .retAddr 0], [], (0, 0), h)) rfl ?_
      refine sp_findN _ rc hx ?_
      show ab_W _ _ _ (8, [.ref 0, .int x, .int y, .retAddr 0, .retAddr 0], [.null], (0, 0), h)
      refine ab_W.go (mm _) 2 (c' := (10, [.ref 0, .int x, .int y, .null, .retAddr 0], [.ref 0], (0, 0), h)) rfl ?_
      refine ab_W.o (mm _) (r0) rfl (c' := (13, [.ref 0, .int x, .int y, .null, .retAddr 0], [.ref 1], (0, 0), h)) rfl ?_
      refine ab_W.go (mm _) 1 (c' := (14, [.ref 0, .int x, .int y, .null, .retAddr 0], [.int y, .ref 1], (0, 0), h)) rfl ?_
      refine ab_W.callV (mm _) (rc.1) rfl (k := 1) (av := [.ref 1, .int y]) (c' := (17, [.ref 0, .int x, .int y, .null, .retAddr 0], [], (0, 0), h)) rfl ?_
      refine sp_findN _ rc hy ?_
      show ab_W _ _ _ (17, [.ref 0, .int x, .int y, .null, .retAddr 0], [.null], (0, 0), h)
      refine ab_W.go (mm _) 2 (c' := (20, [.ref 0, .int x, .int y, .null, .null], [.null], (0, 0), h)) rfl ?_
      refine ab_W.go (mm _) 1 (c' := (28, [.ref 0, .int x, .int y, .null, .null], [], (0, 0), h)) rfl ?_
      refine ab_W.go (mm _) 1 (c' := (29, [.ref 0, .int x, .int y, .null, .null], [.int (-(nI 1))], (0, 0), h)) rfl ?_
      refine ab_W.retI (mm _) (rt := some .int) (v := -(nI 1)) rfl rfl ?_
      exact hp h hR (fun _ _ => rfl)
    · refine ⟨rfl, ?_⟩
      show ab_W _ _ _ (0, [.ref 0, .int x, .int (nI t), .retAddr 0, .retAddr 0], [], (0, 0), h)
      refine ab_W.go (mm _) 1 (c' := (1, [.ref 0, .int x, .int (nI t), .retAddr 0, .retAddr 0], [.ref 0], (0, 0), h)) rfl ?_
      refine ab_W.o (mm _) (r0) rfl (c' := (4, [.ref 0, .int x, .int (nI t), .retAddr 0, .retAddr 0], [.ref 1], (0, 0), h)) rfl ?_
      refine ab_W.go (mm _) 1 (c' := (5, [.ref 0, .int x, .int (nI t), .retAddr 0, .retAddr 0], [.int x, .ref 1], (0, 0), h)) rfl ?_
      refine ab_W.callV (mm _) (rc.1) rfl (k := 1) (av := [.ref 1, .int x]) (c' := (8, [.ref 0, .int x, .int (nI t), .retAddr 0, .retAddr 0], [], (0, 0), h)) rfl ?_
      refine sp_findN _ rc hx ?_
      show ab_W _ _ _ (8, [.ref 0, .int x, .int (nI t), .retAddr 0, .retAddr 0], [.null], (0, 0), h)
      refine ab_W.go (mm _) 2 (c' := (10, [.ref 0, .int x, .int (nI t), .null, .retAddr 0], [.ref 0], (0, 0), h)) rfl ?_
      refine ab_W.o (mm _) (r0) rfl (c' := (13, [.ref 0, .int x, .int (nI t), .null, .retAddr 0], [.ref 1], (0, 0), h)) rfl ?_
      refine ab_W.go (mm _) 1 (c' := (14, [.ref 0, .int x, .int (nI t), .null, .retAddr 0], [.int (nI t), .ref 1], (0, 0), h)) rfl ?_
      refine ab_W.callV (mm _) (rc.1) rfl (k := 1) (av := [.ref 1, .int (nI t)]) (c' := (17, [.ref 0, .int x, .int (nI t), .null, .retAddr 0], [], (0, 0), h)) rfl ?_
      refine sp_find _ rc ht' hy ?_
      show ab_W _ _ _ (17, [.ref 0, .int x, .int (nI t), .null, .retAddr 0], [.ref (1 + 2 + 2 * t)], (0, 0), h)
      refine ab_W.go (mm _) 2 (c' := (20, [.ref 0, .int x, .int (nI t), .null, .ref (1 + 2 + 2 * t)], [.null], (0, 0), h)) rfl ?_
      refine ab_W.go (mm _) 1 (c' := (28, [.ref 0, .int x, .int (nI t), .null, .ref (1 + 2 + 2 * t)], [], (0, 0), h)) rfl ?_
      refine ab_W.go (mm _) 1 (c' := (29, [.ref 0, .int x, .int (nI t), .null, .ref (1 + 2 + 2 * t)], [.int (-(nI 1))], (0, 0), h)) rfl ?_
      refine ab_W.retI (mm _) (rt := some .int) (v := -(nI 1)) rfl rfl ?_
      exact hp h hR (fun _ _ => rfl)
  · rw [stN_yes hs hx] at hp
    rcases stamp_or σ.1 y with hy | ⟨t, ht', rfl, hy⟩
    · rw [stN_no hy] at hp
      refine ⟨rfl, ?_⟩
      show ab_W _ _ _ (0, [.ref 0, .int (nI s), .int y, .retAddr 0, .retAddr 0], [], (0, 0), h)
      refine ab_W.go (mm _) 1 (c' := (1, [.ref 0, .int (nI s), .int y, .retAddr 0, .retAddr 0], [.ref 0], (0, 0), h)) rfl ?_
      refine ab_W.o (mm _) (r0) rfl (c' := (4, [.ref 0, .int (nI s), .int y, .retAddr 0, .retAddr 0], [.ref 1], (0, 0), h)) rfl ?_
      refine ab_W.go (mm _) 1 (c' := (5, [.ref 0, .int (nI s), .int y, .retAddr 0, .retAddr 0], [.int (nI s), .ref 1], (0, 0), h)) rfl ?_
      refine ab_W.callV (mm _) (rc.1) rfl (k := 1) (av := [.ref 1, .int (nI s)]) (c' := (8, [.ref 0, .int (nI s), .int y, .retAddr 0, .retAddr 0], [], (0, 0), h)) rfl ?_
      refine sp_find _ rc hs hx ?_
      show ab_W _ _ _ (8, [.ref 0, .int (nI s), .int y, .retAddr 0, .retAddr 0], [.ref (1 + 2 + 2 * s)], (0, 0), h)
      refine ab_W.go (mm _) 2 (c' := (10, [.ref 0, .int (nI s), .int y, .ref (1 + 2 + 2 * s), .retAddr 0], [.ref 0], (0, 0), h)) rfl ?_
      refine ab_W.o (mm _) (r0) rfl (c' := (13, [.ref 0, .int (nI s), .int y, .ref (1 + 2 + 2 * s), .retAddr 0], [.ref 1], (0, 0), h)) rfl ?_
      refine ab_W.go (mm _) 1 (c' := (14, [.ref 0, .int (nI s), .int y, .ref (1 + 2 + 2 * s), .retAddr 0], [.int y, .ref 1], (0, 0), h)) rfl ?_
      refine ab_W.callV (mm _) (rc.1) rfl (k := 1) (av := [.ref 1, .int y]) (c' := (17, [.ref 0, .int (nI s), .int y, .ref (1 + 2 + 2 * s), .retAddr 0], [], (0, 0), h)) rfl ?_
      refine sp_findN _ rc hy ?_
      show ab_W _ _ _ (17, [.ref 0, .int (nI s), .int y, .ref (1 + 2 + 2 * s), .retAddr 0], [.null], (0, 0), h)
      refine ab_W.go (mm _) 2 (c' := (20, [.ref 0, .int (nI s), .int y, .ref (1 + 2 + 2 * s), .null], [.ref (1 + 2 + 2 * s)], (0, 0), h)) rfl ?_
      refine ab_W.go (mm _) 1 (c' := (23, [.ref 0, .int (nI s), .int y, .ref (1 + 2 + 2 * s), .null], [], (0, 0), h)) rfl ?_
      refine ab_W.go (mm _) 1 (c' := (25, [.ref 0, .int (nI s), .int y, .ref (1 + 2 + 2 * s), .null], [.null], (0, 0), h)) rfl ?_
      refine ab_W.go (mm _) 1 (c' := (28, [.ref 0, .int (nI s), .int y, .ref (1 + 2 + 2 * s), .null], [], (0, 0), h)) rfl ?_
      refine ab_W.go (mm _) 1 (c' := (29, [.ref 0, .int (nI s), .int y, .ref (1 + 2 + 2 * s), .null], [.int (-(nI 1))], (0, 0), h)) rfl ?_
      refine ab_W.retI (mm _) (rt := some .int) (v := -(nI 1)) rfl rfl ?_
      exact hp h hR (fun _ _ => rfl)
    · rw [stN_yes ht' hy] at hp
      have e := (rc.2.2 s hs).1
      have e' := (rc.2.2 t ht').1
      refine ⟨rfl, ?_⟩
      show ab_W _ _ _ (0, [.ref 0, .int (nI s), .int (nI t), .retAddr 0, .retAddr 0], [], (0, 0), h)
      refine ab_W.go (mm _) 1 (c' := (1, [.ref 0, .int (nI s), .int (nI t), .retAddr 0, .retAddr 0], [.ref 0], (0, 0), h)) rfl ?_
      refine ab_W.o (mm _) (r0) rfl (c' := (4, [.ref 0, .int (nI s), .int (nI t), .retAddr 0, .retAddr 0], [.ref 1], (0, 0), h)) rfl ?_
      refine ab_W.go (mm _) 1 (c' := (5, [.ref 0, .int (nI s), .int (nI t), .retAddr 0, .retAddr 0], [.int (nI s), .ref 1], (0, 0), h)) rfl ?_
      refine ab_W.callV (mm _) (rc.1) rfl (k := 1) (av := [.ref 1, .int (nI s)]) (c' := (8, [.ref 0, .int (nI s), .int (nI t), .retAddr 0, .retAddr 0], [], (0, 0), h)) rfl ?_
      refine sp_find _ rc hs hx ?_
      show ab_W _ _ _ (8, [.ref 0, .int (nI s), .int (nI t), .retAddr 0, .retAddr 0], [.ref (1 + 2 + 2 * s)], (0, 0), h)
      refine ab_W.go (mm _) 2 (c' := (10, [.ref 0, .int (nI s), .int (nI t), .ref (1 + 2 + 2 * s), .retAddr 0], [.ref 0], (0, 0), h)) rfl ?_
      refine ab_W.o (mm _) (r0) rfl (c' := (13, [.ref 0, .int (nI s), .int (nI t), .ref (1 + 2 + 2 * s), .retAddr 0], [.ref 1], (0, 0), h)) rfl ?_
      refine ab_W.go (mm _) 1 (c' := (14, [.ref 0, .int (nI s), .int (nI t), .ref (1 + 2 + 2 * s), .retAddr 0], [.int (nI t), .ref 1], (0, 0), h)) rfl ?_
      refine ab_W.callV (mm _) (rc.1) rfl (k := 1) (av := [.ref 1, .int (nI t)]) (c' := (17, [.ref 0, .int (nI s), .int (nI t), .ref (1 + 2 + 2 * s), .retAddr 0], [], (0, 0), h)) rfl ?_
      refine sp_find _ rc ht' hy ?_
      show ab_W _ _ _ (17, [.ref 0, .int (nI s), .int (nI t), .ref (1 + 2 + 2 * s), .retAddr 0], [.ref (1 + 2 + 2 * t)], (0, 0), h)
      refine ab_W.go (mm _) 2 (c' := (20, [.ref 0, .int (nI s), .int (nI t), .ref (1 + 2 + 2 * s), .ref (1 + 2 + 2 * t)], [.ref (1 + 2 + 2 * s)], (0, 0), h)) rfl ?_
      refine ab_W.go (mm _) 1 (c' := (23, [.ref 0, .int (nI s), .int (nI t), .ref (1 + 2 + 2 * s), .ref (1 + 2 + 2 * t)], [], (0, 0), h)) rfl ?_
      refine ab_W.go (mm _) 1 (c' := (25, [.ref 0, .int (nI s), .int (nI t), .ref (1 + 2 + 2 * s), .ref (1 + 2 + 2 * t)], [.ref (1 + 2 + 2 * t)], (0, 0), h)) rfl ?_
      refine ab_W.go (mm _) 1 (c' := (30, [.ref 0, .int (nI s), .int (nI t), .ref (1 + 2 + 2 * s), .ref (1 + 2 + 2 * t)], [], (0, 0), h)) rfl ?_
      refine ab_W.go (mm _) 2 (c' := (32, [.ref 0, .int (nI s), .int (nI t), .ref (1 + 2 + 2 * s), .ref (1 + 2 + 2 * t)], [.int (nI t), .int (nI s)], (0, 0), h)) rfl ?_
      refine ab_W.ite (mm _) (p := (nI s) = (nI t)) (c1 := (35, [.ref 0, .int (nI s), .int (nI t), .ref (1 + 2 + 2 * s), .ref (1 + 2 + 2 * t)], [], (0, 0), h)) (c2 := (38, [.ref 0, .int (nI s), .int (nI t), .ref (1 + 2 + 2 * s), .ref (1 + 2 + 2 * t)], [], (0, 0), h)) rfl (fun q => ?_) (fun q => ?_)
      · skip
        have q := (nI_eq (by omega) (by omega)).mp q
        rw [show hearO σ.1 (some s) (some t) = _ from ci_t q] at hp
        refine ab_W.go (mm _) 1 (c' := (37, [.ref 0, .int (nI s), .int (nI t), .ref (1 + 2 + 2 * s), .ref (1 + 2 + 2 * t)], [.int (-(nI 2))], (0, 0), h)) rfl ?_
        refine ab_W.retI (mm _) (rt := some .int) (v := -(nI 2)) rfl rfl ?_
        exact hp h hR (fun _ _ => rfl)
      · skip
        have q : ¬ s = t := fun z => q (by rw [z])
        rw [show hearO σ.1 (some s) (some t) = _ from ci_f q] at hp
        refine ab_W.go (mm _) 2 (c' := (41, [.ref 0, .int (nI s), .int (nI t), .ref (1 + 2 + 2 * s), .ref (1 + 2 + 2 * t)], [.ref (1 + 2 + 2 * t), .ref (1 + 2 + 2 * s)], (0, 0), h)) rfl ?_
        refine ab_W.callV (mm _) (e) rfl (k := 39) (av := [.ref (1 + 2 + 2 * s), .ref (1 + 2 + 2 * t)]) (c' := (44, [.ref 0, .int (nI s), .int (nI t), .ref (1 + 2 + 2 * s), .ref (1 + 2 + 2 * t)], [], (0, 0), h)) rfl ?_
        refine sp_learn _ (rc.2.2 s hs) (rc.2.2 t ht') (by omega) (by omega) (by omega) (fun h1 f1 k1 => ?_)
        have c1 : cir h1 1 (setS σ.1 s (pr σ.1 s) (nm σ.1 s) (kn σ.1 s ||| kn σ.1 t) (mxH (ht σ.1 s) (ht σ.1 t))) := rc.set hs f1 k1
        rw [hx] at c1
        show ab_W _ _ _ (44, [.ref 0, .int (nI s), .int (nI t), .ref (1 + 2 + 2 * s), .ref (1 + 2 + 2 * t)], [.int (nI (cn (fun c => ht σ.1 s c < ht σ.1 t c) 64))], (0, 0), h1)
        refine ab_W.retI (mm _) (rt := some .int) (v := nI (cn (fun c => ht σ.1 s c < ht σ.1 t c) 64)) rfl rfl ?_
        exact hp _ (hR.cur c1 (fun i hi => k1 i (by omega) (by omega))) (fun i hi => k1 i (by omega) (by omega))
theorem sp_join (d : Nat) {h : ab_H} {σ : Sg} {x : Int32} {y : Int32} (hR : relC h σ) {post : ab_P} (hp : okC h post ((joinO σ.1 (stN σ.1 x) (stN σ.1 y)).1) ((joinO σ.1 (stN σ.1 x) (stN σ.1 y)).2, σ.2)) : mCC (d + 6) kSpanStamps_join [.ref 0, .int x, .int y] h post := by
  have r0 := hR.1
  have rc := hR.2.1
  rcases stamp_or σ.1 x with hx | ⟨s, hs, rfl, hx⟩
  · rw [stN_no hx] at hp
    rcases stamp_or σ.1 y with hy | ⟨t, ht', rfl, hy⟩
    · refine ⟨rfl, ?_⟩
      show ab_W _ _ _ (0, [.ref 0, .int x, .int y, .retAddr 0, .retAddr 0], [], (0, 0), h)
      refine ab_W.go (mm _) 1 (c' := (1, [.ref 0, .int x, .int y, .retAddr 0, .retAddr 0], [.ref 0], (0, 0), h)) rfl ?_
      refine ab_W.o (mm _) (r0) rfl (c' := (4, [.ref 0, .int x, .int y, .retAddr 0, .retAddr 0], [.ref 1], (0, 0), h)) rfl ?_
      refine ab_W.go (mm _) 1 (c' := (5, [.ref 0, .int x, .int y, .retAddr 0, .retAddr 0], [.int x, .ref 1], (0, 0), h)) rfl ?_
      refine ab_W.callV (mm _) (rc.1) rfl (k := 1) (av := [.ref 1, .int x]) (c' := (8, [.ref 0, .int x, .int y, .retAddr 0, .retAddr 0], [], (0, 0), h)) rfl ?_
      refine sp_findN _ rc hx ?_
      show ab_W _ _ _ (8, [.ref 0, .int x, .int y, .retAddr 0, .retAddr 0], [.null], (0, 0), h)
      refine ab_W.go (mm _) 2 (c' := (10, [.ref 0, .int x, .int y, .null, .retAddr 0], [.ref 0], (0, 0), h)) rfl ?_
      refine ab_W.o (mm _) (r0) rfl (c' := (13, [.ref 0, .int x, .int y, .null, .retAddr 0], [.ref 1], (0, 0), h)) rfl ?_
      refine ab_W.go (mm _) 1 (c' := (14, [.ref 0, .int x, .int y, .null, .retAddr 0], [.int y, .ref 1], (0, 0), h)) rfl ?_
      refine ab_W.callV (mm _) (rc.1) rfl (k := 1) (av := [.ref 1, .int y]) (c' := (17, [.ref 0, .int x, .int y, .null, .retAddr 0], [], (0, 0), h)) rfl ?_
      refine sp_findN _ rc hy ?_
      show ab_W _ _ _ (17, [.ref 0, .int x, .int y, .null, .retAddr 0], [.null], (0, 0), h)
      refine ab_W.go (mm _) 2 (c' := (20, [.ref 0, .int x, .int y, .null, .null], [.null], (0, 0), h)) rfl ?_
      refine ab_W.go (mm _) 1 (c' := (28, [.ref 0, .int x, .int y, .null, .null], [], (0, 0), h)) rfl ?_
      refine ab_W.go (mm _) 1 (c' := (29, [.ref 0, .int x, .int y, .null, .null], [.int (-(nI 1))], (0, 0), h)) rfl ?_
      refine ab_W.retI (mm _) (rt := some .int) (v := -(nI 1)) rfl rfl ?_
      exact hp h hR (fun _ _ => rfl)
    · refine ⟨rfl, ?_⟩
      show ab_W _ _ _ (0, [.ref 0, .int x, .int (nI t), .retAddr 0, .retAddr 0], [], (0, 0), h)
      refine ab_W.go (mm _) 1 (c' := (1, [.ref 0, .int x, .int (nI t), .retAddr 0, .retAddr 0], [.ref 0], (0, 0), h)) rfl ?_
      refine ab_W.o (mm _) (r0) rfl (c' := (4, [.ref 0, .int x, .int (nI t), .retAddr 0, .retAddr 0], [.ref 1], (0, 0), h)) rfl ?_
      refine ab_W.go (mm _) 1 (c' := (5, [.ref 0, .int x, .int (nI t), .retAddr 0, .retAddr 0], [.int x, .ref 1], (0, 0), h)) rfl ?_
      refine ab_W.callV (mm _) (rc.1) rfl (k := 1) (av := [.ref 1, .int x]) (c' := (8, [.ref 0, .int x, .int (nI t), .retAddr 0, .retAddr 0], [], (0, 0), h)) rfl ?_
      refine sp_findN _ rc hx ?_
      show ab_W _ _ _ (8, [.ref 0, .int x, .int (nI t), .retAddr 0, .retAddr 0], [.null], (0, 0), h)
      refine ab_W.go (mm _) 2 (c' := (10, [.ref 0, .int x, .int (nI t), .null, .retAddr 0], [.ref 0], (0, 0), h)) rfl ?_
      refine ab_W.o (mm _) (r0) rfl (c' := (13, [.ref 0, .int x, .int (nI t), .null, .retAddr 0], [.ref 1], (0, 0), h)) rfl ?_
      refine ab_W.go (mm _) 1 (c' := (14, [.ref 0, .int x, .int (nI t), .null, .retAddr 0], [.int (nI t), .ref 1], (0, 0), h)) rfl ?_
      refine ab_W.callV (mm _) (rc.1) rfl (k := 1) (av := [.ref 1, .int (nI t)]) (c' := (17, [.ref 0, .int x, .int (nI t), .null, .retAddr 0], [], (0, 0), h)) rfl ?_
      refine sp_find _ rc ht' hy ?_
      show ab_W _ _ _ (17, [.ref 0, .int x, .int (nI t), .null, .retAddr 0], [.ref (1 + 2 + 2 * t)], (0, 0), h)
      refine ab_W.go (mm _) 2 (c' := (20, [.ref 0, .int x, .int (nI t), .null, .ref (1 + 2 + 2 * t)], [.null], (0, 0), h)) rfl ?_
      refine ab_W.go (mm _) 1 (c' := (28, [.ref 0, .int x, .int (nI t), .null, .ref (1 + 2 + 2 * t)], [], (0, 0), h)) rfl ?_
      refine ab_W.go (mm _) 1 (c' := (29, [.ref 0, .int x, .int (nI t), .null, .ref (1 + 2 + 2 * t)], [.int (-(nI 1))], (0, 0), h)) rfl ?_
      refine ab_W.retI (mm _) (rt := some .int) (v := -(nI 1)) rfl rfl ?_
      exact hp h hR (fun _ _ => rfl)
  · rw [stN_yes hs hx] at hp
    rcases stamp_or σ.1 y with hy | ⟨t, ht', rfl, hy⟩
    · rw [stN_no hy] at hp
      refine ⟨rfl, ?_⟩
      show ab_W _ _ _ (0, [.ref 0, .int (nI s), .int y, .retAddr 0, .retAddr 0], [], (0, 0), h)
      refine ab_W.go (mm _) 1 (c' := (1, [.ref 0, .int (nI s), .int y, .retAddr 0, .retAddr 0], [.ref 0], (0, 0), h)) rfl ?_
      refine ab_W.o (mm _) (r0) rfl (c' := (4, [.ref 0, .int (nI s), .int y, .retAddr 0, .retAddr 0], [.ref 1], (0, 0), h)) rfl ?_
      refine ab_W.go (mm _) 1 (c' := (5, [.ref 0, .int (nI s), .int y, .retAddr 0, .retAddr 0], [.int (nI s), .ref 1], (0, 0), h)) rfl ?_
      refine ab_W.callV (mm _) (rc.1) rfl (k := 1) (av := [.ref 1, .int (nI s)]) (c' := (8, [.ref 0, .int (nI s), .int y, .retAddr 0, .retAddr 0], [], (0, 0), h)) rfl ?_
      refine sp_find _ rc hs hx ?_
      show ab_W _ _ _ (8, [.ref 0, .int (nI s), .int y, .retAddr 0, .retAddr 0], [.ref (1 + 2 + 2 * s)], (0, 0), h)
      refine ab_W.go (mm _) 2 (c' := (10, [.ref 0, .int (nI s), .int y, .ref (1 + 2 + 2 * s), .retAddr 0], [.ref 0], (0, 0), h)) rfl ?_
      refine ab_W.o (mm _) (r0) rfl (c' := (13, [.ref 0, .int (nI s), .int y, .ref (1 + 2 + 2 * s), .retAddr 0], [.ref 1], (0, 0), h)) rfl ?_
      refine ab_W.go (mm _) 1 (c' := (14, [.ref 0, .int (nI s), .int y, .ref (1 + 2 + 2 * s), .retAddr 0], [.int y, .ref 1], (0, 0), h)) rfl ?_
      refine ab_W.callV (mm _) (rc.1) rfl (k := 1) (av := [.ref 1, .int y]) (c' := (17, [.ref 0, .int (nI s), .int y, .ref (1 + 2 + 2 * s), .retAddr 0], [], (0, 0), h)) rfl ?_
      refine sp_findN _ rc hy ?_
      show ab_W _ _ _ (17, [.ref 0, .int (nI s), .int y, .ref (1 + 2 + 2 * s), .retAddr 0], [.null], (0, 0), h)
      refine ab_W.go (mm _) 2 (c' := (20, [.ref 0, .int (nI s), .int y, .ref (1 + 2 + 2 * s), .null], [.ref (1 + 2 + 2 * s)], (0, 0), h)) rfl ?_
      refine ab_W.go (mm _) 1 (c' := (23, [.ref 0, .int (nI s), .int y, .ref (1 + 2 + 2 * s), .null], [], (0, 0), h)) rfl ?_
      refine ab_W.go (mm _) 1 (c' := (25, [.ref 0, .int (nI s), .int y, .ref (1 + 2 + 2 * s), .null], [.null], (0, 0), h)) rfl ?_
      refine ab_W.go (mm _) 1 (c' := (28, [.ref 0, .int (nI s), .int y, .ref (1 + 2 + 2 * s), .null], [], (0, 0), h)) rfl ?_
      refine ab_W.go (mm _) 1 (c' := (29, [.ref 0, .int (nI s), .int y, .ref (1 + 2 + 2 * s), .null], [.int (-(nI 1))], (0, 0), h)) rfl ?_
      refine ab_W.retI (mm _) (rt := some .int) (v := -(nI 1)) rfl rfl ?_
      exact hp h hR (fun _ _ => rfl)
    · rw [stN_yes ht' hy] at hp
      have e := (rc.2.2 s hs).1
      have e' := (rc.2.2 t ht').1
      refine ⟨rfl, ?_⟩
      show ab_W _ _ _ (0, [.ref 0, .int (nI s), .int (nI t), .retAddr 0, .retAddr 0], [], (0, 0), h)
      refine ab_W.go (mm _) 1 (c' := (1, [.ref 0, .int (nI s), .int (nI t), .retAddr 0, .retAddr 0], [.ref 0], (0, 0), h)) rfl ?_
      refine ab_W.o (mm _) (r0) rfl (c' := (4, [.ref 0, .int (nI s), .int (nI t), .retAddr 0, .retAddr 0], [.ref 1], (0, 0), h)) rfl ?_
      refine ab_W.go (mm _) 1 (c' := (5, [.ref 0, .int (nI s), .int (nI t), .retAddr 0, .retAddr 0], [.int (nI s), .ref 1], (0, 0), h)) rfl ?_
      refine ab_W.callV (mm _) (rc.1) rfl (k := 1) (av := [.ref 1, .int (nI s)]) (c' := (8, [.ref 0, .int (nI s), .int (nI t), .retAddr 0, .retAddr 0], [], (0, 0), h)) rfl ?_
      refine sp_find _ rc hs hx ?_
      show ab_W _ _ _ (8, [.ref 0, .int (nI s), .int (nI t), .retAddr 0, .retAddr 0], [.ref (1 + 2 + 2 * s)], (0, 0), h)
      refine ab_W.go (mm _) 2 (c' := (10, [.ref 0, .int (nI s), .int (nI t), .ref (1 + 2 + 2 * s), .retAddr 0], [.ref 0], (0, 0), h)) rfl ?_
      refine ab_W.o (mm _) (r0) rfl (c' := (13, [.ref 0, .int (nI s), .int (nI t), .ref (1 + 2 + 2 * s), .retAddr 0], [.ref 1], (0, 0), h)) rfl ?_
      refine ab_W.go (mm _) 1 (c' := (14, [.ref 0, .int (nI s), .int (nI t), .ref (1 + 2 + 2 * s), .retAddr 0], [.int (nI t), .ref 1], (0, 0), h)) rfl ?_
      refine ab_W.callV (mm _) (rc.1) rfl (k := 1) (av := [.ref 1, .int (nI t)]) (c' := (17, [.ref 0, .int (nI s), .int (nI t), .ref (1 + 2 + 2 * s), .retAddr 0], [], (0, 0), h)) rfl ?_
      refine sp_find _ rc ht' hy ?_
      show ab_W _ _ _ (17, [.ref 0, .int (nI s), .int (nI t), .ref (1 + 2 + 2 * s), .retAddr 0], [.ref (1 + 2 + 2 * t)], (0, 0), h)
      refine ab_W.go (mm _) 2 (c' := (20, [.ref 0, .int (nI s), .int (nI t), .ref (1 + 2 + 2 * s), .ref (1 + 2 + 2 * t)], [.ref (1 + 2 + 2 * s)], (0, 0), h)) rfl ?_
      refine ab_W.go (mm _) 1 (c' := (23, [.ref 0, .int (nI s), .int (nI t), .ref (1 + 2 + 2 * s), .ref (1 + 2 + 2 * t)], [], (0, 0), h)) rfl ?_
      refine ab_W.go (mm _) 1 (c' := (25, [.ref 0, .int (nI s), .int (nI t), .ref (1 + 2 + 2 * s), .ref (1 + 2 + 2 * t)], [.ref (1 + 2 + 2 * t)], (0, 0), h)) rfl ?_
      refine ab_W.go (mm _) 1 (c' := (30, [.ref 0, .int (nI s), .int (nI t), .ref (1 + 2 + 2 * s), .ref (1 + 2 + 2 * t)], [], (0, 0), h)) rfl ?_
      refine ab_W.go (mm _) 2 (c' := (32, [.ref 0, .int (nI s), .int (nI t), .ref (1 + 2 + 2 * s), .ref (1 + 2 + 2 * t)], [.int (nI t), .int (nI s)], (0, 0), h)) rfl ?_
      refine ab_W.ite (mm _) (p := (nI s) = (nI t)) (c1 := (35, [.ref 0, .int (nI s), .int (nI t), .ref (1 + 2 + 2 * s), .ref (1 + 2 + 2 * t)], [], (0, 0), h)) (c2 := (38, [.ref 0, .int (nI s), .int (nI t), .ref (1 + 2 + 2 * s), .ref (1 + 2 + 2 * t)], [], (0, 0), h)) rfl (fun q => ?_) (fun q => ?_)
      · skip
        have q := (nI_eq (by omega) (by omega)).mp q
        rw [show joinO σ.1 (some s) (some t) = _ from ci_t q] at hp
        refine ab_W.go (mm _) 1 (c' := (37, [.ref 0, .int (nI s), .int (nI t), .ref (1 + 2 + 2 * s), .ref (1 + 2 + 2 * t)], [.int (-(nI 2))], (0, 0), h)) rfl ?_
        refine ab_W.retI (mm _) (rt := some .int) (v := -(nI 2)) rfl rfl ?_
        exact hp h hR (fun _ _ => rfl)
      · skip
        have q : ¬ s = t := fun z => q (by rw [z])
        rw [show joinO σ.1 (some s) (some t) = _ from ci_f q] at hp
        refine ab_W.go (mm _) 2 (c' := (41, [.ref 0, .int (nI s), .int (nI t), .ref (1 + 2 + 2 * s), .ref (1 + 2 + 2 * t)], [.ref (1 + 2 + 2 * t), .ref (1 + 2 + 2 * s)], (0, 0), h)) rfl ?_
        refine ab_W.callV (mm _) (e) rfl (k := 39) (av := [.ref (1 + 2 + 2 * s), .ref (1 + 2 + 2 * t)]) (c' := (44, [.ref 0, .int (nI s), .int (nI t), .ref (1 + 2 + 2 * s), .ref (1 + 2 + 2 * t)], [], (0, 0), h)) rfl ?_
        refine sp_learn _ (rc.2.2 s hs) (rc.2.2 t ht') (by omega) (by omega) (by omega) (fun h1 f1 k1 => ?_)
        have c1 : cir h1 1 (setS σ.1 s (pr σ.1 s) (nm σ.1 s) (kn σ.1 s ||| kn σ.1 t) (mxH (ht σ.1 s) (ht σ.1 t))) := rc.set hs f1 k1
        have d2 : st_P h1 (1 + 2 + 2 * t) (pr σ.1 t) (nm σ.1 t) (kn σ.1 t) (ht σ.1 t) := (rc.2.2 t ht').kept (k1 _ (by omega) (by omega)) (k1 _ (by omega) (by omega))
        rw [hx] at f1
        obtain ⟨f1, g, f2, f3⟩ := f1
        show ab_W _ _ _ (44, [.ref 0, .int (nI s), .int (nI t), .ref (1 + 2 + 2 * s), .ref (1 + 2 + 2 * t)], [.int (nI (cn (fun c => ht σ.1 s c < ht σ.1 t c) 64))], (0, 0), h1)
        refine ab_W.go (mm _) 3 (c' := (47, [.ref 0, .int (nI s), .int (nI t), .ref (1 + 2 + 2 * s), .ref (1 + 2 + 2 * t)], [.ref (1 + 2 + 2 * s), .ref (1 + 2 + 2 * s)], (0, 0), h1)) rfl ?_
        refine ab_W.o (mm _) (f1) rfl (c' := (50, [.ref 0, .int (nI s), .int (nI t), .ref (1 + 2 + 2 * s), .ref (1 + 2 + 2 * t)], [.long (nm σ.1 s), .ref (1 + 2 + 2 * s)], (0, 0), h1)) rfl ?_
        refine ab_W.go (mm _) 1 (c' := (52, [.ref 0, .int (nI s), .int (nI t), .ref (1 + 2 + 2 * s), .ref (1 + 2 + 2 * t)], [.ref (1 + 2 + 2 * t), .long (nm σ.1 s), .ref (1 + 2 + 2 * s)], (0, 0), h1)) rfl ?_
        refine ab_W.o (mm _) (d2.1) rfl (c' := (55, [.ref 0, .int (nI s), .int (nI t), .ref (1 + 2 + 2 * s), .ref (1 + 2 + 2 * t)], [.long (nm σ.1 t), .long (nm σ.1 s), .ref (1 + 2 + 2 * s)], (0, 0), h1)) rfl ?_
        refine ab_W.go (mm _) 1 (c' := (56, [.ref 0, .int (nI s), .int (nI t), .ref (1 + 2 + 2 * s), .ref (1 + 2 + 2 * t)], [.long ((nm σ.1 s) ||| (nm σ.1 t)), .ref (1 + 2 + 2 * s)], (0, 0), h1)) rfl ?_
        refine ab_W.o (mm _) (f1) rfl (c' := (59, [.ref 0, .int (nI s), .int (nI t), .ref (1 + 2 + 2 * s), .ref (1 + 2 + 2 * t)], [], (0, 0), h1.set (1 + 2 + 2 * s) (.inr (3, [.int (b2i true), .long (nm σ.1 s ||| nm σ.1 t), .long (kn σ.1 s ||| kn σ.1 t), .ref (1 + 2 + 2 * s + 1)])))) rfl ?_
        obtain ⟨h2, e2⟩ : ∃ h2, h2 = h1.set (1 + 2 + 2 * s) (.inr (3, [.int (b2i true), .long (nm σ.1 s ||| nm σ.1 t), .long (kn σ.1 s ||| kn σ.1 t), .ref (1 + 2 + 2 * s + 1)])) := ⟨_, rfl⟩
        refine ab_W.hp (e2.symm) ?_
        show ab_W _ _ _ (59, [.ref 0, .int (nI s), .int (nI t), .ref (1 + 2 + 2 * s), .ref (1 + 2 + 2 * t)], [], (0, 0), h2)
        have k2 : ∀ i, i ≠ 1 + 2 + 2 * s → h2[i]? = h1[i]? := fun i hi => by rw [e2]; exact set_ne (fun z => hi z.symm)
        have c2 : cir h2 1 (setS σ.1 s true (nm σ.1 s ||| nm σ.1 t) (kn σ.1 s ||| kn σ.1 t) (mxH (ht σ.1 s) (ht σ.1 t))) := rc.set hs ⟨by rw [e2]; exact set_at f1, g, (k2 _ (by omega)).trans f2, f3⟩ (fun i i1 i2 => (k2 i i1).trans (k1 i i1 i2))
        obtain ⟨d1, g2, d2, d3⟩ : st_P h2 (1 + 2 + 2 * t) (pr σ.1 t) (nm σ.1 t) (kn σ.1 t) (ht σ.1 t) := d2.kept (k2 _ (by omega)) (k2 _ (by omega))
        refine ab_W.go (mm _) 2 (c' := (62, [.ref 0, .int (nI s), .int (nI t), .ref (1 + 2 + 2 * s), .ref (1 + 2 + 2 * t)], [.int (nI 0), .ref (1 + 2 + 2 * t)], (0, 0), h2)) rfl ?_
        refine ab_W.o (mm _) (d1) rfl (c' := (65, [.ref 0, .int (nI s), .int (nI t), .ref (1 + 2 + 2 * s), .ref (1 + 2 + 2 * t)], [], (0, 0), h2.set (1 + 2 + 2 * t) (.inr (3, [.int (b2i false), .long (nm σ.1 t), .long (kn σ.1 t), .ref (1 + 2 + 2 * t + 1)])))) rfl ?_
        obtain ⟨h3, e3⟩ : ∃ h3, h3 = h2.set (1 + 2 + 2 * t) (.inr (3, [.int (b2i false), .long (nm σ.1 t), .long (kn σ.1 t), .ref (1 + 2 + 2 * t + 1)])) := ⟨_, rfl⟩
        refine ab_W.hp (e3.symm) ?_
        show ab_W _ _ _ (65, [.ref 0, .int (nI s), .int (nI t), .ref (1 + 2 + 2 * s), .ref (1 + 2 + 2 * t)], [], (0, 0), h3)
        have k3 : ∀ i, i ≠ 1 + 2 + 2 * t → h3[i]? = h2[i]? := fun i hi => by rw [e3]; exact set_ne (fun z => hi z.symm)
        have c3 : cir h3 1 (joinC σ.1 s t) := c2.set ht' ⟨by rw [e3]; exact set_at d1, g2, (k3 _ (by omega)).trans d2, d3⟩ (fun i i1 i2 => k3 i i1)
        have k4 : ∀ i, i < 1 ∨ 27 ≤ i → h3[i]? = h[i]? := fun i hi => (k3 i (by omega)).trans ((k2 i (by omega)).trans (k1 i (by omega) (by omega)))
        refine ab_W.go (mm _) 1 (c' := (66, [.ref 0, .int (nI s), .int (nI t), .ref (1 + 2 + 2 * s), .ref (1 + 2 + 2 * t)], [.ref 0], (0, 0), h3)) rfl ?_
        refine ab_W.o (mm _) ((k4 0 (by omega)).trans r0) rfl (c' := (69, [.ref 0, .int (nI s), .int (nI t), .ref (1 + 2 + 2 * s), .ref (1 + 2 + 2 * t)], [.ref 1], (0, 0), h3)) rfl ?_
        refine ab_W.callV (mm _) (c3.1) rfl (k := 4) (av := [.ref 1]) (c' := (72, [.ref 0, .int (nI s), .int (nI t), .ref (1 + 2 + 2 * s), .ref (1 + 2 + 2 * t)], [], (0, 0), h3)) rfl ?_
        refine sp_howMany _ c3 ?_
        show ab_W _ _ _ (72, [.ref 0, .int (nI s), .int (nI t), .ref (1 + 2 + 2 * s), .ref (1 + 2 + 2 * t)], [.int (nI (cb (pr (joinC σ.1 s t)) 12))], (0, 0), h3)
        refine ab_W.retI (mm _) (rt := some .int) (v := nI (cb (pr (joinC σ.1 s t)) 12)) rfl rfl ?_
        exact hp _ (hR.cur c3 k4) (fun i hi => k4 i (by omega))
end
section
/-! THE OTHER CALLS OF THE CLASS -/
theorem ab_W.swd {F : ab_S → ab_R} {C : ab_C} {post : ab_P} {c : ab_S} (hC : ab_mono C) {x : Int32} {lo hi : Int} {d : Nat} {ts : List Nat} {lv r : List Value} {b : Nat × Nat} {h : ab_H} (e : F c = ab_sw x lo hi (d :: ts) fun t => ab_nx t lv r b h) (hx : x.toInt < lo ∨ hi < x.toInt) (w : ab_W F C post (d, lv, r, b, h)) : ab_W F C post c := by
  refine ab_W.fold hC ?_
  rw [e]
  show ab_rs _ _ _ _ (if x.toInt < lo ∨ hi < x.toInt then ab_nx d lv r b h else _)
  rw [if_pos hx]
  exact w
theorem sw_lo {x : Int32} {hi : Int} (h : x < 0) : x.toInt < 0 ∨ hi < x.toInt := Or.inl (Int32.lt_iff_toInt_lt.mp h)
theorem sw_hi {x : Int32} {n : Nat} {hi : Int} (h : nI n ≤ x) (hn : hi < (nI n).toInt) : x.toInt < 0 ∨ hi < x.toInt := Or.inr (Int.lt_of_lt_of_le hn (Int32.le_iff_toInt_le.mp h))
theorem nI_geN {x : Int32} {n j : Nat} (h : nI n ≤ x) (hn : n < 2 ^ 31) (hj : j < n) : ¬ x = nI j := by
  intro z
  rw [z] at h
  have := (nI_leI hn (by omega)).mp h
  omega
theorem nI_le0 {x : Int32} {n : Nat} (h : nI n ≤ x) (hn : n < 2 ^ 31) : ¬ x < 0 := by
  intro z
  have a := Int32.lt_iff_toInt_lt.mp z
  have b := Int32.le_iff_toInt_le.mp h
  have c : ¬ nI n < 0 := nI_pos hn
  exact c (Int32.lt_iff_toInt_lt.mpr (Int.lt_of_le_of_lt b a))
theorem nI_lt0 {x : Int32} {j : Nat} (h : x < 0) (hj : j < 2 ^ 31) : ¬ x = nI j := by
  intro z
  rw [z] at h
  exact nI_pos hj h
theorem bt_one : ∀ i, i < 64 → ∀ j, j < 64 → bt (lN 1 <<< ((nI i).toInt64 &&& 63)) j = decide (j = i) := by decide +kernel
theorem and_one {K : Int64} {i : Nat} (hi : i < 64) : (K &&& (lN 1 <<< ((nI i).toInt64 &&& 63))) = lN 0 ↔ bt K i = false := by
  rw [bt_cut]
  refine ⟨fun h => ?_, fun h j hj hb => ?_⟩
  · cases hb : bt K i with
    | false => rfl
    | true =>
      have := h i hi hb
      rw [bt_one i hi i hi] at this
      simp at this
  · rw [bt_one i hi j hj]
    by_cases e : j = i
    · rw [e, h] at hb
      cases hb
    · exact decide_eq_false e
theorem isP_ex {N : Int64} (h : ¬ N = lN 0) : ∃ k, 1 ≤ k ∧ k < 128 ∧ isP N k := by
  obtain ⟨c, c1, c2, -⟩ := low_ex h
  have a6 := anc_ok 6 (by decide) c c1
  have hl : lies N (anc c 6) := (lies_iff a6.1 a6.2.1).mpr fun j hj => by
    have e := (sp_leaf _ a6.2.1 (by have := (anc_rng 6 (by decide) c c1).1; omega)).2
    have e2 : j = c := by
      have := hj.1
      have := hj.2
      omega
    rw [e2]
    exact c2
  obtain ⟨i, ⟨i1, i2⟩, i3⟩ := pk_least (fun i => i ≤ 6 ∧ lies N (anc c i)) ⟨6, Nat.le_refl _, hl⟩
  have ai := anc_ok i i1 c c1
  exact ⟨_, ai.1, ai.2.1, isP_anc c1 i1 i2 (fun j hj z => i3 j hj ⟨by omega, z⟩)⟩
theorem LK.congr {N : Int64} {f g : Nat → Int32} {y1 y2 y3 y4 y5 : Int32} {G : Nat → Int32} (hfg : ∀ c, c < 64 → f c = g c) (h : LK N f y1 y2 y3 y4 y5 G) : LK N g y1 y2 y3 y4 y5 G := by
  have ec : chF (fl N 6 1 f) f 64 = chF (fl N 6 1 g) g 64 := cn_congr (fun c hc => by rw [fl_all hfg c hc, hfg c hc])
  unfold LK at h ⊢
  rw [ec] at h
  rcases h with ⟨q, e1, e2, e3, e4, e5, e6⟩ | ⟨q, k, hk, e1, e2, e3, e4, e5, e6⟩
  · exact Or.inl ⟨q, e1, e2, e3, e4, e5, fun c hc => (e6 c hc).trans (fl_all hfg c hc)⟩
  · refine Or.inr ⟨q, k, hk.congr hfg, e1, e2, by rw [e3, cst_congr hfg hk.1.1 hk.1.2.1], e4, e5, fun c hc => ?_⟩
    rw [e6 c hc]
    unfold rsF
    rw [hfg c hc]
theorem hT_congr {f g : Nat → Int32} (hfg : ∀ c, c < 64 → f c = g c) : ∀ n k, 1 ≤ k → k < 128 → dep k + n = 6 → ∀ b, hT f n k b = hT g n k b := by
  intro n
  induction n with
  | zero =>
    intro k h1 hk _ b
    unfold hT
    rw [mn_congr h1 hk (fun j hj => hfg j (inK_lt h1 hk hj))]
  | succ n ih =>
    intro k h1 hk hd b
    have hk' : k < 64 := Nat.lt_of_not_le fun z => by have := (sp_deep k hk h1).mpr z; omega
    obtain ⟨e1, e2, -⟩ := sp_half k hk' h1
    unfold hT
    rw [mn_congr h1 hk (fun j hj => hfg j (inK_lt h1 hk hj)), ih (2 * k) (by omega) (by omega) (by omega), ih (2 * k + 1) (by omega) (by omega) (by omega)]
    have ea : alk f k = alk g k := propext (alk_congr h1 hk (fun j hj => hfg j (inK_lt h1 hk hj)))
    rw [ea]
theorem relC.row {h h' : ab_H} {σ : Sg} {L : List Int32} (hR : relC h σ) (hr : rowP h' 30 L) (hk : ∀ i, i ≠ 30 → i ≠ 31 → h'[i]? = h[i]?) : relC h' σ := by
  obtain ⟨r0, rc, ⟨q, r2, r3⟩, ⟨x1, x2, x3, x4, x5, r4⟩, ⟨g, r5⟩, -, -, r8, r9⟩ := hR
  obtain ⟨l1, g2, l2, -⟩ := hr
  exact ⟨(hk _ (by omega) (by omega)).trans r0, rc.kept (fun i _ _ => hk i (by omega) (by omega)), ⟨q, (hk _ (by omega) (by omega)).trans r2, r3⟩, ⟨x1, x2, x3, x4, x5, (hk _ (by omega) (by omega)).trans r4⟩, ⟨g, (hk _ (by omega) (by omega)).trans r5⟩, ⟨_, l1⟩, ⟨g2, l2⟩, r8.kept (fun i _ _ => hk i (by omega) (by omega)), r9.kept (fun i _ _ => hk i (by omega) (by omega))⟩
theorem relC.fore {h : ab_H} {σ : Sg} {y1 y2 y3 y4 y5 : Int32} {G : Nat → Int32} (hR : relC h σ) : relC (hX h 28 29 y1 y2 y3 y4 y5 G) σ := by
  obtain ⟨r0, rc, ⟨q, r2, r3⟩, ⟨x1, x2, x3, x4, x5, r4⟩, ⟨g, r5⟩, ⟨z, r6⟩, ⟨g2, r7⟩, r8, r9⟩ := hR
  have hk : ∀ i, i ≠ 28 → i ≠ 29 → (hX h 28 29 y1 y2 y3 y4 y5 G)[i]? = h[i]? := fun i i1 i2 => hX_ne (fun z => i1 z.symm) (fun z => i2 z.symm)
  exact ⟨(hk _ (by omega) (by omega)).trans r0, rc.kept (fun i _ _ => hk i (by omega) (by omega)), ⟨q, (hk _ (by omega) (by omega)).trans r2, r3⟩, ⟨y1, y2, y3, y4, y5, hX_o (hA_lt r4) (by decide)⟩, ⟨G, hX_oh (hA_lt r5)⟩, ⟨z, (hk _ (by omega) (by omega)).trans r6⟩, ⟨g2, (hk _ (by omega) (by omega)).trans r7⟩, r8.kept (fun i _ _ => hk i (by omega) (by omega)), r9.kept (fun i _ _ => hk i (by omega) (by omega))⟩
theorem sp_height (d : Nat) {h : ab_H} {σ : Sg} {x : Int32} {y : Int32} (hR : relC h σ) {post : ab_P} (hp : okC h post (heightO σ.1 y (stN σ.1 x)) (σ)) : mCC (d + 3) kSpanStamps_height [.ref 0, .int x, .int y] h post := by
  have r0 := hR.1
  have rc := hR.2.1
  rcases stamp_or σ.1 x with hx | ⟨s, hs, rfl, hx⟩
  · rw [stN_no hx] at hp
    refine ⟨rfl, ?_⟩
    show ab_W _ _ _ (0, [.ref 0, .int x, .int y, .retAddr 0], [], (0, 0), h)
    refine ab_W.go (mm _) 1 (c' := (1, [.ref 0, .int x, .int y, .retAddr 0], [.ref 0], (0, 0), h)) rfl ?_
    refine ab_W.o (mm _) (r0) rfl (c' := (4, [.ref 0, .int x, .int y, .retAddr 0], [.ref 1], (0, 0), h)) rfl ?_
    refine ab_W.go (mm _) 1 (c' := (5, [.ref 0, .int x, .int y, .retAddr 0], [.int x, .ref 1], (0, 0), h)) rfl ?_
    refine ab_W.callV (mm _) (rc.1) rfl (k := 1) (av := [.ref 1, .int x]) (c' := (8, [.ref 0, .int x, .int y, .retAddr 0], [], (0, 0), h)) rfl ?_
    refine sp_findN _ rc hx ?_
    show ab_W _ _ _ (8, [.ref 0, .int x, .int y, .retAddr 0], [.null], (0, 0), h)
    refine ab_W.go (mm _) 2 (c' := (10, [.ref 0, .int x, .int y, .null], [.null], (0, 0), h)) rfl ?_
    refine ab_W.go (mm _) 1 (c' := (13, [.ref 0, .int x, .int y, .null], [], (0, 0), h)) rfl ?_
    refine ab_W.go (mm _) 1 (c' := (14, [.ref 0, .int x, .int y, .null], [.int (-(nI 1))], (0, 0), h)) rfl ?_
    refine ab_W.retI (mm _) (rt := some .int) (v := -(nI 1)) rfl rfl ?_
    exact hp h hR (fun _ _ => rfl)
  · rw [stN_yes hs hx] at hp
    have e := (rc.2.2 s hs).1
    refine ⟨rfl, ?_⟩
    show ab_W _ _ _ (0, [.ref 0, .int (nI s), .int y, .retAddr 0], [], (0, 0), h)
    refine ab_W.go (mm _) 1 (c' := (1, [.ref 0, .int (nI s), .int y, .retAddr 0], [.ref 0], (0, 0), h)) rfl ?_
    refine ab_W.o (mm _) (r0) rfl (c' := (4, [.ref 0, .int (nI s), .int y, .retAddr 0], [.ref 1], (0, 0), h)) rfl ?_
    refine ab_W.go (mm _) 1 (c' := (5, [.ref 0, .int (nI s), .int y, .retAddr 0], [.int (nI s), .ref 1], (0, 0), h)) rfl ?_
    refine ab_W.callV (mm _) (rc.1) rfl (k := 1) (av := [.ref 1, .int (nI s)]) (c' := (8, [.ref 0, .int (nI s), .int y, .retAddr 0], [], (0, 0), h)) rfl ?_
    refine sp_find _ rc hs hx ?_
    show ab_W _ _ _ (8, [.ref 0, .int (nI s), .int y, .retAddr 0], [.ref (1 + 2 + 2 * s)], (0, 0), h)
    refine ab_W.go (mm _) 2 (c' := (10, [.ref 0, .int (nI s), .int y, .ref (1 + 2 + 2 * s)], [.ref (1 + 2 + 2 * s)], (0, 0), h)) rfl ?_
    refine ab_W.go (mm _) 1 (c' := (15, [.ref 0, .int (nI s), .int y, .ref (1 + 2 + 2 * s)], [], (0, 0), h)) rfl ?_
    refine ab_W.go (mm _) 1 (c' := (16, [.ref 0, .int (nI s), .int y, .ref (1 + 2 + 2 * s)], [.int y], (0, 0), h)) rfl ?_
    rcases pk_ix y (n := 64) (by decide) with q | q | ⟨j, j1, rfl⟩
    · rw [show heightO σ.1 y (some s) = _ from ci_t (Or.inl q)] at hp
      refine ab_W.itT (mm _) (p := y < 0) (c1 := (25, [.ref 0, .int (nI s), .int y, .ref (1 + 2 + 2 * s)], [], (0, 0), h)) (c2 := (19, [.ref 0, .int (nI s), .int y, .ref (1 + 2 + 2 * s)], [], (0, 0), h)) rfl (q) ?_
      refine ab_W.go (mm _) 1 (c' := (27, [.ref 0, .int (nI s), .int y, .ref (1 + 2 + 2 * s)], [.int (-(nI 2))], (0, 0), h)) rfl ?_
      refine ab_W.retI (mm _) (rt := some .int) (v := -(nI 2)) rfl rfl ?_
      exact hp h hR (fun _ _ => rfl)
    · rw [show heightO σ.1 y (some s) = _ from ci_t (Or.inr q)] at hp
      refine ab_W.itF (mm _) (p := y < 0) (c1 := (25, [.ref 0, .int (nI s), .int y, .ref (1 + 2 + 2 * s)], [], (0, 0), h)) (c2 := (19, [.ref 0, .int (nI s), .int y, .ref (1 + 2 + 2 * s)], [], (0, 0), h)) rfl (nI_le0 q (by decide)) ?_
      refine ab_W.go (mm _) 2 (c' := (22, [.ref 0, .int (nI s), .int y, .ref (1 + 2 + 2 * s)], [.int (nI 64), .int y], (0, 0), h)) rfl ?_
      refine ab_W.itF (mm _) (p := y < (nI 64)) (c1 := (28, [.ref 0, .int (nI s), .int y, .ref (1 + 2 + 2 * s)], [], (0, 0), h)) (c2 := (25, [.ref 0, .int (nI s), .int y, .ref (1 + 2 + 2 * s)], [], (0, 0), h)) rfl (fun z => Int32.not_le.mpr z q) ?_
      refine ab_W.go (mm _) 1 (c' := (27, [.ref 0, .int (nI s), .int y, .ref (1 + 2 + 2 * s)], [.int (-(nI 2))], (0, 0), h)) rfl ?_
      refine ab_W.retI (mm _) (rt := some .int) (v := -(nI 2)) rfl rfl ?_
      exact hp h hR (fun _ _ => rfl)
    · rw [show heightO σ.1 (nI j) (some s) = _ from ci_f (fun z => z.elim (nI_pos (by omega)) (fun z => absurd ((nI_leI (by omega) (by omega)).mp z) (by omega))), nI_clamp (by omega)] at hp
      refine ab_W.itF (mm _) (p := (nI j) < 0) (c1 := (25, [.ref 0, .int (nI s), .int (nI j), .ref (1 + 2 + 2 * s)], [], (0, 0), h)) (c2 := (19, [.ref 0, .int (nI s), .int (nI j), .ref (1 + 2 + 2 * s)], [], (0, 0), h)) rfl (nI_pos (by omega)) ?_
      refine ab_W.go (mm _) 2 (c' := (22, [.ref 0, .int (nI s), .int (nI j), .ref (1 + 2 + 2 * s)], [.int (nI 64), .int (nI j)], (0, 0), h)) rfl ?_
      refine ab_W.itT (mm _) (p := (nI j) < (nI 64)) (c1 := (28, [.ref 0, .int (nI s), .int (nI j), .ref (1 + 2 + 2 * s)], [], (0, 0), h)) (c2 := (25, [.ref 0, .int (nI s), .int (nI j), .ref (1 + 2 + 2 * s)], [], (0, 0), h)) rfl (nI_lt j1 (by omega)) ?_
      refine ab_W.go (mm _) 1 (c' := (29, [.ref 0, .int (nI s), .int (nI j), .ref (1 + 2 + 2 * s)], [.ref (1 + 2 + 2 * s)], (0, 0), h)) rfl ?_
      refine ab_W.o (mm _) (e) rfl (c' := (32, [.ref 0, .int (nI s), .int (nI j), .ref (1 + 2 + 2 * s)], [.ref (1 + 2 + 2 * s + 1)], (0, 0), h)) rfl ?_
      refine ab_W.go (mm _) 1 (c' := (33, [.ref 0, .int (nI s), .int (nI j), .ref (1 + 2 + 2 * s)], [.int (nI j), .ref (1 + 2 + 2 * s + 1)], (0, 0), h)) rfl ?_
      obtain ⟨-, g, f2, f3⟩ := rc.2.2 s hs
      refine ab_W.iald (mm _) (j := j) (f2) rfl (by omega) rfl rfl ?_
      show ab_W _ _ _ (34, [.ref 0, .int (nI s), .int (nI j), .ref (1 + 2 + 2 * s)], [.int (g j)], (0, 0), h)
      rw [f3 j j1]
      refine ab_W.retI (mm _) (rt := some .int) (v := ht σ.1 s j) rfl rfl ?_
      exact hp h hR (fun _ _ => rfl)
theorem sp_knows (d : Nat) {h : ab_H} {σ : Sg} {x : Int32} {y : Int32} (hR : relC h σ) (hn60 : hn σ.1 ≤ 60) {post : ab_P} (hp : okC h post (knowsO σ.1 y (stN σ.1 x)) (σ)) : mCC (d + 3) kSpanStamps_knows [.ref 0, .int x, .int y] h post := by
  have r0 := hR.1
  have rc := hR.2.1
  rcases stamp_or σ.1 x with hx | ⟨s, hs, rfl, hx⟩
  · rw [stN_no hx] at hp
    refine ⟨rfl, ?_⟩
    show ab_W _ _ _ (0, [.ref 0, .int x, .int y, .retAddr 0], [], (0, 0), h)
    refine ab_W.go (mm _) 1 (c' := (1, [.ref 0, .int x, .int y, .retAddr 0], [.ref 0], (0, 0), h)) rfl ?_
    refine ab_W.o (mm _) (r0) rfl (c' := (4, [.ref 0, .int x, .int y, .retAddr 0], [.ref 1], (0, 0), h)) rfl ?_
    refine ab_W.go (mm _) 1 (c' := (5, [.ref 0, .int x, .int y, .retAddr 0], [.int x, .ref 1], (0, 0), h)) rfl ?_
    refine ab_W.callV (mm _) (rc.1) rfl (k := 1) (av := [.ref 1, .int x]) (c' := (8, [.ref 0, .int x, .int y, .retAddr 0], [], (0, 0), h)) rfl ?_
    refine sp_findN _ rc hx ?_
    show ab_W _ _ _ (8, [.ref 0, .int x, .int y, .retAddr 0], [.null], (0, 0), h)
    refine ab_W.go (mm _) 2 (c' := (10, [.ref 0, .int x, .int y, .null], [.null], (0, 0), h)) rfl ?_
    refine ab_W.go (mm _) 1 (c' := (13, [.ref 0, .int x, .int y, .null], [], (0, 0), h)) rfl ?_
    refine ab_W.go (mm _) 1 (c' := (14, [.ref 0, .int x, .int y, .null], [.int (-(nI 1))], (0, 0), h)) rfl ?_
    refine ab_W.retI (mm _) (rt := some .int) (v := -(nI 1)) rfl rfl ?_
    exact hp h hR (fun _ _ => rfl)
  · rw [stN_yes hs hx] at hp
    have e := (rc.2.2 s hs).1
    refine ⟨rfl, ?_⟩
    show ab_W _ _ _ (0, [.ref 0, .int (nI s), .int y, .retAddr 0], [], (0, 0), h)
    refine ab_W.go (mm _) 1 (c' := (1, [.ref 0, .int (nI s), .int y, .retAddr 0], [.ref 0], (0, 0), h)) rfl ?_
    refine ab_W.o (mm _) (r0) rfl (c' := (4, [.ref 0, .int (nI s), .int y, .retAddr 0], [.ref 1], (0, 0), h)) rfl ?_
    refine ab_W.go (mm _) 1 (c' := (5, [.ref 0, .int (nI s), .int y, .retAddr 0], [.int (nI s), .ref 1], (0, 0), h)) rfl ?_
    refine ab_W.callV (mm _) (rc.1) rfl (k := 1) (av := [.ref 1, .int (nI s)]) (c' := (8, [.ref 0, .int (nI s), .int y, .retAddr 0], [], (0, 0), h)) rfl ?_
    refine sp_find _ rc hs hx ?_
    show ab_W _ _ _ (8, [.ref 0, .int (nI s), .int y, .retAddr 0], [.ref (1 + 2 + 2 * s)], (0, 0), h)
    refine ab_W.go (mm _) 2 (c' := (10, [.ref 0, .int (nI s), .int y, .ref (1 + 2 + 2 * s)], [.ref (1 + 2 + 2 * s)], (0, 0), h)) rfl ?_
    refine ab_W.go (mm _) 1 (c' := (15, [.ref 0, .int (nI s), .int y, .ref (1 + 2 + 2 * s)], [], (0, 0), h)) rfl ?_
    refine ab_W.go (mm _) 2 (c' := (17, [.ref 0, .int (nI s), .int y, .ref (1 + 2 + 2 * s)], [.int (-(nI 1)), .int y], (0, 0), h)) rfl ?_
    refine ab_W.ite (mm _) (p := y = (-(nI 1))) (c1 := (20, [.ref 0, .int (nI s), .int y, .ref (1 + 2 + 2 * s)], [], (0, 0), h)) (c2 := (28, [.ref 0, .int (nI s), .int y, .ref (1 + 2 + 2 * s)], [], (0, 0), h)) rfl (fun q => ?_) (fun q => ?_)
    · skip
      rw [show knowsO σ.1 y (some s) = _ from ci_t q] at hp
      refine ab_W.go (mm _) 1 (c' := (21, [.ref 0, .int (nI s), .int y, .ref (1 + 2 + 2 * s)], [.ref (1 + 2 + 2 * s)], (0, 0), h)) rfl ?_
      refine ab_W.o (mm _) (e) rfl (c' := (24, [.ref 0, .int (nI s), .int y, .ref (1 + 2 + 2 * s)], [.long (kn σ.1 s)], (0, 0), h)) rfl ?_
      refine ab_W.call (mm _) (k := 122) (av := [.long (kn σ.1 s)]) (c' := (27, [.ref 0, .int (nI s), .int y, .ref (1 + 2 + 2 * s)], [], (0, 0), h)) rfl ?_
      refine bit_count _ ?_
      show ab_W _ _ _ (27, [.ref 0, .int (nI s), .int y, .ref (1 + 2 + 2 * s)], [.int (nI (cnt (kn σ.1 s) 64))], (0, 0), h)
      refine ab_W.retI (mm _) (rt := some .int) (v := nI (cnt (kn σ.1 s) 64)) rfl rfl ?_
      exact hp h hR (fun _ _ => rfl)
    · skip
      refine ab_W.go (mm _) 1 (c' := (29, [.ref 0, .int (nI s), .int y, .ref (1 + 2 + 2 * s)], [.int y], (0, 0), h)) rfl ?_
      rcases pk_ix y (n := hn σ.1) (by omega) with q1 | q1 | ⟨j, j1, rfl⟩
      · rw [show knowsO σ.1 y (some s) = _ from (ci_f q).trans (ci_t (Or.inl q1))] at hp
        refine ab_W.itT (mm _) (p := y < 0) (c1 := (43, [.ref 0, .int (nI s), .int y, .ref (1 + 2 + 2 * s)], [], (0, 0), h)) (c2 := (32, [.ref 0, .int (nI s), .int y, .ref (1 + 2 + 2 * s)], [], (0, 0), h)) rfl (q1) ?_
        refine ab_W.go (mm _) 1 (c' := (45, [.ref 0, .int (nI s), .int y, .ref (1 + 2 + 2 * s)], [.int (-(nI 2))], (0, 0), h)) rfl ?_
        refine ab_W.retI (mm _) (rt := some .int) (v := -(nI 2)) rfl rfl ?_
        exact hp h hR (fun _ _ => rfl)
      · rw [show knowsO σ.1 y (some s) = _ from (ci_f q).trans (ci_t (Or.inr q1))] at hp
        refine ab_W.itF (mm _) (p := y < 0) (c1 := (43, [.ref 0, .int (nI s), .int y, .ref (1 + 2 + 2 * s)], [], (0, 0), h)) (c2 := (32, [.ref 0, .int (nI s), .int y, .ref (1 + 2 + 2 * s)], [], (0, 0), h)) rfl (nI_le0 q1 (by omega)) ?_
        refine ab_W.go (mm _) 2 (c' := (34, [.ref 0, .int (nI s), .int y, .ref (1 + 2 + 2 * s)], [.ref 0, .int y], (0, 0), h)) rfl ?_
        refine ab_W.o (mm _) (r0) rfl (c' := (37, [.ref 0, .int (nI s), .int y, .ref (1 + 2 + 2 * s)], [.ref 1, .int y], (0, 0), h)) rfl ?_
        refine ab_W.o (mm _) (rc.1) rfl (c' := (40, [.ref 0, .int (nI s), .int y, .ref (1 + 2 + 2 * s)], [.int (nI (hn σ.1)), .int y], (0, 0), h)) rfl ?_
        refine ab_W.itF (mm _) (p := y < (nI (hn σ.1))) (c1 := (46, [.ref 0, .int (nI s), .int y, .ref (1 + 2 + 2 * s)], [], (0, 0), h)) (c2 := (43, [.ref 0, .int (nI s), .int y, .ref (1 + 2 + 2 * s)], [], (0, 0), h)) rfl (fun z => Int32.not_le.mpr z q1) ?_
        refine ab_W.go (mm _) 1 (c' := (45, [.ref 0, .int (nI s), .int y, .ref (1 + 2 + 2 * s)], [.int (-(nI 2))], (0, 0), h)) rfl ?_
        refine ab_W.retI (mm _) (rt := some .int) (v := -(nI 2)) rfl rfl ?_
        exact hp h hR (fun _ _ => rfl)
      · rw [show knowsO σ.1 (nI j) (some s) = _ from (ci_f q).trans (ci_f (fun z => z.elim (nI_pos (by omega)) (fun z => absurd ((nI_leI (by omega) (by omega)).mp z) (by omega)))), nI_clamp (by omega)] at hp
        refine ab_W.itF (mm _) (p := (nI j) < 0) (c1 := (43, [.ref 0, .int (nI s), .int (nI j), .ref (1 + 2 + 2 * s)], [], (0, 0), h)) (c2 := (32, [.ref 0, .int (nI s), .int (nI j), .ref (1 + 2 + 2 * s)], [], (0, 0), h)) rfl (nI_pos (by omega)) ?_
        refine ab_W.go (mm _) 2 (c' := (34, [.ref 0, .int (nI s), .int (nI j), .ref (1 + 2 + 2 * s)], [.ref 0, .int (nI j)], (0, 0), h)) rfl ?_
        refine ab_W.o (mm _) (r0) rfl (c' := (37, [.ref 0, .int (nI s), .int (nI j), .ref (1 + 2 + 2 * s)], [.ref 1, .int (nI j)], (0, 0), h)) rfl ?_
        refine ab_W.o (mm _) (rc.1) rfl (c' := (40, [.ref 0, .int (nI s), .int (nI j), .ref (1 + 2 + 2 * s)], [.int (nI (hn σ.1)), .int (nI j)], (0, 0), h)) rfl ?_
        refine ab_W.itT (mm _) (p := (nI j) < (nI (hn σ.1))) (c1 := (46, [.ref 0, .int (nI s), .int (nI j), .ref (1 + 2 + 2 * s)], [], (0, 0), h)) (c2 := (43, [.ref 0, .int (nI s), .int (nI j), .ref (1 + 2 + 2 * s)], [], (0, 0), h)) rfl (nI_lt j1 (by omega)) ?_
        refine ab_W.go (mm _) 1 (c' := (47, [.ref 0, .int (nI s), .int (nI j), .ref (1 + 2 + 2 * s)], [.ref (1 + 2 + 2 * s)], (0, 0), h)) rfl ?_
        refine ab_W.o (mm _) (e) rfl (c' := (50, [.ref 0, .int (nI s), .int (nI j), .ref (1 + 2 + 2 * s)], [.long (kn σ.1 s)], (0, 0), h)) rfl ?_
        refine ab_W.go (mm _) 6 (c' := (56, [.ref 0, .int (nI s), .int (nI j), .ref (1 + 2 + 2 * s)], [.int (lg_cmp ((kn σ.1 s) &&& ((lN 1) <<< ((nI j).toInt64 &&& 63))) (lN 0))], (0, 0), h)) rfl ?_
        refine ab_W.ite (mm _) (p := (lg_cmp ((kn σ.1 s) &&& ((lN 1) <<< ((nI j).toInt64 &&& 63))) (lN 0)) = 0) (c1 := (63, [.ref 0, .int (nI s), .int (nI j), .ref (1 + 2 + 2 * s)], [], (0, 0), h)) (c2 := (59, [.ref 0, .int (nI s), .int (nI j), .ref (1 + 2 + 2 * s)], [], (0, 0), h)) rfl (fun q2 => ?_) (fun q2 => ?_)
        · skip
          have q2 := (and_one (by omega)).mp ((lg_cmp0 _ _).mp q2)
          rw [q2] at hp
          refine ab_W.go (mm _) 1 (c' := (64, [.ref 0, .int (nI s), .int (nI j), .ref (1 + 2 + 2 * s)], [.int (nI 0)], (0, 0), h)) rfl ?_
          refine ab_W.retI (mm _) (rt := some .int) (v := nI 0) rfl rfl ?_
          exact hp h hR (fun _ _ => rfl)
        · skip
          have q2 : bt (kn σ.1 s) j = true := by
            cases hb : bt (kn σ.1 s) j with
            | true => rfl
            | false => exact absurd ((lg_cmp0 _ _).mpr ((and_one (by omega)).mpr hb)) q2
          rw [q2] at hp
          refine ab_W.go (mm _) 2 (c' := (64, [.ref 0, .int (nI s), .int (nI j), .ref (1 + 2 + 2 * s)], [.int (nI 1)], (0, 0), h)) rfl ?_
          refine ab_W.retI (mm _) (rt := some .int) (v := nI 1) rfl rfl ?_
          exact hp h hR (fun _ _ => rfl)
theorem sp_name (d : Nat) {h : ab_H} {σ : Sg} {x : Int32} {y : Int32} (hR : relC h σ) {post : ab_P} (hp : okC h post (nameO σ.1 y (stN σ.1 x)) (σ)) : mCC (d + 13) kSpanStamps_name [.ref 0, .int x, .int y] h post := by
  have r0 := hR.1
  have rc := hR.2.1
  rcases stamp_or σ.1 x with hx | ⟨s, hs, rfl, hx⟩
  · rw [stN_no hx] at hp
    refine ⟨rfl, ?_⟩
    show ab_W _ _ _ (0, [.ref 0, .int x, .int y, .retAddr 0], [], (0, 0), h)
    refine ab_W.go (mm _) 1 (c' := (1, [.ref 0, .int x, .int y, .retAddr 0], [.ref 0], (0, 0), h)) rfl ?_
    refine ab_W.o (mm _) (r0) rfl (c' := (4, [.ref 0, .int x, .int y, .retAddr 0], [.ref 1], (0, 0), h)) rfl ?_
    refine ab_W.go (mm _) 1 (c' := (5, [.ref 0, .int x, .int y, .retAddr 0], [.int x, .ref 1], (0, 0), h)) rfl ?_
    refine ab_W.callV (mm _) (rc.1) rfl (k := 1) (av := [.ref 1, .int x]) (c' := (8, [.ref 0, .int x, .int y, .retAddr 0], [], (0, 0), h)) rfl ?_
    refine sp_findN _ rc hx ?_
    show ab_W _ _ _ (8, [.ref 0, .int x, .int y, .retAddr 0], [.null], (0, 0), h)
    refine ab_W.go (mm _) 2 (c' := (10, [.ref 0, .int x, .int y, .null], [.null], (0, 0), h)) rfl ?_
    refine ab_W.go (mm _) 1 (c' := (13, [.ref 0, .int x, .int y, .null], [], (0, 0), h)) rfl ?_
    refine ab_W.go (mm _) 1 (c' := (14, [.ref 0, .int x, .int y, .null], [.int (-(nI 1))], (0, 0), h)) rfl ?_
    refine ab_W.retI (mm _) (rt := some .int) (v := -(nI 1)) rfl rfl ?_
    exact hp h hR (fun _ _ => rfl)
  · rw [stN_yes hs hx] at hp
    have e := (rc.2.2 s hs).1
    refine ⟨rfl, ?_⟩
    show ab_W _ _ _ (0, [.ref 0, .int (nI s), .int y, .retAddr 0], [], (0, 0), h)
    refine ab_W.go (mm _) 1 (c' := (1, [.ref 0, .int (nI s), .int y, .retAddr 0], [.ref 0], (0, 0), h)) rfl ?_
    refine ab_W.o (mm _) (r0) rfl (c' := (4, [.ref 0, .int (nI s), .int y, .retAddr 0], [.ref 1], (0, 0), h)) rfl ?_
    refine ab_W.go (mm _) 1 (c' := (5, [.ref 0, .int (nI s), .int y, .retAddr 0], [.int (nI s), .ref 1], (0, 0), h)) rfl ?_
    refine ab_W.callV (mm _) (rc.1) rfl (k := 1) (av := [.ref 1, .int (nI s)]) (c' := (8, [.ref 0, .int (nI s), .int y, .retAddr 0], [], (0, 0), h)) rfl ?_
    refine sp_find _ rc hs hx ?_
    show ab_W _ _ _ (8, [.ref 0, .int (nI s), .int y, .retAddr 0], [.ref (1 + 2 + 2 * s)], (0, 0), h)
    refine ab_W.go (mm _) 2 (c' := (10, [.ref 0, .int (nI s), .int y, .ref (1 + 2 + 2 * s)], [.ref (1 + 2 + 2 * s)], (0, 0), h)) rfl ?_
    refine ab_W.go (mm _) 1 (c' := (15, [.ref 0, .int (nI s), .int y, .ref (1 + 2 + 2 * s)], [], (0, 0), h)) rfl ?_
    refine ab_W.go (mm _) 2 (c' := (17, [.ref 0, .int (nI s), .int y, .ref (1 + 2 + 2 * s)], [.int (-(nI 1)), .int y], (0, 0), h)) rfl ?_
    refine ab_W.ite (mm _) (p := (-(nI 1)) ≤ y) (c1 := (23, [.ref 0, .int (nI s), .int y, .ref (1 + 2 + 2 * s)], [], (0, 0), h)) (c2 := (20, [.ref 0, .int (nI s), .int y, .ref (1 + 2 + 2 * s)], [], (0, 0), h)) rfl (fun q => ?_) (fun q => ?_)
    · skip
      rw [show nameO σ.1 y (some s) = _ from ci_f (fun z => Int32.not_le.mpr z q)] at hp
      obtain ⟨-, g, f2, f3⟩ := rc.2.2 s hs
      obtain ⟨-, -, -, -, -, ⟨z, r6⟩, ⟨g2, r7⟩, -, -⟩ := id hR
      refine ab_W.go (mm _) 1 (c' := (24, [.ref 0, .int (nI s), .int y, .ref (1 + 2 + 2 * s)], [.ref 0], (0, 0), h)) rfl ?_
      refine ab_W.o (mm _) (r0) rfl (c' := (27, [.ref 0, .int (nI s), .int y, .ref (1 + 2 + 2 * s)], [.ref 30], (0, 0), h)) rfl ?_
      refine ab_W.go (mm _) 1 (c' := (28, [.ref 0, .int (nI s), .int y, .ref (1 + 2 + 2 * s)], [.int (nI 0), .ref 30], (0, 0), h)) rfl ?_
      refine ab_W.o (mm _) (r6) rfl (c' := (31, [.ref 0, .int (nI s), .int y, .ref (1 + 2 + 2 * s)], [], (0, 0), h.set 30 (.inr (2, [.ref 31, .int (nI 0)])))) rfl ?_
      obtain ⟨h1, e1⟩ : ∃ h1, h1 = h.set 30 (.inr (2, [.ref 31, .int (nI 0)])) := ⟨_, rfl⟩
      refine ab_W.hp (e1.symm) ?_
      show ab_W _ _ _ (31, [.ref 0, .int (nI s), .int y, .ref (1 + 2 + 2 * s)], [], (0, 0), h1)
      have k1 : ∀ i, i ≠ 30 → h1[i]? = h[i]? := fun i hi => by rw [e1]; exact set_ne (fun z => hi z.symm)
      have r1 : rowP h1 30 [] := ⟨by rw [e1]; exact set_at r6, g2, (k1 _ (by decide)).trans r7, fun i hi => absurd hi (Nat.not_lt_zero _)⟩
      have r0' := (k1 0 (by decide)).trans r0
      have e := (k1 _ (by omega)).trans e
      refine ab_W.go (mm _) 1 (c' := (32, [.ref 0, .int (nI s), .int y, .ref (1 + 2 + 2 * s)], [.ref 0], (0, 0), h1)) rfl ?_
      refine ab_W.o (mm _) (r0') rfl (c' := (35, [.ref 0, .int (nI s), .int y, .ref (1 + 2 + 2 * s)], [.ref 30], (0, 0), h1)) rfl ?_
      refine ab_W.go (mm _) 1 (c' := (36, [.ref 0, .int (nI s), .int y, .ref (1 + 2 + 2 * s)], [.ref (1 + 2 + 2 * s), .ref 30], (0, 0), h1)) rfl ?_
      refine ab_W.o (mm _) (e) rfl (c' := (39, [.ref 0, .int (nI s), .int y, .ref (1 + 2 + 2 * s)], [.long (nm σ.1 s), .ref 30], (0, 0), h1)) rfl ?_
      refine ab_W.go (mm _) 2 (c' := (41, [.ref 0, .int (nI s), .int y, .ref (1 + 2 + 2 * s)], [.int (nI 0), .int (nI 0), .long (nm σ.1 s), .ref 30], (0, 0), h1)) rfl ?_
      refine ab_W.call (mm _) (k := 61) (av := [.ref 30, .long (nm σ.1 s), .int (nI 0), .int (nI 0)]) (c' := (44, [.ref 0, .int (nI s), .int y, .ref (1 + 2 + 2 * s)], [], (0, 0), h1)) rfl ?_
      refine sp_wName 6 1 (by decide) (by decide) (by decide) _ (by omega) h1 [] r1 (by have := nT_len (nm σ.1 s) 6 1; simp only [List.length_nil]; omega) (fun h2 r2 k2 => ?_)
      have r2 : rowP h2 30 (nT (nm σ.1 s) 6 1) := r2
      show ab_W _ _ _ (44, [.ref 0, .int (nI s), .int y, .ref (1 + 2 + 2 * s)], [], (0, 0), h2)
      refine ab_W.go (mm _) 1 (c' := (45, [.ref 0, .int (nI s), .int y, .ref (1 + 2 + 2 * s)], [.ref 0], (0, 0), h2)) rfl ?_
      refine ab_W.o (mm _) ((k2 0 (by decide) (by decide)).trans r0') rfl (c' := (48, [.ref 0, .int (nI s), .int y, .ref (1 + 2 + 2 * s)], [.ref 30], (0, 0), h2)) rfl ?_
      refine ab_W.go (mm _) 1 (c' := (49, [.ref 0, .int (nI s), .int y, .ref (1 + 2 + 2 * s)], [.int y, .ref 30], (0, 0), h2)) rfl ?_
      refine ab_W.callV (mm _) (r2.1) rfl (k := 21) (av := [.ref 30, .int y]) (c' := (52, [.ref 0, .int (nI s), .int y, .ref (1 + 2 + 2 * s)], [], (0, 0), h2)) rfl ?_
      refine sp_tell _ r2 (by have := nT_len (nm σ.1 s) 6 1; omega) ?_
      show ab_W _ _ _ (52, [.ref 0, .int (nI s), .int y, .ref (1 + 2 + 2 * s)], [.int (tlF (nT (nm σ.1 s) 6 1) y)], (0, 0), h2)
      refine ab_W.retI (mm _) (rt := some .int) (v := tlF (nT (nm σ.1 s) 6 1) y) rfl rfl ?_
      exact hp _ (hR.row r2 (fun i i1 i2 => (k2 i i1 i2).trans (k1 i i1))) (fun i hi => (k2 i (by omega) (by omega)).trans (k1 i (by omega)))
    · skip
      rw [show nameO σ.1 y (some s) = _ from ci_t (Int32.not_le.mp q)] at hp
      refine ab_W.go (mm _) 1 (c' := (22, [.ref 0, .int (nI s), .int y, .ref (1 + 2 + 2 * s)], [.int (-(nI 2))], (0, 0), h)) rfl ?_
      refine ab_W.retI (mm _) (rt := some .int) (v := -(nI 2)) rfl rfl ?_
      exact hp h hR (fun _ _ => rfl)
theorem sp_tree (d : Nat) {h : ab_H} {σ : Sg} {x : Int32} {y : Int32} (hR : relC h σ) {post : ab_P} (hp : okC h post (treeO σ.1 y (stN σ.1 x)) (σ)) : mCC (d + 13) kSpanStamps_tree [.ref 0, .int x, .int y] h post := by
  have r0 := hR.1
  have rc := hR.2.1
  rcases stamp_or σ.1 x with hx | ⟨s, hs, rfl, hx⟩
  · rw [stN_no hx] at hp
    refine ⟨rfl, ?_⟩
    show ab_W _ _ _ (0, [.ref 0, .int x, .int y, .retAddr 0], [], (0, 0), h)
    refine ab_W.go (mm _) 1 (c' := (1, [.ref 0, .int x, .int y, .retAddr 0], [.ref 0], (0, 0), h)) rfl ?_
    refine ab_W.o (mm _) (r0) rfl (c' := (4, [.ref 0, .int x, .int y, .retAddr 0], [.ref 1], (0, 0), h)) rfl ?_
    refine ab_W.go (mm _) 1 (c' := (5, [.ref 0, .int x, .int y, .retAddr 0], [.int x, .ref 1], (0, 0), h)) rfl ?_
    refine ab_W.callV (mm _) (rc.1) rfl (k := 1) (av := [.ref 1, .int x]) (c' := (8, [.ref 0, .int x, .int y, .retAddr 0], [], (0, 0), h)) rfl ?_
    refine sp_findN _ rc hx ?_
    show ab_W _ _ _ (8, [.ref 0, .int x, .int y, .retAddr 0], [.null], (0, 0), h)
    refine ab_W.go (mm _) 2 (c' := (10, [.ref 0, .int x, .int y, .null], [.null], (0, 0), h)) rfl ?_
    refine ab_W.go (mm _) 1 (c' := (13, [.ref 0, .int x, .int y, .null], [], (0, 0), h)) rfl ?_
    refine ab_W.go (mm _) 1 (c' := (14, [.ref 0, .int x, .int y, .null], [.int (-(nI 1))], (0, 0), h)) rfl ?_
    refine ab_W.retI (mm _) (rt := some .int) (v := -(nI 1)) rfl rfl ?_
    exact hp h hR (fun _ _ => rfl)
  · rw [stN_yes hs hx] at hp
    have e := (rc.2.2 s hs).1
    refine ⟨rfl, ?_⟩
    show ab_W _ _ _ (0, [.ref 0, .int (nI s), .int y, .retAddr 0], [], (0, 0), h)
    refine ab_W.go (mm _) 1 (c' := (1, [.ref 0, .int (nI s), .int y, .retAddr 0], [.ref 0], (0, 0), h)) rfl ?_
    refine ab_W.o (mm _) (r0) rfl (c' := (4, [.ref 0, .int (nI s), .int y, .retAddr 0], [.ref 1], (0, 0), h)) rfl ?_
    refine ab_W.go (mm _) 1 (c' := (5, [.ref 0, .int (nI s), .int y, .retAddr 0], [.int (nI s), .ref 1], (0, 0), h)) rfl ?_
    refine ab_W.callV (mm _) (rc.1) rfl (k := 1) (av := [.ref 1, .int (nI s)]) (c' := (8, [.ref 0, .int (nI s), .int y, .retAddr 0], [], (0, 0), h)) rfl ?_
    refine sp_find _ rc hs hx ?_
    show ab_W _ _ _ (8, [.ref 0, .int (nI s), .int y, .retAddr 0], [.ref (1 + 2 + 2 * s)], (0, 0), h)
    refine ab_W.go (mm _) 2 (c' := (10, [.ref 0, .int (nI s), .int y, .ref (1 + 2 + 2 * s)], [.ref (1 + 2 + 2 * s)], (0, 0), h)) rfl ?_
    refine ab_W.go (mm _) 1 (c' := (15, [.ref 0, .int (nI s), .int y, .ref (1 + 2 + 2 * s)], [], (0, 0), h)) rfl ?_
    refine ab_W.go (mm _) 2 (c' := (17, [.ref 0, .int (nI s), .int y, .ref (1 + 2 + 2 * s)], [.int (-(nI 1)), .int y], (0, 0), h)) rfl ?_
    refine ab_W.ite (mm _) (p := (-(nI 1)) ≤ y) (c1 := (23, [.ref 0, .int (nI s), .int y, .ref (1 + 2 + 2 * s)], [], (0, 0), h)) (c2 := (20, [.ref 0, .int (nI s), .int y, .ref (1 + 2 + 2 * s)], [], (0, 0), h)) rfl (fun q => ?_) (fun q => ?_)
    · skip
      rw [show treeO σ.1 y (some s) = _ from ci_f (fun z => Int32.not_le.mpr z q)] at hp
      obtain ⟨-, g, f2, f3⟩ := rc.2.2 s hs
      obtain ⟨-, -, -, -, -, ⟨z, r6⟩, ⟨g2, r7⟩, -, -⟩ := id hR
      refine ab_W.go (mm _) 1 (c' := (24, [.ref 0, .int (nI s), .int y, .ref (1 + 2 + 2 * s)], [.ref 0], (0, 0), h)) rfl ?_
      refine ab_W.o (mm _) (r0) rfl (c' := (27, [.ref 0, .int (nI s), .int y, .ref (1 + 2 + 2 * s)], [.ref 30], (0, 0), h)) rfl ?_
      refine ab_W.go (mm _) 1 (c' := (28, [.ref 0, .int (nI s), .int y, .ref (1 + 2 + 2 * s)], [.int (nI 0), .ref 30], (0, 0), h)) rfl ?_
      refine ab_W.o (mm _) (r6) rfl (c' := (31, [.ref 0, .int (nI s), .int y, .ref (1 + 2 + 2 * s)], [], (0, 0), h.set 30 (.inr (2, [.ref 31, .int (nI 0)])))) rfl ?_
      obtain ⟨h1, e1⟩ : ∃ h1, h1 = h.set 30 (.inr (2, [.ref 31, .int (nI 0)])) := ⟨_, rfl⟩
      refine ab_W.hp (e1.symm) ?_
      show ab_W _ _ _ (31, [.ref 0, .int (nI s), .int y, .ref (1 + 2 + 2 * s)], [], (0, 0), h1)
      have k1 : ∀ i, i ≠ 30 → h1[i]? = h[i]? := fun i hi => by rw [e1]; exact set_ne (fun z => hi z.symm)
      have r1 : rowP h1 30 [] := ⟨by rw [e1]; exact set_at r6, g2, (k1 _ (by decide)).trans r7, fun i hi => absurd hi (Nat.not_lt_zero _)⟩
      have r0' := (k1 0 (by decide)).trans r0
      have e := (k1 _ (by omega)).trans e
      refine ab_W.go (mm _) 1 (c' := (32, [.ref 0, .int (nI s), .int y, .ref (1 + 2 + 2 * s)], [.ref 0], (0, 0), h1)) rfl ?_
      refine ab_W.o (mm _) (r0') rfl (c' := (35, [.ref 0, .int (nI s), .int y, .ref (1 + 2 + 2 * s)], [.ref 30], (0, 0), h1)) rfl ?_
      refine ab_W.go (mm _) 1 (c' := (36, [.ref 0, .int (nI s), .int y, .ref (1 + 2 + 2 * s)], [.ref (1 + 2 + 2 * s), .ref 30], (0, 0), h1)) rfl ?_
      refine ab_W.o (mm _) (e) rfl (c' := (39, [.ref 0, .int (nI s), .int y, .ref (1 + 2 + 2 * s)], [.ref (1 + 2 + 2 * s + 1), .ref 30], (0, 0), h1)) rfl ?_
      refine ab_W.go (mm _) 3 (c' := (42, [.ref 0, .int (nI s), .int y, .ref (1 + 2 + 2 * s)], [.int (nI 0), .int (nI 0), .int (nI 0), .ref (1 + 2 + 2 * s + 1), .ref 30], (0, 0), h1)) rfl ?_
      refine ab_W.call (mm _) (k := 62) (av := [.ref 30, .ref (1 + 2 + 2 * s + 1), .int (nI 0), .int (nI 0), .int (nI 0)]) (c' := (45, [.ref 0, .int (nI s), .int y, .ref (1 + 2 + 2 * s)], [], (0, 0), h1)) rfl ?_
      refine sp_wHeights (by omega) (by omega) 6 1 (by decide) (by decide) (by decide) _ (by omega) h1 [] (nI 0) r1 ((k1 _ (by omega)).trans f2) (by have := hT_len g 6 1 (nI 0); simp only [List.length_nil]; omega) (fun h2 r2 k2 => ?_)
      have r2 : rowP h2 30 (hT g 6 1 (nI 0)) := r2
      rw [hT_congr f3 6 1 (by decide) (by decide) (by decide)] at r2
      show ab_W _ _ _ (45, [.ref 0, .int (nI s), .int y, .ref (1 + 2 + 2 * s)], [], (0, 0), h2)
      refine ab_W.go (mm _) 1 (c' := (46, [.ref 0, .int (nI s), .int y, .ref (1 + 2 + 2 * s)], [.ref 0], (0, 0), h2)) rfl ?_
      refine ab_W.o (mm _) ((k2 0 (by decide) (by decide)).trans r0') rfl (c' := (49, [.ref 0, .int (nI s), .int y, .ref (1 + 2 + 2 * s)], [.ref 30], (0, 0), h2)) rfl ?_
      refine ab_W.go (mm _) 1 (c' := (50, [.ref 0, .int (nI s), .int y, .ref (1 + 2 + 2 * s)], [.int y, .ref 30], (0, 0), h2)) rfl ?_
      refine ab_W.callV (mm _) (r2.1) rfl (k := 21) (av := [.ref 30, .int y]) (c' := (53, [.ref 0, .int (nI s), .int y, .ref (1 + 2 + 2 * s)], [], (0, 0), h2)) rfl ?_
      refine sp_tell _ r2 (by have := hT_len (ht σ.1 s) 6 1 (nI 0); omega) ?_
      show ab_W _ _ _ (53, [.ref 0, .int (nI s), .int y, .ref (1 + 2 + 2 * s)], [.int (tlF (hT (ht σ.1 s) 6 1 (nI 0)) y)], (0, 0), h2)
      refine ab_W.retI (mm _) (rt := some .int) (v := tlF (hT (ht σ.1 s) 6 1 (nI 0)) y) rfl rfl ?_
      exact hp _ (hR.row r2 (fun i i1 i2 => (k2 i i1 i2).trans (k1 i i1))) (fun i hi => (k2 i (by omega) (by omega)).trans (k1 i (by omega)))
    · skip
      rw [show treeO σ.1 y (some s) = _ from ci_t (Int32.not_le.mp q)] at hp
      refine ab_W.go (mm _) 1 (c' := (22, [.ref 0, .int (nI s), .int y, .ref (1 + 2 + 2 * s)], [.int (-(nI 2))], (0, 0), h)) rfl ?_
      refine ab_W.retI (mm _) (rt := some .int) (v := -(nI 2)) rfl rfl ?_
      exact hp h hR (fun _ _ => rfl)
end
section
/-! THE LAST CALLS OF THE CLASS -/
theorem sp_share (d : Nat) {h : ab_H} {σ : Sg} {x : Int32} {y : Int32} (hR : relC h σ) {post : ab_P} (hp : okC h post ((shareO σ.1 (stN σ.1 x) (stN σ.1 y)).1) ((shareO σ.1 (stN σ.1 x) (stN σ.1 y)).2, σ.2)) : mCC (d + 6) kSpanStamps_share [.ref 0, .int x, .int y] h post := by
  have r0 := hR.1
  have rc := hR.2.1
  rcases stamp_or σ.1 x with hx | ⟨s, hs, rfl, hx⟩
  · rw [stN_no hx] at hp
    rcases stamp_or σ.1 y with hy | ⟨t, ht', rfl, hy⟩
    · refine ⟨rfl, ?_⟩
      show ab_W _ _ _ (0, [.ref 0, .int x, .int y, .retAddr 0, .retAddr 0, .retAddr 0, .retAddr 0], [], (0, 0), h)
      refine ab_W.go (mm _) 1 (c' := (1, [.ref 0, .int x, .int y, .retAddr 0, .retAddr 0, .retAddr 0, .retAddr 0], [.ref 0], (0, 0), h)) rfl ?_
      refine ab_W.o (mm _) (r0) rfl (c' := (4, [.ref 0, .int x, .int y, .retAddr 0, .retAddr 0, .retAddr 0, .retAddr 0], [.ref 1], (0, 0), h)) rfl ?_
      refine ab_W.go (mm _) 1 (c' := (5, [.ref 0, .int x, .int y, .retAddr 0, .retAddr 0, .retAddr 0, .retAddr 0], [.int x, .ref 1], (0, 0), h)) rfl ?_
      refine ab_W.callV (mm _) (rc.1) rfl (k := 1) (av := [.ref 1, .int x]) (c' := (8, [.ref 0, .int x, .int y, .retAddr 0, .retAddr 0, .retAddr 0, .retAddr 0], [], (0, 0), h)) rfl ?_
      refine sp_findN _ rc hx ?_
      show ab_W _ _ _ (8, [.ref 0, .int x, .int y, .retAddr 0, .retAddr 0, .retAddr 0, .retAddr 0], [.null], (0, 0), h)
      refine ab_W.go (mm _) 2 (c' := (10, [.ref 0, .int x, .int y, .null, .retAddr 0, .retAddr 0, .retAddr 0], [.ref 0], (0, 0), h)) rfl ?_
      refine ab_W.o (mm _) (r0) rfl (c' := (13, [.ref 0, .int x, .int y, .null, .retAddr 0, .retAddr 0, .retAddr 0], [.ref 1], (0, 0), h)) rfl ?_
      refine ab_W.go (mm _) 1 (c' := (14, [.ref 0, .int x, .int y, .null, .retAddr 0, .retAddr 0, .retAddr 0], [.int y, .ref 1], (0, 0), h)) rfl ?_
      refine ab_W.callV (mm _) (rc.1) rfl (k := 1) (av := [.ref 1, .int y]) (c' := (17, [.ref 0, .int x, .int y, .null, .retAddr 0, .retAddr 0, .retAddr 0], [], (0, 0), h)) rfl ?_
      refine sp_findN _ rc hy ?_
      show ab_W _ _ _ (17, [.ref 0, .int x, .int y, .null, .retAddr 0, .retAddr 0, .retAddr 0], [.null], (0, 0), h)
      refine ab_W.go (mm _) 2 (c' := (20, [.ref 0, .int x, .int y, .null, .null, .retAddr 0, .retAddr 0], [.null], (0, 0), h)) rfl ?_
      refine ab_W.go (mm _) 1 (c' := (28, [.ref 0, .int x, .int y, .null, .null, .retAddr 0, .retAddr 0], [], (0, 0), h)) rfl ?_
      refine ab_W.go (mm _) 1 (c' := (29, [.ref 0, .int x, .int y, .null, .null, .retAddr 0, .retAddr 0], [.int (-(nI 1))], (0, 0), h)) rfl ?_
      refine ab_W.retI (mm _) (rt := some .int) (v := -(nI 1)) rfl rfl ?_
      exact hp h hR (fun _ _ => rfl)
    · refine ⟨rfl, ?_⟩
      show ab_W _ _ _ (0, [.ref 0, .int x, .int (nI t), .retAddr 0, .retAddr 0, .retAddr 0, .retAddr 0], [], (0, 0), h)
      refine ab_W.go (mm _) 1 (c' := (1, [.ref 0, .int x, .int (nI t), .retAddr 0, .retAddr 0, .retAddr 0, .retAddr 0], [.ref 0], (0, 0), h)) rfl ?_
      refine ab_W.o (mm _) (r0) rfl (c' := (4, [.ref 0, .int x, .int (nI t), .retAddr 0, .retAddr 0, .retAddr 0, .retAddr 0], [.ref 1], (0, 0), h)) rfl ?_
      refine ab_W.go (mm _) 1 (c' := (5, [.ref 0, .int x, .int (nI t), .retAddr 0, .retAddr 0, .retAddr 0, .retAddr 0], [.int x, .ref 1], (0, 0), h)) rfl ?_
      refine ab_W.callV (mm _) (rc.1) rfl (k := 1) (av := [.ref 1, .int x]) (c' := (8, [.ref 0, .int x, .int (nI t), .retAddr 0, .retAddr 0, .retAddr 0, .retAddr 0], [], (0, 0), h)) rfl ?_
      refine sp_findN _ rc hx ?_
      show ab_W _ _ _ (8, [.ref 0, .int x, .int (nI t), .retAddr 0, .retAddr 0, .retAddr 0, .retAddr 0], [.null], (0, 0), h)
      refine ab_W.go (mm _) 2 (c' := (10, [.ref 0, .int x, .int (nI t), .null, .retAddr 0, .retAddr 0, .retAddr 0], [.ref 0], (0, 0), h)) rfl ?_
      refine ab_W.o (mm _) (r0) rfl (c' := (13, [.ref 0, .int x, .int (nI t), .null, .retAddr 0, .retAddr 0, .retAddr 0], [.ref 1], (0, 0), h)) rfl ?_
      refine ab_W.go (mm _) 1 (c' := (14, [.ref 0, .int x, .int (nI t), .null, .retAddr 0, .retAddr 0, .retAddr 0], [.int (nI t), .ref 1], (0, 0), h)) rfl ?_
      refine ab_W.callV (mm _) (rc.1) rfl (k := 1) (av := [.ref 1, .int (nI t)]) (c' := (17, [.ref 0, .int x, .int (nI t), .null, .retAddr 0, .retAddr 0, .retAddr 0], [], (0, 0), h)) rfl ?_
      refine sp_find _ rc ht' hy ?_
      show ab_W _ _ _ (17, [.ref 0, .int x, .int (nI t), .null, .retAddr 0, .retAddr 0, .retAddr 0], [.ref (1 + 2 + 2 * t)], (0, 0), h)
      refine ab_W.go (mm _) 2 (c' := (20, [.ref 0, .int x, .int (nI t), .null, .ref (1 + 2 + 2 * t), .retAddr 0, .retAddr 0], [.null], (0, 0), h)) rfl ?_
      refine ab_W.go (mm _) 1 (c' := (28, [.ref 0, .int x, .int (nI t), .null, .ref (1 + 2 + 2 * t), .retAddr 0, .retAddr 0], [], (0, 0), h)) rfl ?_
      refine ab_W.go (mm _) 1 (c' := (29, [.ref 0, .int x, .int (nI t), .null, .ref (1 + 2 + 2 * t), .retAddr 0, .retAddr 0], [.int (-(nI 1))], (0, 0), h)) rfl ?_
      refine ab_W.retI (mm _) (rt := some .int) (v := -(nI 1)) rfl rfl ?_
      exact hp h hR (fun _ _ => rfl)
  · rw [stN_yes hs hx] at hp
    rcases stamp_or σ.1 y with hy | ⟨t, ht', rfl, hy⟩
    · rw [stN_no hy] at hp
      refine ⟨rfl, ?_⟩
      show ab_W _ _ _ (0, [.ref 0, .int (nI s), .int y, .retAddr 0, .retAddr 0, .retAddr 0, .retAddr 0], [], (0, 0), h)
      refine ab_W.go (mm _) 1 (c' := (1, [.ref 0, .int (nI s), .int y, .retAddr 0, .retAddr 0, .retAddr 0, .retAddr 0], [.ref 0], (0, 0), h)) rfl ?_
      refine ab_W.o (mm _) (r0) rfl (c' := (4, [.ref 0, .int (nI s), .int y, .retAddr 0, .retAddr 0, .retAddr 0, .retAddr 0], [.ref 1], (0, 0), h)) rfl ?_
      refine ab_W.go (mm _) 1 (c' := (5, [.ref 0, .int (nI s), .int y, .retAddr 0, .retAddr 0, .retAddr 0, .retAddr 0], [.int (nI s), .ref 1], (0, 0), h)) rfl ?_
      refine ab_W.callV (mm _) (rc.1) rfl (k := 1) (av := [.ref 1, .int (nI s)]) (c' := (8, [.ref 0, .int (nI s), .int y, .retAddr 0, .retAddr 0, .retAddr 0, .retAddr 0], [], (0, 0), h)) rfl ?_
      refine sp_find _ rc hs hx ?_
      show ab_W _ _ _ (8, [.ref 0, .int (nI s), .int y, .retAddr 0, .retAddr 0, .retAddr 0, .retAddr 0], [.ref (1 + 2 + 2 * s)], (0, 0), h)
      refine ab_W.go (mm _) 2 (c' := (10, [.ref 0, .int (nI s), .int y, .ref (1 + 2 + 2 * s), .retAddr 0, .retAddr 0, .retAddr 0], [.ref 0], (0, 0), h)) rfl ?_
      refine ab_W.o (mm _) (r0) rfl (c' := (13, [.ref 0, .int (nI s), .int y, .ref (1 + 2 + 2 * s), .retAddr 0, .retAddr 0, .retAddr 0], [.ref 1], (0, 0), h)) rfl ?_
      refine ab_W.go (mm _) 1 (c' := (14, [.ref 0, .int (nI s), .int y, .ref (1 + 2 + 2 * s), .retAddr 0, .retAddr 0, .retAddr 0], [.int y, .ref 1], (0, 0), h)) rfl ?_
      refine ab_W.callV (mm _) (rc.1) rfl (k := 1) (av := [.ref 1, .int y]) (c' := (17, [.ref 0, .int (nI s), .int y, .ref (1 + 2 + 2 * s), .retAddr 0, .retAddr 0, .retAddr 0], [], (0, 0), h)) rfl ?_
      refine sp_findN _ rc hy ?_
      show ab_W _ _ _ (17, [.ref 0, .int (nI s), .int y, .ref (1 + 2 + 2 * s), .retAddr 0, .retAddr 0, .retAddr 0], [.null], (0, 0), h)
      refine ab_W.go (mm _) 2 (c' := (20, [.ref 0, .int (nI s), .int y, .ref (1 + 2 + 2 * s), .null, .retAddr 0, .retAddr 0], [.ref (1 + 2 + 2 * s)], (0, 0), h)) rfl ?_
      refine ab_W.go (mm _) 1 (c' := (23, [.ref 0, .int (nI s), .int y, .ref (1 + 2 + 2 * s), .null, .retAddr 0, .retAddr 0], [], (0, 0), h)) rfl ?_
      refine ab_W.go (mm _) 1 (c' := (25, [.ref 0, .int (nI s), .int y, .ref (1 + 2 + 2 * s), .null, .retAddr 0, .retAddr 0], [.null], (0, 0), h)) rfl ?_
      refine ab_W.go (mm _) 1 (c' := (28, [.ref 0, .int (nI s), .int y, .ref (1 + 2 + 2 * s), .null, .retAddr 0, .retAddr 0], [], (0, 0), h)) rfl ?_
      refine ab_W.go (mm _) 1 (c' := (29, [.ref 0, .int (nI s), .int y, .ref (1 + 2 + 2 * s), .null, .retAddr 0, .retAddr 0], [.int (-(nI 1))], (0, 0), h)) rfl ?_
      refine ab_W.retI (mm _) (rt := some .int) (v := -(nI 1)) rfl rfl ?_
      exact hp h hR (fun _ _ => rfl)
    · rw [stN_yes ht' hy] at hp
      have e := (rc.2.2 s hs).1
      have e' := (rc.2.2 t ht').1
      refine ⟨rfl, ?_⟩
      show ab_W _ _ _ (0, [.ref 0, .int (nI s), .int (nI t), .retAddr 0, .retAddr 0, .retAddr 0, .retAddr 0], [], (0, 0), h)
      refine ab_W.go (mm _) 1 (c' := (1, [.ref 0, .int (nI s), .int (nI t), .retAddr 0, .retAddr 0, .retAddr 0, .retAddr 0], [.ref 0], (0, 0), h)) rfl ?_
      refine ab_W.o (mm _) (r0) rfl (c' := (4, [.ref 0, .int (nI s), .int (nI t), .retAddr 0, .retAddr 0, .retAddr 0, .retAddr 0], [.ref 1], (0, 0), h)) rfl ?_
      refine ab_W.go (mm _) 1 (c' := (5, [.ref 0, .int (nI s), .int (nI t), .retAddr 0, .retAddr 0, .retAddr 0, .retAddr 0], [.int (nI s), .ref 1], (0, 0), h)) rfl ?_
      refine ab_W.callV (mm _) (rc.1) rfl (k := 1) (av := [.ref 1, .int (nI s)]) (c' := (8, [.ref 0, .int (nI s), .int (nI t), .retAddr 0, .retAddr 0, .retAddr 0, .retAddr 0], [], (0, 0), h)) rfl ?_
      refine sp_find _ rc hs hx ?_
      show ab_W _ _ _ (8, [.ref 0, .int (nI s), .int (nI t), .retAddr 0, .retAddr 0, .retAddr 0, .retAddr 0], [.ref (1 + 2 + 2 * s)], (0, 0), h)
      refine ab_W.go (mm _) 2 (c' := (10, [.ref 0, .int (nI s), .int (nI t), .ref (1 + 2 + 2 * s), .retAddr 0, .retAddr 0, .retAddr 0], [.ref 0], (0, 0), h)) rfl ?_
      refine ab_W.o (mm _) (r0) rfl (c' := (13, [.ref 0, .int (nI s), .int (nI t), .ref (1 + 2 + 2 * s), .retAddr 0, .retAddr 0, .retAddr 0], [.ref 1], (0, 0), h)) rfl ?_
      refine ab_W.go (mm _) 1 (c' := (14, [.ref 0, .int (nI s), .int (nI t), .ref (1 + 2 + 2 * s), .retAddr 0, .retAddr 0, .retAddr 0], [.int (nI t), .ref 1], (0, 0), h)) rfl ?_
      refine ab_W.callV (mm _) (rc.1) rfl (k := 1) (av := [.ref 1, .int (nI t)]) (c' := (17, [.ref 0, .int (nI s), .int (nI t), .ref (1 + 2 + 2 * s), .retAddr 0, .retAddr 0, .retAddr 0], [], (0, 0), h)) rfl ?_
      refine sp_find _ rc ht' hy ?_
      show ab_W _ _ _ (17, [.ref 0, .int (nI s), .int (nI t), .ref (1 + 2 + 2 * s), .retAddr 0, .retAddr 0, .retAddr 0], [.ref (1 + 2 + 2 * t)], (0, 0), h)
      refine ab_W.go (mm _) 2 (c' := (20, [.ref 0, .int (nI s), .int (nI t), .ref (1 + 2 + 2 * s), .ref (1 + 2 + 2 * t), .retAddr 0, .retAddr 0], [.ref (1 + 2 + 2 * s)], (0, 0), h)) rfl ?_
      refine ab_W.go (mm _) 1 (c' := (23, [.ref 0, .int (nI s), .int (nI t), .ref (1 + 2 + 2 * s), .ref (1 + 2 + 2 * t), .retAddr 0, .retAddr 0], [], (0, 0), h)) rfl ?_
      refine ab_W.go (mm _) 1 (c' := (25, [.ref 0, .int (nI s), .int (nI t), .ref (1 + 2 + 2 * s), .ref (1 + 2 + 2 * t), .retAddr 0, .retAddr 0], [.ref (1 + 2 + 2 * t)], (0, 0), h)) rfl ?_
      refine ab_W.go (mm _) 1 (c' := (30, [.ref 0, .int (nI s), .int (nI t), .ref (1 + 2 + 2 * s), .ref (1 + 2 + 2 * t), .retAddr 0, .retAddr 0], [], (0, 0), h)) rfl ?_
      refine ab_W.go (mm _) 2 (c' := (32, [.ref 0, .int (nI s), .int (nI t), .ref (1 + 2 + 2 * s), .ref (1 + 2 + 2 * t), .retAddr 0, .retAddr 0], [.int (nI t), .int (nI s)], (0, 0), h)) rfl ?_
      refine ab_W.ite (mm _) (p := (nI s) = (nI t)) (c1 := (35, [.ref 0, .int (nI s), .int (nI t), .ref (1 + 2 + 2 * s), .ref (1 + 2 + 2 * t), .retAddr 0, .retAddr 0], [], (0, 0), h)) (c2 := (38, [.ref 0, .int (nI s), .int (nI t), .ref (1 + 2 + 2 * s), .ref (1 + 2 + 2 * t), .retAddr 0, .retAddr 0], [], (0, 0), h)) rfl (fun q => ?_) (fun q => ?_)
      · skip
        have q := (nI_eq (by omega) (by omega)).mp q
        rw [show shareO σ.1 (some s) (some t) = _ from ci_t q] at hp
        refine ab_W.go (mm _) 1 (c' := (37, [.ref 0, .int (nI s), .int (nI t), .ref (1 + 2 + 2 * s), .ref (1 + 2 + 2 * t), .retAddr 0, .retAddr 0], [.int (-(nI 2))], (0, 0), h)) rfl ?_
        refine ab_W.retI (mm _) (rt := some .int) (v := -(nI 2)) rfl rfl ?_
        exact hp h hR (fun _ _ => rfl)
      · skip
        have q : ¬ s = t := fun z => q (by rw [z])
        refine ab_W.go (mm _) 1 (c' := (39, [.ref 0, .int (nI s), .int (nI t), .ref (1 + 2 + 2 * s), .ref (1 + 2 + 2 * t), .retAddr 0, .retAddr 0], [.ref (1 + 2 + 2 * s)], (0, 0), h)) rfl ?_
        refine ab_W.o (mm _) (e) rfl (c' := (42, [.ref 0, .int (nI s), .int (nI t), .ref (1 + 2 + 2 * s), .ref (1 + 2 + 2 * t), .retAddr 0, .retAddr 0], [.long (nm σ.1 s)], (0, 0), h)) rfl ?_
        refine ab_W.go (mm _) 1 (c' := (44, [.ref 0, .int (nI s), .int (nI t), .ref (1 + 2 + 2 * s), .ref (1 + 2 + 2 * t), .retAddr 0, .retAddr 0], [.ref (1 + 2 + 2 * t), .long (nm σ.1 s)], (0, 0), h)) rfl ?_
        refine ab_W.o (mm _) (e') rfl (c' := (47, [.ref 0, .int (nI s), .int (nI t), .ref (1 + 2 + 2 * s), .ref (1 + 2 + 2 * t), .retAddr 0, .retAddr 0], [.long (nm σ.1 t), .long (nm σ.1 s)], (0, 0), h)) rfl ?_
        refine ab_W.go (mm _) 5 (c' := (54, [.ref 0, .int (nI s), .int (nI t), .ref (1 + 2 + 2 * s), .ref (1 + 2 + 2 * t), .long ((nm σ.1 s) ||| (nm σ.1 t)), .retAddr 0], [.int (lg_cmp ((nm σ.1 s) ||| (nm σ.1 t)) (lN 0))], (0, 0), h)) rfl ?_
        refine ab_W.ite (mm _) (p := (lg_cmp ((nm σ.1 s) ||| (nm σ.1 t)) (lN 0)) = 0) (c1 := (57, [.ref 0, .int (nI s), .int (nI t), .ref (1 + 2 + 2 * s), .ref (1 + 2 + 2 * t), .long ((nm σ.1 s) ||| (nm σ.1 t)), .retAddr 0], [], (0, 0), h)) (c2 := (60, [.ref 0, .int (nI s), .int (nI t), .ref (1 + 2 + 2 * s), .ref (1 + 2 + 2 * t), .long ((nm σ.1 s) ||| (nm σ.1 t)), .retAddr 0], [], (0, 0), h)) rfl (fun q1 => ?_) (fun q1 => ?_)
        · skip
          have q1 := (lg_cmp0 _ _).mp q1
          rw [show shareO σ.1 (some s) (some t) = _ from (ci_f q).trans (ci_t q1)] at hp
          refine ab_W.go (mm _) 1 (c' := (59, [.ref 0, .int (nI s), .int (nI t), .ref (1 + 2 + 2 * s), .ref (1 + 2 + 2 * t), .long ((nm σ.1 s) ||| (nm σ.1 t)), .retAddr 0], [.int (-(nI 3))], (0, 0), h)) rfl ?_
          refine ab_W.retI (mm _) (rt := some .int) (v := -(nI 3)) rfl rfl ?_
          exact hp h hR (fun _ _ => rfl)
        · skip
          have q1 : ¬ (nm σ.1 s ||| nm σ.1 t) = lN 0 := fun z => q1 ((lg_cmp0 _ _).mpr z)
          refine ab_W.go (mm _) 1 (c' := (62, [.ref 0, .int (nI s), .int (nI t), .ref (1 + 2 + 2 * s), .ref (1 + 2 + 2 * t), .long ((nm σ.1 s) ||| (nm σ.1 t)), .retAddr 0], [.long ((nm σ.1 s) ||| (nm σ.1 t))], (0, 0), h)) rfl ?_
          refine ab_W.call (mm _) (k := 122) (av := [.long ((nm σ.1 s) ||| (nm σ.1 t))]) (c' := (65, [.ref 0, .int (nI s), .int (nI t), .ref (1 + 2 + 2 * s), .ref (1 + 2 + 2 * t), .long ((nm σ.1 s) ||| (nm σ.1 t)), .retAddr 0], [], (0, 0), h)) rfl ?_
          refine bit_count _ ?_
          show ab_W _ _ _ (65, [.ref 0, .int (nI s), .int (nI t), .ref (1 + 2 + 2 * s), .ref (1 + 2 + 2 * t), .long ((nm σ.1 s) ||| (nm σ.1 t)), .retAddr 0], [.int (nI (cnt (nm σ.1 s ||| nm σ.1 t) 64))], (0, 0), h)
          refine ab_W.go (mm _) 1 (c' := (66, [.ref 0, .int (nI s), .int (nI t), .ref (1 + 2 + 2 * s), .ref (1 + 2 + 2 * t), .long ((nm σ.1 s) ||| (nm σ.1 t)), .retAddr 0], [.int (nI 1), .int (nI (cnt (nm σ.1 s ||| nm σ.1 t) 64))], (0, 0), h)) rfl ?_
          have l64 : cnt (nm σ.1 s ||| nm σ.1 t) 64 ≤ 64 := cnt_le _ 64
          refine ab_W.ite (mm _) (p := (nI (cnt (nm σ.1 s ||| nm σ.1 t) 64)) = (nI 1)) (c1 := (69, [.ref 0, .int (nI s), .int (nI t), .ref (1 + 2 + 2 * s), .ref (1 + 2 + 2 * t), .long ((nm σ.1 s) ||| (nm σ.1 t)), .retAddr 0], [], (0, 0), h)) (c2 := (72, [.ref 0, .int (nI s), .int (nI t), .ref (1 + 2 + 2 * s), .ref (1 + 2 + 2 * t), .long ((nm σ.1 s) ||| (nm σ.1 t)), .retAddr 0], [], (0, 0), h)) rfl (fun q2 => ?_) (fun q2 => ?_)
          · skip
            have q2 := (nI_eq (by omega) (by omega)).mp q2
            rw [show shareO σ.1 (some s) (some t) = _ from (ci_f q).trans ((ci_f q1).trans (ci_t q2))] at hp
            refine ab_W.go (mm _) 1 (c' := (71, [.ref 0, .int (nI s), .int (nI t), .ref (1 + 2 + 2 * s), .ref (1 + 2 + 2 * t), .long ((nm σ.1 s) ||| (nm σ.1 t)), .retAddr 0], [.int (-(nI 5))], (0, 0), h)) rfl ?_
            refine ab_W.retI (mm _) (rt := some .int) (v := -(nI 5)) rfl rfl ?_
            exact hp h hR (fun _ _ => rfl)
          · skip
            have q2 : ¬ cnt (nm σ.1 s ||| nm σ.1 t) 64 = 1 := fun z => q2 (by rw [z])
            rw [show shareO σ.1 (some s) (some t) = _ from (ci_f q).trans ((ci_f q1).trans (ci_f q2))] at hp
            refine ab_W.go (mm _) 2 (c' := (75, [.ref 0, .int (nI s), .int (nI t), .ref (1 + 2 + 2 * s), .ref (1 + 2 + 2 * t), .long ((nm σ.1 s) ||| (nm σ.1 t)), .retAddr 0], [.ref (1 + 2 + 2 * t), .ref (1 + 2 + 2 * s)], (0, 0), h)) rfl ?_
            refine ab_W.callV (mm _) (e) rfl (k := 39) (av := [.ref (1 + 2 + 2 * s), .ref (1 + 2 + 2 * t)]) (c' := (78, [.ref 0, .int (nI s), .int (nI t), .ref (1 + 2 + 2 * s), .ref (1 + 2 + 2 * t), .long ((nm σ.1 s) ||| (nm σ.1 t)), .retAddr 0], [], (0, 0), h)) rfl ?_
            refine sp_learn _ (rc.2.2 s hs) (rc.2.2 t ht') (by omega) (by omega) (by omega) (fun h1 f1 k1 => ?_)
            have d2 : st_P h1 (1 + 2 + 2 * t) (pr σ.1 t) (nm σ.1 t) (kn σ.1 t) (ht σ.1 t) := (rc.2.2 t ht').kept (k1 _ (by omega) (by omega)) (k1 _ (by omega) (by omega))
            show ab_W _ _ _ (78, [.ref 0, .int (nI s), .int (nI t), .ref (1 + 2 + 2 * s), .ref (1 + 2 + 2 * t), .long (nm σ.1 s ||| nm σ.1 t), .retAddr 0], [.int (nI (cn (fun c => ht σ.1 s c < ht σ.1 t c) 64))], (0, 0), h1)
            refine ab_W.go (mm _) 3 (c' := (82, [.ref 0, .int (nI s), .int (nI t), .ref (1 + 2 + 2 * s), .ref (1 + 2 + 2 * t), .long (nm σ.1 s ||| nm σ.1 t), .retAddr 0], [.ref (1 + 2 + 2 * s), .ref (1 + 2 + 2 * t)], (0, 0), h1)) rfl ?_
            refine ab_W.callV (mm _) (d2.1) rfl (k := 39) (av := [.ref (1 + 2 + 2 * t), .ref (1 + 2 + 2 * s)]) (c' := (85, [.ref 0, .int (nI s), .int (nI t), .ref (1 + 2 + 2 * s), .ref (1 + 2 + 2 * t), .long (nm σ.1 s ||| nm σ.1 t), .retAddr 0], [], (0, 0), h1)) rfl ?_
            refine sp_learn _ d2 f1 (by omega) (by omega) (by omega) (fun h2 g1 k2 => ?_)
            have f1 := f1.kept (k2 _ (by omega) (by omega)) (k2 _ (by omega) (by omega))
            rw [hx] at f1
            rw [hy] at g1
            obtain ⟨a1, fa, a2, a3⟩ := f1
            obtain ⟨b1, fb, b2, b3⟩ := g1
            show ab_W _ _ _ (85, [.ref 0, .int (nI s), .int (nI t), .ref (1 + 2 + 2 * s), .ref (1 + 2 + 2 * t), .long (nm σ.1 s ||| nm σ.1 t), .retAddr 0], [.int (nI (cn (fun c => ht σ.1 t c < mxI (ht σ.1 s c) (ht σ.1 t c)) 64))], (0, 0), h2)
            refine ab_W.go (mm _) 3 (c' := (89, [.ref 0, .int (nI s), .int (nI t), .ref (1 + 2 + 2 * s), .ref (1 + 2 + 2 * t), .long (nm σ.1 s ||| nm σ.1 t), .retAddr 0], [.long (nm σ.1 s ||| nm σ.1 t), .ref (1 + 2 + 2 * s)], (0, 0), h2)) rfl ?_
            refine ab_W.call (mm _) (k := 28) (av := [.long (nm σ.1 s ||| nm σ.1 t)]) (c' := (92, [.ref 0, .int (nI s), .int (nI t), .ref (1 + 2 + 2 * s), .ref (1 + 2 + 2 * t), .long (nm σ.1 s ||| nm σ.1 t), .retAddr 0], [.ref (1 + 2 + 2 * s)], (0, 0), h2)) rfl ?_
            refine sp_lowerPart _ q1 q2 ?_
            show ab_W _ _ _ (92, [.ref 0, .int (nI s), .int (nI t), .ref (1 + 2 + 2 * s), .ref (1 + 2 + 2 * t), .long (nm σ.1 s ||| nm σ.1 t), .retAddr 0], [.long (lowN (nm σ.1 s ||| nm σ.1 t)), .ref (1 + 2 + 2 * s)], (0, 0), h2)
            refine ab_W.o (mm _) (a1) rfl (c' := (95, [.ref 0, .int (nI s), .int (nI t), .ref (1 + 2 + 2 * s), .ref (1 + 2 + 2 * t), .long (nm σ.1 s ||| nm σ.1 t), .retAddr 0], [], (0, 0), h2.set (1 + 2 + 2 * s) (.inr (3, [.int (b2i true), .long (lowN (nm σ.1 s ||| nm σ.1 t)), .long (kn σ.1 s ||| kn σ.1 t), .ref (1 + 2 + 2 * s + 1)])))) rfl ?_
            obtain ⟨h3, e3⟩ : ∃ h3, h3 = h2.set (1 + 2 + 2 * s) (.inr (3, [.int (b2i true), .long (lowN (nm σ.1 s ||| nm σ.1 t)), .long (kn σ.1 s ||| kn σ.1 t), .ref (1 + 2 + 2 * s + 1)])) := ⟨_, rfl⟩
            refine ab_W.hp (e3.symm) ?_
            show ab_W _ _ _ (95, [.ref 0, .int (nI s), .int (nI t), .ref (1 + 2 + 2 * s), .ref (1 + 2 + 2 * t), .long (nm σ.1 s ||| nm σ.1 t), .retAddr 0], [], (0, 0), h3)
            have k3 : ∀ i, i ≠ 1 + 2 + 2 * s → h3[i]? = h2[i]? := fun i hi => by rw [e3]; exact set_ne (fun z => hi z.symm)
            have a1 : h3[1 + 2 + 2 * s]? = some (.inr (3, [.int (b2i true), .long (lowN (nm σ.1 s ||| nm σ.1 t)), .long (kn σ.1 s ||| kn σ.1 t), .ref (1 + 2 + 2 * s + 1)])) := by rw [e3]; exact set_at a1
            have b1 := (k3 _ (by omega)).trans b1
            have kA : ∀ i, i < 3 + 2 * s ∨ 5 + 2 * s ≤ i → i < 3 + 2 * t ∨ 5 + 2 * t ≤ i → h3[i]? = h[i]? := fun i i1 i2 => (k3 i (by omega)).trans ((k2 i (by omega) (by omega)).trans (k1 i (by omega) (by omega)))
            refine ab_W.go (mm _) 3 (c' := (100, [.ref 0, .int (nI s), .int (nI t), .ref (1 + 2 + 2 * s), .ref (1 + 2 + 2 * t), .long (nm σ.1 s ||| nm σ.1 t), .retAddr 0], [.ref (1 + 2 + 2 * s), .long (nm σ.1 s ||| nm σ.1 t), .ref (1 + 2 + 2 * t)], (0, 0), h3)) rfl ?_
            refine ab_W.o (mm _) (a1) rfl (c' := (103, [.ref 0, .int (nI s), .int (nI t), .ref (1 + 2 + 2 * s), .ref (1 + 2 + 2 * t), .long (nm σ.1 s ||| nm σ.1 t), .retAddr 0], [.long (lowN (nm σ.1 s ||| nm σ.1 t)), .long (nm σ.1 s ||| nm σ.1 t), .ref (1 + 2 + 2 * t)], (0, 0), h3)) rfl ?_
            refine ab_W.go (mm _) 3 (c' := (108, [.ref 0, .int (nI s), .int (nI t), .ref (1 + 2 + 2 * s), .ref (1 + 2 + 2 * t), .long (nm σ.1 s ||| nm σ.1 t), .retAddr 0], [.long ((nm σ.1 s ||| nm σ.1 t) &&& ((lowN (nm σ.1 s ||| nm σ.1 t)) ^^^ (-(lN 1)))), .ref (1 + 2 + 2 * t)], (0, 0), h3)) rfl ?_
            refine ab_W.topl (upp_eq _ _) ?_
            refine ab_W.o (mm _) (b1) rfl (c' := (111, [.ref 0, .int (nI s), .int (nI t), .ref (1 + 2 + 2 * s), .ref (1 + 2 + 2 * t), .long (nm σ.1 s ||| nm σ.1 t), .retAddr 0], [], (0, 0), h3.set (1 + 2 + 2 * t) (.inr (3, [.int (b2i true), .long (uppN (nm σ.1 s ||| nm σ.1 t)), .long (kn σ.1 t ||| (kn σ.1 s ||| kn σ.1 t)), .ref (1 + 2 + 2 * t + 1)])))) rfl ?_
            obtain ⟨h4, e4⟩ : ∃ h4, h4 = h3.set (1 + 2 + 2 * t) (.inr (3, [.int (b2i true), .long (uppN (nm σ.1 s ||| nm σ.1 t)), .long (kn σ.1 t ||| (kn σ.1 s ||| kn σ.1 t)), .ref (1 + 2 + 2 * t + 1)])) := ⟨_, rfl⟩
            refine ab_W.hp (e4.symm) ?_
            show ab_W _ _ _ (111, [.ref 0, .int (nI s), .int (nI t), .ref (1 + 2 + 2 * s), .ref (1 + 2 + 2 * t), .long (nm σ.1 s ||| nm σ.1 t), .retAddr 0], [], (0, 0), h4)
            have k4 : ∀ i, i ≠ 1 + 2 + 2 * t → h4[i]? = h3[i]? := fun i hi => by rw [e4]; exact set_ne (fun z => hi z.symm)
            have c4 : cir h4 1 (shareC σ.1 s t) := by
              have p1 : st_P h4 (1 + 2 + 2 * s) true (lowN (nm σ.1 s ||| nm σ.1 t)) (kn σ.1 s ||| kn σ.1 t) (mxH (ht σ.1 s) (ht σ.1 t)) := ⟨(k4 _ (by omega)).trans a1, fa, (k4 _ (by omega)).trans ((k3 _ (by omega)).trans a2), a3⟩
              have p2 : st_P h4 (1 + 2 + 2 * t) true (uppN (nm σ.1 s ||| nm σ.1 t)) (kn σ.1 t ||| (kn σ.1 s ||| kn σ.1 t)) (mxH (ht σ.1 t) (mxH (ht σ.1 s) (ht σ.1 t))) := ⟨by rw [e4]; exact set_at b1, fb, (k4 _ (by omega)).trans ((k3 _ (by omega)).trans b2), b3⟩
              obtain ⟨u1, ⟨uq, u2, u3⟩, u4⟩ := rc
              refine ⟨(k4 _ (by omega)).trans ((kA _ (by omega) (by omega)).trans u1), ⟨uq, (k4 _ (by omega)).trans ((kA _ (by omega) (by omega)).trans u2), u3⟩, fun v hv => ?_⟩
              by_cases ev : v = t
              · subst ev
                show st_P h4 _ (va_up _ v _ v) (va_up _ v _ v) (va_up _ v _ v) (va_up _ v _ v)
                rw [va_up_self, va_up_self, va_up_self, va_up_self]
                exact p2
              · show st_P h4 _ (va_up _ t _ v) (va_up _ t _ v) (va_up _ t _ v) (va_up _ t _ v)
                rw [va_up_ne _ _ ev, va_up_ne _ _ ev, va_up_ne _ _ ev, va_up_ne _ _ ev]
                by_cases ew : v = s
                · subst ew
                  show st_P h4 _ (va_up _ v _ v) (va_up _ v _ v) (va_up _ v _ v) (va_up _ v _ v)
                  rw [va_up_self, va_up_self, va_up_self, va_up_self]
                  exact p1
                · show st_P h4 _ (va_up _ s _ v) (va_up _ s _ v) (va_up _ s _ v) (va_up _ s _ v)
                  rw [va_up_ne _ _ ew, va_up_ne _ _ ew, va_up_ne _ _ ew, va_up_ne _ _ ew]
                  exact (u4 v hv).kept ((k4 _ (by omega)).trans (kA _ (by omega) (by omega))) ((k4 _ (by omega)).trans (kA _ (by omega) (by omega)))
            refine ab_W.go (mm _) 1 (c' := (112, [.ref 0, .int (nI s), .int (nI t), .ref (1 + 2 + 2 * s), .ref (1 + 2 + 2 * t), .long (nm σ.1 s ||| nm σ.1 t), .retAddr 0], [.ref (1 + 2 + 2 * s)], (0, 0), h4)) rfl ?_
            refine ab_W.o (mm _) ((k4 _ (by omega)).trans a1) rfl (c' := (115, [.ref 0, .int (nI s), .int (nI t), .ref (1 + 2 + 2 * s), .ref (1 + 2 + 2 * t), .long (nm σ.1 s ||| nm σ.1 t), .retAddr 0], [.long (lowN (nm σ.1 s ||| nm σ.1 t))], (0, 0), h4)) rfl ?_
            refine ab_W.call (mm _) (k := 122) (av := [.long (lowN (nm σ.1 s ||| nm σ.1 t))]) (c' := (118, [.ref 0, .int (nI s), .int (nI t), .ref (1 + 2 + 2 * s), .ref (1 + 2 + 2 * t), .long (nm σ.1 s ||| nm σ.1 t), .retAddr 0], [], (0, 0), h4)) rfl ?_
            refine bit_count _ ?_
            show ab_W _ _ _ (118, [.ref 0, .int (nI s), .int (nI t), .ref (1 + 2 + 2 * s), .ref (1 + 2 + 2 * t), .long (nm σ.1 s ||| nm σ.1 t), .retAddr 0], [.int (nI (cnt (lowN (nm σ.1 s ||| nm σ.1 t)) 64))], (0, 0), h4)
            refine ab_W.retI (mm _) (rt := some .int) (v := nI (cnt (lowN (nm σ.1 s ||| nm σ.1 t)) 64)) rfl rfl ?_
            exact hp _ (hR.cur c4 (fun i hi => (k4 i (by omega)).trans (kA i (by omega) (by omega)))) (fun i hi => (k4 i (by omega)).trans (kA i (by omega) (by omega)))
/-- the names of the present stamps lie apart -/
def apart (c : Ci) : Prop := ∀ s t j, s < 12 → t < 12 → j < 64 → pr c s = true → pr c t = true → bt (nm c s) j = true → bt (nm c t) j = true → s = t
theorem own_eq {c : Ci} {j s : Nat} (ha : apart c) (hj : j < 64) (h : ownP c j s) : @Classical.epsilon Nat ⟨0⟩ (ownP c j) = s := by
  obtain ⟨a1, a2, a3⟩ := @Classical.epsilon_spec Nat (ownP c j) ⟨s, h⟩
  exact ha _ _ j a1 h.1 hj a2 h.2.1 a3 h.2.2
theorem sp_owner (d : Nat) {h : ab_H} {σ : Sg} {y : Int32} (hR : relC h σ) (ha : apart σ.1) {post : ab_P} (hp : okC h post (ownF σ.1 y) σ) : mCC (d + 3) kSpanStamps_owner [.ref 0, .int y] h post := by
  have r0 := hR.1
  have rc := hR.2.1
  rcases pk_ix y (n := 64) (by decide) with q | q | ⟨j, j1, rfl⟩
  · rw [show ownF σ.1 y = _ from ci_t (Or.inl q)] at hp
    refine ⟨rfl, ?_⟩
    show ab_W _ _ _ (0, [.ref 0, .int y, .retAddr 0, .retAddr 0], [], (0, 0), h)
    refine ab_W.go (mm _) 1 (c' := (1, [.ref 0, .int y, .retAddr 0, .retAddr 0], [.int y], (0, 0), h)) rfl ?_
    refine ab_W.itT (mm _) (p := y < 0) (c1 := (10, [.ref 0, .int y, .retAddr 0, .retAddr 0], [], (0, 0), h)) (c2 := (4, [.ref 0, .int y, .retAddr 0, .retAddr 0], [], (0, 0), h)) rfl (q) ?_
    refine ab_W.go (mm _) 1 (c' := (12, [.ref 0, .int y, .retAddr 0, .retAddr 0], [.int (-(nI 2))], (0, 0), h)) rfl ?_
    refine ab_W.retI (mm _) (rt := some .int) (v := -(nI 2)) rfl rfl ?_
    exact hp h hR (fun _ _ => rfl)
  · rw [show ownF σ.1 y = _ from ci_t (Or.inr q)] at hp
    refine ⟨rfl, ?_⟩
    show ab_W _ _ _ (0, [.ref 0, .int y, .retAddr 0, .retAddr 0], [], (0, 0), h)
    refine ab_W.go (mm _) 1 (c' := (1, [.ref 0, .int y, .retAddr 0, .retAddr 0], [.int y], (0, 0), h)) rfl ?_
    refine ab_W.itF (mm _) (p := y < 0) (c1 := (10, [.ref 0, .int y, .retAddr 0, .retAddr 0], [], (0, 0), h)) (c2 := (4, [.ref 0, .int y, .retAddr 0, .retAddr 0], [], (0, 0), h)) rfl (nI_le0 q (by decide)) ?_
    refine ab_W.go (mm _) 2 (c' := (7, [.ref 0, .int y, .retAddr 0, .retAddr 0], [.int (nI 64), .int y], (0, 0), h)) rfl ?_
    refine ab_W.itF (mm _) (p := y < (nI 64)) (c1 := (13, [.ref 0, .int y, .retAddr 0, .retAddr 0], [], (0, 0), h)) (c2 := (10, [.ref 0, .int y, .retAddr 0, .retAddr 0], [], (0, 0), h)) rfl (fun z => Int32.not_le.mpr z q) ?_
    refine ab_W.go (mm _) 1 (c' := (12, [.ref 0, .int y, .retAddr 0, .retAddr 0], [.int (-(nI 2))], (0, 0), h)) rfl ?_
    refine ab_W.retI (mm _) (rt := some .int) (v := -(nI 2)) rfl rfl ?_
    exact hp h hR (fun _ _ => rfl)
  · rw [show ownF σ.1 (nI j) = _ from ci_f (fun z => z.elim (nI_pos (by omega)) (fun z => absurd ((nI_leI (by omega) (by omega)).mp z) (by omega))), nI_clamp (by omega)] at hp
    have loop : ∀ s, s ≤ 12 → (∀ t, t < s → ¬ ownP σ.1 j t) → ∀ v0, ab_W (ab_st (mT kSpanStamps_owner) mB mF (mR kSpanStamps_owner) none) (mCC (d + 2)) post (15, [.ref 0, .int (nI j), .int (nI s), v0], [], (0, 0), h) := by
      refine down 12 ?_ ?_
      · intro hno v0
        rw [ci_f (fun ⟨t, z⟩ => hno t z.1 z)] at hp
        refine ab_W.go (mm _) 2 (c' := (18, [.ref 0, .int (nI j), .int (nI 12), v0], [.int (nI 12), .int (nI 12)], (0, 0), h)) rfl ?_
        refine ab_W.itT (mm _) (p := (nI 12) ≤ (nI 12)) (c1 := (55, [.ref 0, .int (nI j), .int (nI 12), v0], [], (0, 0), h)) (c2 := (21, [.ref 0, .int (nI j), .int (nI 12), v0], [], (0, 0), h)) rfl ((by decide)) ?_
        refine ab_W.go (mm _) 1 (c' := (57, [.ref 0, .int (nI j), .int (nI 12), v0], [.int (-(nI 6))], (0, 0), h)) rfl ?_
        refine ab_W.retI (mm _) (rt := some .int) (v := -(nI 6)) rfl rfl ?_
        exact hp h hR (fun _ _ => rfl)
      · intro s hs ih hno v0
        refine ab_W.go (mm _) 2 (c' := (18, [.ref 0, .int (nI j), .int (nI s), v0], [.int (nI 12), .int (nI s)], (0, 0), h)) rfl ?_
        refine ab_W.itF (mm _) (p := (nI 12) ≤ (nI s)) (c1 := (55, [.ref 0, .int (nI j), .int (nI s), v0], [], (0, 0), h)) (c2 := (21, [.ref 0, .int (nI j), .int (nI s), v0], [], (0, 0), h)) rfl (fun z => absurd ((nI_leI (by omega) (by omega)).mp z) (by omega)) ?_
        refine ab_W.go (mm _) 1 (c' := (22, [.ref 0, .int (nI j), .int (nI s), v0], [.ref 0], (0, 0), h)) rfl ?_
        refine ab_W.o (mm _) (r0) rfl (c' := (25, [.ref 0, .int (nI j), .int (nI s), v0], [.ref 1], (0, 0), h)) rfl ?_
        refine ab_W.go (mm _) 1 (c' := (26, [.ref 0, .int (nI j), .int (nI s), v0], [.int (nI s), .ref 1], (0, 0), h)) rfl ?_
        rcases stamp_or σ.1 (nI s) with hx | ⟨s', hs', es, hx⟩
        · have hnp : ¬ pr σ.1 s = true := by
            intro z
            rcases hx with hx | hx | ⟨t, t1, t2, t3⟩
            · exact nI_pos (by omega) hx
            · have := (nI_leI (a := 12) (b := s) (by omega) (by omega)).mp hx
              omega
            · have := (nI_eq (by omega) (by omega)).mp t2
              rw [this, t3] at z
              cases z
          refine ab_W.callV (mm _) (rc.1) rfl (k := 1) (av := [.ref 1, .int (nI s)]) (c' := (29, [.ref 0, .int (nI j), .int (nI s), v0], [], (0, 0), h)) rfl ?_
          refine sp_findN _ rc hx ?_
          show ab_W _ _ _ (29, [.ref 0, .int (nI j), .int (nI s), v0], [.null], (0, 0), h)
          refine ab_W.go (mm _) 2 (c' := (31, [.ref 0, .int (nI j), .int (nI s), .null], [.null], (0, 0), h)) rfl ?_
          refine ab_W.go (mm _) 1 (c' := (49, [.ref 0, .int (nI j), .int (nI s), .null], [], (0, 0), h)) rfl ?_
          refine ab_W.go (mm _) 1 (c' := (52, [.ref 0, .int (nI j), .int (nI s + nI 1), .null], [], (0, 0), h)) rfl ?_
          rw [nI_add s 1]
          refine ab_W.go (mm _) 1 (c' := (15, [.ref 0, .int (nI j), .int (nI (s + 1)), .null], [], (0, 0), h)) rfl ?_
          refine ih (fun t ht z => ?_) _
          by_cases et : t = s
          · rw [et] at z
            exact hnp z.2.1
          · exact hno t (by omega) z
        · have es : s' = s := ((nI_eq (by omega) (by omega)).mp es).symm
          rw [es] at hx
          refine ab_W.callV (mm _) (rc.1) rfl (k := 1) (av := [.ref 1, .int (nI s)]) (c' := (29, [.ref 0, .int (nI j), .int (nI s), v0], [], (0, 0), h)) rfl ?_
          refine sp_find _ rc hs hx ?_
          show ab_W _ _ _ (29, [.ref 0, .int (nI j), .int (nI s), v0], [.ref (1 + 2 + 2 * s)], (0, 0), h)
          refine ab_W.go (mm _) 2 (c' := (31, [.ref 0, .int (nI j), .int (nI s), .ref (1 + 2 + 2 * s)], [.ref (1 + 2 + 2 * s)], (0, 0), h)) rfl ?_
          refine ab_W.go (mm _) 1 (c' := (34, [.ref 0, .int (nI j), .int (nI s), .ref (1 + 2 + 2 * s)], [], (0, 0), h)) rfl ?_
          refine ab_W.go (mm _) 1 (c' := (35, [.ref 0, .int (nI j), .int (nI s), .ref (1 + 2 + 2 * s)], [.ref (1 + 2 + 2 * s)], (0, 0), h)) rfl ?_
          refine ab_W.o (mm _) ((rc.2.2 s hs).1) rfl (c' := (38, [.ref 0, .int (nI j), .int (nI s), .ref (1 + 2 + 2 * s)], [.long (nm σ.1 s)], (0, 0), h)) rfl ?_
          refine ab_W.go (mm _) 6 (c' := (44, [.ref 0, .int (nI j), .int (nI s), .ref (1 + 2 + 2 * s)], [.int (lg_cmp ((nm σ.1 s) &&& ((lN 1) <<< ((nI j).toInt64 &&& 63))) (lN 0))], (0, 0), h)) rfl ?_
          refine ab_W.ite (mm _) (p := (lg_cmp ((nm σ.1 s) &&& ((lN 1) <<< ((nI j).toInt64 &&& 63))) (lN 0)) = 0) (c1 := (49, [.ref 0, .int (nI j), .int (nI s), .ref (1 + 2 + 2 * s)], [], (0, 0), h)) (c2 := (47, [.ref 0, .int (nI j), .int (nI s), .ref (1 + 2 + 2 * s)], [], (0, 0), h)) rfl (fun q => ?_) (fun q => ?_)
          · skip
            have q := (and_one j1).mp ((lg_cmp0 _ _).mp q)
            refine ab_W.go (mm _) 1 (c' := (52, [.ref 0, .int (nI j), .int (nI s + nI 1), .ref (1 + 2 + 2 * s)], [], (0, 0), h)) rfl ?_
            rw [nI_add s 1]
            refine ab_W.go (mm _) 1 (c' := (15, [.ref 0, .int (nI j), .int (nI (s + 1)), .ref (1 + 2 + 2 * s)], [], (0, 0), h)) rfl ?_
            refine ih (fun t ht z => ?_) _
            by_cases et : t = s
            · rw [et] at z
              rw [z.2.2] at q
              cases q
            · exact hno t (by omega) z
          · skip
            have q : bt (nm σ.1 s) j = true := by
              cases hb : bt (nm σ.1 s) j with
              | true => rfl
              | false => exact absurd ((lg_cmp0 _ _).mpr ((and_one j1).mpr hb)) q
            rw [ci_t ⟨s, hs, hx, q⟩, own_eq ha j1 ⟨hs, hx, q⟩] at hp
            refine ab_W.go (mm _) 1 (c' := (48, [.ref 0, .int (nI j), .int (nI s), .ref (1 + 2 + 2 * s)], [.int (nI s)], (0, 0), h)) rfl ?_
            refine ab_W.retI (mm _) (rt := some .int) (v := nI s) rfl rfl ?_
            exact hp h hR (fun _ _ => rfl)
    refine ⟨rfl, ?_⟩
    show ab_W _ _ _ (0, [.ref 0, .int (nI j), .retAddr 0, .retAddr 0], [], (0, 0), h)
    refine ab_W.go (mm _) 1 (c' := (1, [.ref 0, .int (nI j), .retAddr 0, .retAddr 0], [.int (nI j)], (0, 0), h)) rfl ?_
    refine ab_W.itF (mm _) (p := (nI j) < 0) (c1 := (10, [.ref 0, .int (nI j), .retAddr 0, .retAddr 0], [], (0, 0), h)) (c2 := (4, [.ref 0, .int (nI j), .retAddr 0, .retAddr 0], [], (0, 0), h)) rfl (nI_pos (by omega)) ?_
    refine ab_W.go (mm _) 2 (c' := (7, [.ref 0, .int (nI j), .retAddr 0, .retAddr 0], [.int (nI 64), .int (nI j)], (0, 0), h)) rfl ?_
    refine ab_W.itT (mm _) (p := (nI j) < (nI 64)) (c1 := (13, [.ref 0, .int (nI j), .retAddr 0, .retAddr 0], [], (0, 0), h)) (c2 := (10, [.ref 0, .int (nI j), .retAddr 0, .retAddr 0], [], (0, 0), h)) rfl (nI_lt j1 (by omega)) ?_
    refine ab_W.go (mm _) 2 (c' := (15, [.ref 0, .int (nI j), .int (nI 0), .retAddr 0], [], (0, 0), h)) rfl ?_
    exact loop 0 (by omega) (fun t ht => absurd ht (Nat.not_lt_zero _)) _
end
section
/-! THE LAST CALLS OF THE CLASS -/
theorem sp_about (d : Nat) {h : ab_H} {σ : Sg} {x : Int32} {y : Int32} (hR : relC h σ) {post : ab_P} (hp : okC h post (aboutO σ.1 y (stN σ.1 x)) (σ)) : mCC (d + 7) kSpanStamps_about [.ref 0, .int x, .int y] h post := by
  have r0 := hR.1
  have rc := hR.2.1
  rcases stamp_or σ.1 x with hx | ⟨s, hs, rfl, hx⟩
  · rw [stN_no hx] at hp
    refine ⟨rfl, ?_⟩
    show ab_W _ _ _ (0, [.ref 0, .int x, .int y, .retAddr 0], [], (0, 0), h)
    refine ab_W.go (mm _) 1 (c' := (1, [.ref 0, .int x, .int y, .retAddr 0], [.ref 0], (0, 0), h)) rfl ?_
    refine ab_W.o (mm _) (r0) rfl (c' := (4, [.ref 0, .int x, .int y, .retAddr 0], [.ref 1], (0, 0), h)) rfl ?_
    refine ab_W.go (mm _) 1 (c' := (5, [.ref 0, .int x, .int y, .retAddr 0], [.int x, .ref 1], (0, 0), h)) rfl ?_
    refine ab_W.callV (mm _) (rc.1) rfl (k := 1) (av := [.ref 1, .int x]) (c' := (8, [.ref 0, .int x, .int y, .retAddr 0], [], (0, 0), h)) rfl ?_
    refine sp_findN _ rc hx ?_
    show ab_W _ _ _ (8, [.ref 0, .int x, .int y, .retAddr 0], [.null], (0, 0), h)
    refine ab_W.go (mm _) 2 (c' := (10, [.ref 0, .int x, .int y, .null], [.null], (0, 0), h)) rfl ?_
    refine ab_W.go (mm _) 1 (c' := (13, [.ref 0, .int x, .int y, .null], [], (0, 0), h)) rfl ?_
    refine ab_W.go (mm _) 1 (c' := (14, [.ref 0, .int x, .int y, .null], [.int (-(nI 1))], (0, 0), h)) rfl ?_
    refine ab_W.retI (mm _) (rt := some .int) (v := -(nI 1)) rfl rfl ?_
    exact hp h hR (fun _ _ => rfl)
  · rw [stN_yes hs hx] at hp
    have e := (rc.2.2 s hs).1
    refine ⟨rfl, ?_⟩
    show ab_W _ _ _ (0, [.ref 0, .int (nI s), .int y, .retAddr 0], [], (0, 0), h)
    refine ab_W.go (mm _) 1 (c' := (1, [.ref 0, .int (nI s), .int y, .retAddr 0], [.ref 0], (0, 0), h)) rfl ?_
    refine ab_W.o (mm _) (r0) rfl (c' := (4, [.ref 0, .int (nI s), .int y, .retAddr 0], [.ref 1], (0, 0), h)) rfl ?_
    refine ab_W.go (mm _) 1 (c' := (5, [.ref 0, .int (nI s), .int y, .retAddr 0], [.int (nI s), .ref 1], (0, 0), h)) rfl ?_
    refine ab_W.callV (mm _) (rc.1) rfl (k := 1) (av := [.ref 1, .int (nI s)]) (c' := (8, [.ref 0, .int (nI s), .int y, .retAddr 0], [], (0, 0), h)) rfl ?_
    refine sp_find _ rc hs hx ?_
    show ab_W _ _ _ (8, [.ref 0, .int (nI s), .int y, .retAddr 0], [.ref (1 + 2 + 2 * s)], (0, 0), h)
    refine ab_W.go (mm _) 2 (c' := (10, [.ref 0, .int (nI s), .int y, .ref (1 + 2 + 2 * s)], [.ref (1 + 2 + 2 * s)], (0, 0), h)) rfl ?_
    refine ab_W.go (mm _) 1 (c' := (15, [.ref 0, .int (nI s), .int y, .ref (1 + 2 + 2 * s)], [], (0, 0), h)) rfl ?_
    refine ab_W.go (mm _) 1 (c' := (16, [.ref 0, .int (nI s), .int y, .ref (1 + 2 + 2 * s)], [.int y], (0, 0), h)) rfl ?_
    obtain ⟨-, g, f2, f3⟩ := rc.2.2 s hs
    rcases pk_ix y (n := 5) (by decide) with q | q | ⟨j, j1, rfl⟩
    · rw [show aboutO σ.1 y (some s) = _ from ((((ci_f (nI_lt0 q (by decide))).trans (ci_f (nI_lt0 q (by decide)))).trans (ci_f (nI_lt0 q (by decide)))).trans (ci_f (nI_lt0 q (by decide)))).trans (ci_f (nI_lt0 q (by decide)))] at hp
      refine ab_W.swd (mm _) rfl (sw_lo q) ?_
      show ab_W _ _ _ (110, [.ref 0, .int (nI s), .int y, .ref (1 + 2 + 2 * s)], [], (0, 0), h)
      refine ab_W.go (mm _) 1 (c' := (112, [.ref 0, .int (nI s), .int y, .ref (1 + 2 + 2 * s)], [.int (-(nI 2))], (0, 0), h)) rfl ?_
      refine ab_W.retI (mm _) (rt := some .int) (v := -(nI 2)) rfl rfl ?_
      exact hp h hR (fun _ _ => rfl)
    · rw [show aboutO σ.1 y (some s) = _ from ((((ci_f (nI_geN q (by decide) (by decide))).trans (ci_f (nI_geN q (by decide) (by decide)))).trans (ci_f (nI_geN q (by decide) (by decide)))).trans (ci_f (nI_geN q (by decide) (by decide)))).trans (ci_f (nI_geN q (by decide) (by decide)))] at hp
      refine ab_W.swd (mm _) rfl (sw_hi q (by decide)) ?_
      show ab_W _ _ _ (110, [.ref 0, .int (nI s), .int y, .ref (1 + 2 + 2 * s)], [], (0, 0), h)
      refine ab_W.go (mm _) 1 (c' := (112, [.ref 0, .int (nI s), .int y, .ref (1 + 2 + 2 * s)], [.int (-(nI 2))], (0, 0), h)) rfl ?_
      refine ab_W.retI (mm _) (rt := some .int) (v := -(nI 2)) rfl rfl ?_
      exact hp h hR (fun _ _ => rfl)
    · match j, j1 with
      | 0, _ =>
        rw [show aboutO σ.1 (nI 0) (some s) = _ from ci_t rfl] at hp
        refine ab_W.go (mm _) 1 (c' := (52, [.ref 0, .int (nI s), .int (nI 0), .ref (1 + 2 + 2 * s)], [], (0, 0), h)) rfl ?_
        refine ab_W.go (mm _) 1 (c' := (53, [.ref 0, .int (nI s), .int (nI 0), .ref (1 + 2 + 2 * s)], [.ref (1 + 2 + 2 * s)], (0, 0), h)) rfl ?_
        refine ab_W.o (mm _) (e) rfl (c' := (56, [.ref 0, .int (nI s), .int (nI 0), .ref (1 + 2 + 2 * s)], [.long (nm σ.1 s)], (0, 0), h)) rfl ?_
        refine ab_W.call (mm _) (k := 122) (av := [.long (nm σ.1 s)]) (c' := (59, [.ref 0, .int (nI s), .int (nI 0), .ref (1 + 2 + 2 * s)], [], (0, 0), h)) rfl ?_
        refine bit_count _ ?_
        show ab_W _ _ _ (59, [.ref 0, .int (nI s), .int (nI 0), .ref (1 + 2 + 2 * s)], [.int (nI (cnt (nm σ.1 s) 64))], (0, 0), h)
        refine ab_W.retI (mm _) (rt := some .int) (v := nI (cnt (nm σ.1 s) 64)) rfl rfl ?_
        exact hp h hR (fun _ _ => rfl)
      | 1, _ =>
        rw [show aboutO σ.1 (nI 1) (some s) = _ from (ci_f (by decide)).trans (ci_t rfl)] at hp
        refine ab_W.go (mm _) 1 (c' := (60, [.ref 0, .int (nI s), .int (nI 1), .ref (1 + 2 + 2 * s)], [], (0, 0), h)) rfl ?_
        refine ab_W.go (mm _) 1 (c' := (61, [.ref 0, .int (nI s), .int (nI 1), .ref (1 + 2 + 2 * s)], [.ref (1 + 2 + 2 * s)], (0, 0), h)) rfl ?_
        refine ab_W.o (mm _) (e) rfl (c' := (64, [.ref 0, .int (nI s), .int (nI 1), .ref (1 + 2 + 2 * s)], [.long (nm σ.1 s)], (0, 0), h)) rfl ?_
        refine ab_W.call (mm _) (k := 30) (av := [.long (nm σ.1 s)]) (c' := (67, [.ref 0, .int (nI s), .int (nI 1), .ref (1 + 2 + 2 * s)], [], (0, 0), h)) rfl ?_
        refine sp_countPieces _ ?_
        show ab_W _ _ _ (67, [.ref 0, .int (nI s), .int (nI 1), .ref (1 + 2 + 2 * s)], [.int (nI (npc (nm σ.1 s)))], (0, 0), h)
        refine ab_W.retI (mm _) (rt := some .int) (v := nI (npc (nm σ.1 s))) rfl rfl ?_
        exact hp h hR (fun _ _ => rfl)
      | 2, _ =>
        rw [show aboutO σ.1 (nI 2) (some s) = _ from (ci_f (by decide)).trans ((ci_f (by decide)).trans (ci_t rfl)), ← mx_congr (by decide) (by decide) (fun c hc => f3 c (inK_lt (by decide) (by decide) hc))] at hp
        refine ab_W.go (mm _) 1 (c' := (68, [.ref 0, .int (nI s), .int (nI 2), .ref (1 + 2 + 2 * s)], [], (0, 0), h)) rfl ?_
        refine ab_W.go (mm _) 1 (c' := (69, [.ref 0, .int (nI s), .int (nI 2), .ref (1 + 2 + 2 * s)], [.ref (1 + 2 + 2 * s)], (0, 0), h)) rfl ?_
        refine ab_W.o (mm _) (e) rfl (c' := (72, [.ref 0, .int (nI s), .int (nI 2), .ref (1 + 2 + 2 * s)], [.ref (1 + 2 + 2 * s + 1)], (0, 0), h)) rfl ?_
        refine ab_W.go (mm _) 2 (c' := (74, [.ref 0, .int (nI s), .int (nI 2), .ref (1 + 2 + 2 * s)], [.int (nI 0), .int (nI 0), .ref (1 + 2 + 2 * s + 1)], (0, 0), h)) rfl ?_
        refine ab_W.call (mm _) (k := 33) (av := [.ref (1 + 2 + 2 * s + 1), .int (nI 0), .int (nI 0)]) (c' := (77, [.ref 0, .int (nI s), .int (nI 2), .ref (1 + 2 + 2 * s)], [], (0, 0), h)) rfl ?_
        refine sp_greatestOf _ (k := 1) f2 (by decide) (by decide) ?_
        show ab_W _ _ _ (77, [.ref 0, .int (nI s), .int (nI 2), .ref (1 + 2 + 2 * s)], [.int (mx g 1)], (0, 0), h)
        refine ab_W.retI (mm _) (rt := some .int) (v := mx g 1) rfl rfl ?_
        exact hp h hR (fun _ _ => rfl)
      | 3, _ =>
        rw [show aboutO σ.1 (nI 3) (some s) = _ from (ci_f (by decide)).trans ((ci_f (by decide)).trans ((ci_f (by decide)).trans (ci_t rfl))), ← mn_congr (by decide) (by decide) (fun c hc => f3 c (inK_lt (by decide) (by decide) hc))] at hp
        refine ab_W.go (mm _) 1 (c' := (78, [.ref 0, .int (nI s), .int (nI 3), .ref (1 + 2 + 2 * s)], [], (0, 0), h)) rfl ?_
        refine ab_W.go (mm _) 1 (c' := (79, [.ref 0, .int (nI s), .int (nI 3), .ref (1 + 2 + 2 * s)], [.ref (1 + 2 + 2 * s)], (0, 0), h)) rfl ?_
        refine ab_W.o (mm _) (e) rfl (c' := (82, [.ref 0, .int (nI s), .int (nI 3), .ref (1 + 2 + 2 * s)], [.ref (1 + 2 + 2 * s + 1)], (0, 0), h)) rfl ?_
        refine ab_W.go (mm _) 2 (c' := (84, [.ref 0, .int (nI s), .int (nI 3), .ref (1 + 2 + 2 * s)], [.int (nI 0), .int (nI 0), .ref (1 + 2 + 2 * s + 1)], (0, 0), h)) rfl ?_
        refine ab_W.call (mm _) (k := 34) (av := [.ref (1 + 2 + 2 * s + 1), .int (nI 0), .int (nI 0)]) (c' := (87, [.ref 0, .int (nI s), .int (nI 3), .ref (1 + 2 + 2 * s)], [], (0, 0), h)) rfl ?_
        refine sp_leastOf _ (k := 1) f2 (by decide) (by decide) ?_
        show ab_W _ _ _ (87, [.ref 0, .int (nI s), .int (nI 3), .ref (1 + 2 + 2 * s)], [.int (mn g 1)], (0, 0), h)
        refine ab_W.retI (mm _) (rt := some .int) (v := mn g 1) rfl rfl ?_
        exact hp h hR (fun _ _ => rfl)
      | 4, _ =>
        rw [show aboutO σ.1 (nI 4) (some s) = _ from (ci_f (by decide)).trans ((ci_f (by decide)).trans ((ci_f (by decide)).trans ((ci_f (by decide)).trans (ci_t rfl))))] at hp
        refine ab_W.go (mm _) 1 (c' := (88, [.ref 0, .int (nI s), .int (nI 4), .ref (1 + 2 + 2 * s)], [], (0, 0), h)) rfl ?_
        refine ab_W.go (mm _) 1 (c' := (89, [.ref 0, .int (nI s), .int (nI 4), .ref (1 + 2 + 2 * s)], [.ref (1 + 2 + 2 * s)], (0, 0), h)) rfl ?_
        refine ab_W.o (mm _) (e) rfl (c' := (92, [.ref 0, .int (nI s), .int (nI 4), .ref (1 + 2 + 2 * s)], [.long (nm σ.1 s)], (0, 0), h)) rfl ?_
        refine ab_W.go (mm _) 2 (c' := (94, [.ref 0, .int (nI s), .int (nI 4), .ref (1 + 2 + 2 * s)], [.int (lg_cmp (nm σ.1 s) (lN 0))], (0, 0), h)) rfl ?_
        refine ab_W.ite (mm _) (p := (lg_cmp (nm σ.1 s) (lN 0)) = 0) (c1 := (97, [.ref 0, .int (nI s), .int (nI 4), .ref (1 + 2 + 2 * s)], [], (0, 0), h)) (c2 := (102, [.ref 0, .int (nI s), .int (nI 4), .ref (1 + 2 + 2 * s)], [], (0, 0), h)) rfl (fun q => ?_) (fun q => ?_)
        · skip
          rw [ci_t ((lg_cmp0 _ _).mp q)] at hp
          refine ab_W.go (mm _) 2 (c' := (109, [.ref 0, .int (nI s), .int (nI 4), .ref (1 + 2 + 2 * s)], [.int (-(nI 6))], (0, 0), h)) rfl ?_
          refine ab_W.retI (mm _) (rt := some .int) (v := -(nI 6)) rfl rfl ?_
          exact hp h hR (fun _ _ => rfl)
        · skip
          have q : ¬ nm σ.1 s = lN 0 := fun z => q ((lg_cmp0 _ _).mpr z)
          rw [ci_f q] at hp
          refine ab_W.go (mm _) 1 (c' := (103, [.ref 0, .int (nI s), .int (nI 4), .ref (1 + 2 + 2 * s)], [.ref (1 + 2 + 2 * s)], (0, 0), h)) rfl ?_
          refine ab_W.o (mm _) (e) rfl (c' := (106, [.ref 0, .int (nI s), .int (nI 4), .ref (1 + 2 + 2 * s)], [.long (nm σ.1 s)], (0, 0), h)) rfl ?_
          refine ab_W.call (mm _) (k := 27) (av := [.long (nm σ.1 s)]) (c' := (109, [.ref 0, .int (nI s), .int (nI 4), .ref (1 + 2 + 2 * s)], [], (0, 0), h)) rfl ?_
          refine sp_depthAround _ q ?_
          show ab_W _ _ _ (109, [.ref 0, .int (nI s), .int (nI 4), .ref (1 + 2 + 2 * s)], [.int (nI (dep (lsN (nm σ.1 s))))], (0, 0), h)
          refine ab_W.retI (mm _) (rt := some .int) (v := nI (dep (lsN (nm σ.1 s)))) rfl rfl ?_
          exact hp h hR (fun _ _ => rfl)
      | n + 5, z => exact absurd z (by omega)
theorem sp_growth (d : Nat) {h : ab_H} {σ : Sg} {x : Int32} {y : Int32} (hR : relC h σ) {post : ab_P} (hp : okC h post (growthO σ.1 y (stN σ.1 x)) (σ)) : mCC (d + 13) kSpanStamps_growth [.ref 0, .int x, .int y] h post := by
  have r0 := hR.1
  have rc := hR.2.1
  rcases stamp_or σ.1 x with hx | ⟨s, hs, rfl, hx⟩
  · rw [stN_no hx] at hp
    refine ⟨rfl, ?_⟩
    show ab_W _ _ _ (0, [.ref 0, .int x, .int y, .retAddr 0], [], (0, 0), h)
    refine ab_W.go (mm _) 1 (c' := (1, [.ref 0, .int x, .int y, .retAddr 0], [.ref 0], (0, 0), h)) rfl ?_
    refine ab_W.o (mm _) (r0) rfl (c' := (4, [.ref 0, .int x, .int y, .retAddr 0], [.ref 1], (0, 0), h)) rfl ?_
    refine ab_W.go (mm _) 1 (c' := (5, [.ref 0, .int x, .int y, .retAddr 0], [.int x, .ref 1], (0, 0), h)) rfl ?_
    refine ab_W.callV (mm _) (rc.1) rfl (k := 1) (av := [.ref 1, .int x]) (c' := (8, [.ref 0, .int x, .int y, .retAddr 0], [], (0, 0), h)) rfl ?_
    refine sp_findN _ rc hx ?_
    show ab_W _ _ _ (8, [.ref 0, .int x, .int y, .retAddr 0], [.null], (0, 0), h)
    refine ab_W.go (mm _) 2 (c' := (10, [.ref 0, .int x, .int y, .null], [.null], (0, 0), h)) rfl ?_
    refine ab_W.go (mm _) 1 (c' := (13, [.ref 0, .int x, .int y, .null], [], (0, 0), h)) rfl ?_
    refine ab_W.go (mm _) 1 (c' := (14, [.ref 0, .int x, .int y, .null], [.int (-(nI 1))], (0, 0), h)) rfl ?_
    refine ab_W.retI (mm _) (rt := some .int) (v := -(nI 1)) rfl rfl ?_
    exact hp h hR (fun _ _ => rfl)
  · rw [stN_yes hs hx] at hp
    have e := (rc.2.2 s hs).1
    refine ⟨rfl, ?_⟩
    show ab_W _ _ _ (0, [.ref 0, .int (nI s), .int y, .retAddr 0], [], (0, 0), h)
    refine ab_W.go (mm _) 1 (c' := (1, [.ref 0, .int (nI s), .int y, .retAddr 0], [.ref 0], (0, 0), h)) rfl ?_
    refine ab_W.o (mm _) (r0) rfl (c' := (4, [.ref 0, .int (nI s), .int y, .retAddr 0], [.ref 1], (0, 0), h)) rfl ?_
    refine ab_W.go (mm _) 1 (c' := (5, [.ref 0, .int (nI s), .int y, .retAddr 0], [.int (nI s), .ref 1], (0, 0), h)) rfl ?_
    refine ab_W.callV (mm _) (rc.1) rfl (k := 1) (av := [.ref 1, .int (nI s)]) (c' := (8, [.ref 0, .int (nI s), .int y, .retAddr 0], [], (0, 0), h)) rfl ?_
    refine sp_find _ rc hs hx ?_
    show ab_W _ _ _ (8, [.ref 0, .int (nI s), .int y, .retAddr 0], [.ref (1 + 2 + 2 * s)], (0, 0), h)
    refine ab_W.go (mm _) 2 (c' := (10, [.ref 0, .int (nI s), .int y, .ref (1 + 2 + 2 * s)], [.ref (1 + 2 + 2 * s)], (0, 0), h)) rfl ?_
    refine ab_W.go (mm _) 1 (c' := (15, [.ref 0, .int (nI s), .int y, .ref (1 + 2 + 2 * s)], [], (0, 0), h)) rfl ?_
    refine ab_W.go (mm _) 1 (c' := (16, [.ref 0, .int (nI s), .int y, .ref (1 + 2 + 2 * s)], [.int y], (0, 0), h)) rfl ?_
    obtain ⟨-, -, -, ⟨x1, x2, x3, x4, x5, r4⟩, ⟨gF, r5⟩, -⟩ := id hR
    obtain ⟨-, g, f2, f3⟩ := rc.2.2 s hs
    rcases pk_ix y (n := 5) (by decide) with q | q | ⟨j, j1, rfl⟩
    · rw [show growthO σ.1 y (some s) = _ from ci_t (Or.inl q)] at hp
      refine ab_W.itT (mm _) (p := y < 0) (c1 := (24, [.ref 0, .int (nI s), .int y, .ref (1 + 2 + 2 * s)], [], (0, 0), h)) (c2 := (19, [.ref 0, .int (nI s), .int y, .ref (1 + 2 + 2 * s)], [], (0, 0), h)) rfl (q) ?_
      refine ab_W.go (mm _) 1 (c' := (26, [.ref 0, .int (nI s), .int y, .ref (1 + 2 + 2 * s)], [.int (-(nI 2))], (0, 0), h)) rfl ?_
      refine ab_W.retI (mm _) (rt := some .int) (v := -(nI 2)) rfl rfl ?_
      exact hp h hR (fun _ _ => rfl)
    · have q' : nI 4 < y := by
        have a := Int32.le_iff_toInt_le.mp q
        have b : (nI 4).toInt < (nI 5).toInt := by decide
        exact Int32.lt_iff_toInt_lt.mpr (Int.lt_of_lt_of_le b a)
      rw [show growthO σ.1 y (some s) = _ from ci_t (Or.inr q')] at hp
      refine ab_W.itF (mm _) (p := y < 0) (c1 := (24, [.ref 0, .int (nI s), .int y, .ref (1 + 2 + 2 * s)], [], (0, 0), h)) (c2 := (19, [.ref 0, .int (nI s), .int y, .ref (1 + 2 + 2 * s)], [], (0, 0), h)) rfl (nI_le0 q (by decide)) ?_
      refine ab_W.go (mm _) 2 (c' := (21, [.ref 0, .int (nI s), .int y, .ref (1 + 2 + 2 * s)], [.int (nI 4), .int y], (0, 0), h)) rfl ?_
      refine ab_W.itF (mm _) (p := y ≤ (nI 4)) (c1 := (27, [.ref 0, .int (nI s), .int y, .ref (1 + 2 + 2 * s)], [], (0, 0), h)) (c2 := (24, [.ref 0, .int (nI s), .int y, .ref (1 + 2 + 2 * s)], [], (0, 0), h)) rfl (Int32.not_le.mpr q') ?_
      refine ab_W.go (mm _) 1 (c' := (26, [.ref 0, .int (nI s), .int y, .ref (1 + 2 + 2 * s)], [.int (-(nI 2))], (0, 0), h)) rfl ?_
      refine ab_W.retI (mm _) (rt := some .int) (v := -(nI 2)) rfl rfl ?_
      exact hp h hR (fun _ _ => rfl)
    · match j, j1 with
      | 0, _ =>
        rw [show growthO σ.1 (nI 0) (some s) = _ from ci_f (by decide)] at hp
        refine ab_W.itF (mm _) (p := (nI 0) < 0) (c1 := (24, [.ref 0, .int (nI s), .int (nI 0), .ref (1 + 2 + 2 * s)], [], (0, 0), h)) (c2 := (19, [.ref 0, .int (nI s), .int (nI 0), .ref (1 + 2 + 2 * s)], [], (0, 0), h)) rfl ((by decide)) ?_
        refine ab_W.go (mm _) 2 (c' := (21, [.ref 0, .int (nI s), .int (nI 0), .ref (1 + 2 + 2 * s)], [.int (nI 4), .int (nI 0)], (0, 0), h)) rfl ?_
        refine ab_W.itT (mm _) (p := (nI 0) ≤ (nI 4)) (c1 := (27, [.ref 0, .int (nI s), .int (nI 0), .ref (1 + 2 + 2 * s)], [], (0, 0), h)) (c2 := (24, [.ref 0, .int (nI s), .int (nI 0), .ref (1 + 2 + 2 * s)], [], (0, 0), h)) rfl ((by decide)) ?_
        refine ab_W.go (mm _) 1 (c' := (28, [.ref 0, .int (nI s), .int (nI 0), .ref (1 + 2 + 2 * s)], [.ref (1 + 2 + 2 * s)], (0, 0), h)) rfl ?_
        refine ab_W.o (mm _) (e) rfl (c' := (31, [.ref 0, .int (nI s), .int (nI 0), .ref (1 + 2 + 2 * s)], [.long (nm σ.1 s)], (0, 0), h)) rfl ?_
        refine ab_W.go (mm _) 2 (c' := (33, [.ref 0, .int (nI s), .int (nI 0), .ref (1 + 2 + 2 * s)], [.int (lg_cmp (nm σ.1 s) (lN 0))], (0, 0), h)) rfl ?_
        refine ab_W.ite (mm _) (p := (lg_cmp (nm σ.1 s) (lN 0)) = 0) (c1 := (36, [.ref 0, .int (nI s), .int (nI 0), .ref (1 + 2 + 2 * s)], [], (0, 0), h)) (c2 := (39, [.ref 0, .int (nI s), .int (nI 0), .ref (1 + 2 + 2 * s)], [], (0, 0), h)) rfl (fun q => ?_) (fun q => ?_)
        · skip
          rw [ci_t ((lg_cmp0 _ _).mp q)] at hp
          refine ab_W.go (mm _) 1 (c' := (38, [.ref 0, .int (nI s), .int (nI 0), .ref (1 + 2 + 2 * s)], [.int (-(nI 3))], (0, 0), h)) rfl ?_
          refine ab_W.retI (mm _) (rt := some .int) (v := -(nI 3)) rfl rfl ?_
          exact hp h hR (fun _ _ => rfl)
        · skip
          have q : ¬ nm σ.1 s = lN 0 := fun z => q ((lg_cmp0 _ _).mpr z)
          rw [ci_f q] at hp
          refine ab_W.go (mm _) 1 (c' := (40, [.ref 0, .int (nI s), .int (nI 0), .ref (1 + 2 + 2 * s)], [.ref 0], (0, 0), h)) rfl ?_
          refine ab_W.o (mm _) (r0) rfl (c' := (43, [.ref 0, .int (nI s), .int (nI 0), .ref (1 + 2 + 2 * s)], [.ref 28], (0, 0), h)) rfl ?_
          refine ab_W.go (mm _) 1 (c' := (44, [.ref 0, .int (nI s), .int (nI 0), .ref (1 + 2 + 2 * s)], [.ref (1 + 2 + 2 * s), .ref 28], (0, 0), h)) rfl ?_
          refine ab_W.callV (mm _) (r4) rfl (k := 13) (av := [.ref 28, .ref (1 + 2 + 2 * s)]) (c' := (47, [.ref 0, .int (nI s), .int (nI 0), .ref (1 + 2 + 2 * s)], [], (0, 0), h)) rfl ?_
          refine sp_lookAt _ e f2 r4 r5 (by decide) (by omega) (by omega) (by omega) (by omega) (isP_ex q) (fun y1 y2 y3 y4 y5 G lk => ?_)
          obtain ⟨w1, w2, w3, w4, w5, w6⟩ := (lk.congr f3).ok
          show ab_W _ _ _ (47, [.ref 0, .int (nI s), .int (nI 0), .ref (1 + 2 + 2 * s)], [], (0, 0), hX h 28 29 y1 y2 y3 y4 y5 G)
          have r0' : (hX h 28 29 y1 y2 y3 y4 y5 G)[0]? = _ := hR.fore.1
          have r4' : (hX h 28 29 y1 y2 y3 y4 y5 G)[28]? = _ := hX_o (hA_lt r4) (by decide)
          refine ab_W.go (mm _) 1 (c' := (48, [.ref 0, .int (nI s), .int (nI 0), .ref (1 + 2 + 2 * s)], [.int (nI 0)], (0, 0), hX h 28 29 y1 y2 y3 y4 y5 G)) rfl ?_
          refine ab_W.go (mm _) 1 (c' := (80, [.ref 0, .int (nI s), .int (nI 0), .ref (1 + 2 + 2 * s)], [], (0, 0), hX h 28 29 y1 y2 y3 y4 y5 G)) rfl ?_
          refine ab_W.go (mm _) 1 (c' := (81, [.ref 0, .int (nI s), .int (nI 0), .ref (1 + 2 + 2 * s)], [.ref 0], (0, 0), hX h 28 29 y1 y2 y3 y4 y5 G)) rfl ?_
          refine ab_W.o (mm _) (r0') rfl (c' := (84, [.ref 0, .int (nI s), .int (nI 0), .ref (1 + 2 + 2 * s)], [.ref 28], (0, 0), hX h 28 29 y1 y2 y3 y4 y5 G)) rfl ?_
          refine ab_W.o (mm _) (r4') rfl (c' := (87, [.ref 0, .int (nI s), .int (nI 0), .ref (1 + 2 + 2 * s)], [.int y1], (0, 0), hX h 28 29 y1 y2 y3 y4 y5 G)) rfl ?_
          have hv : y1 = nI 1 ∨ y1 = nI 0 := by
            rw [w1]
            unfold grF
            by_cases z : 0 < nch (nm σ.1 s) (ht σ.1 s)
            · exact Or.inl (ci_t z)
            · exact Or.inr (ci_f z)
          have hp' : okC h post y1 σ := by rw [w1]; exact hp
          rcases hv with hv | hv
          · rw [hv] at hp'
            refine ab_W.itF (mm _) (p := y1 = 0) (c1 := (94, [.ref 0, .int (nI s), .int (nI 0), .ref (1 + 2 + 2 * s)], [], (0, 0), hX h 28 29 y1 y2 y3 y4 y5 G)) (c2 := (90, [.ref 0, .int (nI s), .int (nI 0), .ref (1 + 2 + 2 * s)], [], (0, 0), hX h 28 29 y1 y2 y3 y4 y5 G)) rfl (by rw [hv]; decide) ?_
            refine ab_W.go (mm _) 2 (c' := (95, [.ref 0, .int (nI s), .int (nI 0), .ref (1 + 2 + 2 * s)], [.int (nI 1)], (0, 0), hX h 28 29 y1 y2 y3 y4 y5 G)) rfl ?_
            refine ab_W.retI (mm _) (rt := some .int) (v := nI 1) rfl rfl ?_
            exact hp' _ hR.fore (fun i hi => hX_ne (by omega) (by omega))
          · rw [hv] at hp'
            refine ab_W.itT (mm _) (p := y1 = 0) (c1 := (94, [.ref 0, .int (nI s), .int (nI 0), .ref (1 + 2 + 2 * s)], [], (0, 0), hX h 28 29 y1 y2 y3 y4 y5 G)) (c2 := (90, [.ref 0, .int (nI s), .int (nI 0), .ref (1 + 2 + 2 * s)], [], (0, 0), hX h 28 29 y1 y2 y3 y4 y5 G)) rfl (by rw [hv]; decide) ?_
            refine ab_W.go (mm _) 1 (c' := (95, [.ref 0, .int (nI s), .int (nI 0), .ref (1 + 2 + 2 * s)], [.int (nI 0)], (0, 0), hX h 28 29 y1 y2 y3 y4 y5 G)) rfl ?_
            refine ab_W.retI (mm _) (rt := some .int) (v := nI 0) rfl rfl ?_
            exact hp' _ hR.fore (fun i hi => hX_ne (by omega) (by omega))
      | 1, _ =>
        rw [show growthO σ.1 (nI 1) (some s) = _ from ci_f (by decide)] at hp
        refine ab_W.itF (mm _) (p := (nI 1) < 0) (c1 := (24, [.ref 0, .int (nI s), .int (nI 1), .ref (1 + 2 + 2 * s)], [], (0, 0), h)) (c2 := (19, [.ref 0, .int (nI s), .int (nI 1), .ref (1 + 2 + 2 * s)], [], (0, 0), h)) rfl ((by decide)) ?_
        refine ab_W.go (mm _) 2 (c' := (21, [.ref 0, .int (nI s), .int (nI 1), .ref (1 + 2 + 2 * s)], [.int (nI 4), .int (nI 1)], (0, 0), h)) rfl ?_
        refine ab_W.itT (mm _) (p := (nI 1) ≤ (nI 4)) (c1 := (27, [.ref 0, .int (nI s), .int (nI 1), .ref (1 + 2 + 2 * s)], [], (0, 0), h)) (c2 := (24, [.ref 0, .int (nI s), .int (nI 1), .ref (1 + 2 + 2 * s)], [], (0, 0), h)) rfl ((by decide)) ?_
        refine ab_W.go (mm _) 1 (c' := (28, [.ref 0, .int (nI s), .int (nI 1), .ref (1 + 2 + 2 * s)], [.ref (1 + 2 + 2 * s)], (0, 0), h)) rfl ?_
        refine ab_W.o (mm _) (e) rfl (c' := (31, [.ref 0, .int (nI s), .int (nI 1), .ref (1 + 2 + 2 * s)], [.long (nm σ.1 s)], (0, 0), h)) rfl ?_
        refine ab_W.go (mm _) 2 (c' := (33, [.ref 0, .int (nI s), .int (nI 1), .ref (1 + 2 + 2 * s)], [.int (lg_cmp (nm σ.1 s) (lN 0))], (0, 0), h)) rfl ?_
        refine ab_W.ite (mm _) (p := (lg_cmp (nm σ.1 s) (lN 0)) = 0) (c1 := (36, [.ref 0, .int (nI s), .int (nI 1), .ref (1 + 2 + 2 * s)], [], (0, 0), h)) (c2 := (39, [.ref 0, .int (nI s), .int (nI 1), .ref (1 + 2 + 2 * s)], [], (0, 0), h)) rfl (fun q => ?_) (fun q => ?_)
        · skip
          rw [ci_t ((lg_cmp0 _ _).mp q)] at hp
          refine ab_W.go (mm _) 1 (c' := (38, [.ref 0, .int (nI s), .int (nI 1), .ref (1 + 2 + 2 * s)], [.int (-(nI 3))], (0, 0), h)) rfl ?_
          refine ab_W.retI (mm _) (rt := some .int) (v := -(nI 3)) rfl rfl ?_
          exact hp h hR (fun _ _ => rfl)
        · skip
          have q : ¬ nm σ.1 s = lN 0 := fun z => q ((lg_cmp0 _ _).mpr z)
          rw [ci_f q] at hp
          refine ab_W.go (mm _) 1 (c' := (40, [.ref 0, .int (nI s), .int (nI 1), .ref (1 + 2 + 2 * s)], [.ref 0], (0, 0), h)) rfl ?_
          refine ab_W.o (mm _) (r0) rfl (c' := (43, [.ref 0, .int (nI s), .int (nI 1), .ref (1 + 2 + 2 * s)], [.ref 28], (0, 0), h)) rfl ?_
          refine ab_W.go (mm _) 1 (c' := (44, [.ref 0, .int (nI s), .int (nI 1), .ref (1 + 2 + 2 * s)], [.ref (1 + 2 + 2 * s), .ref 28], (0, 0), h)) rfl ?_
          refine ab_W.callV (mm _) (r4) rfl (k := 13) (av := [.ref 28, .ref (1 + 2 + 2 * s)]) (c' := (47, [.ref 0, .int (nI s), .int (nI 1), .ref (1 + 2 + 2 * s)], [], (0, 0), h)) rfl ?_
          refine sp_lookAt _ e f2 r4 r5 (by decide) (by omega) (by omega) (by omega) (by omega) (isP_ex q) (fun y1 y2 y3 y4 y5 G lk => ?_)
          obtain ⟨w1, w2, w3, w4, w5, w6⟩ := (lk.congr f3).ok
          show ab_W _ _ _ (47, [.ref 0, .int (nI s), .int (nI 1), .ref (1 + 2 + 2 * s)], [], (0, 0), hX h 28 29 y1 y2 y3 y4 y5 G)
          have r0' : (hX h 28 29 y1 y2 y3 y4 y5 G)[0]? = _ := hR.fore.1
          have r4' : (hX h 28 29 y1 y2 y3 y4 y5 G)[28]? = _ := hX_o (hA_lt r4) (by decide)
          refine ab_W.go (mm _) 1 (c' := (48, [.ref 0, .int (nI s), .int (nI 1), .ref (1 + 2 + 2 * s)], [.int (nI 1)], (0, 0), hX h 28 29 y1 y2 y3 y4 y5 G)) rfl ?_
          refine ab_W.go (mm _) 1 (c' := (96, [.ref 0, .int (nI s), .int (nI 1), .ref (1 + 2 + 2 * s)], [], (0, 0), hX h 28 29 y1 y2 y3 y4 y5 G)) rfl ?_
          refine ab_W.go (mm _) 1 (c' := (97, [.ref 0, .int (nI s), .int (nI 1), .ref (1 + 2 + 2 * s)], [.ref 0], (0, 0), hX h 28 29 y1 y2 y3 y4 y5 G)) rfl ?_
          refine ab_W.o (mm _) (r0') rfl (c' := (100, [.ref 0, .int (nI s), .int (nI 1), .ref (1 + 2 + 2 * s)], [.ref 28], (0, 0), hX h 28 29 y1 y2 y3 y4 y5 G)) rfl ?_
          refine ab_W.o (mm _) (r4') rfl (c' := (103, [.ref 0, .int (nI s), .int (nI 1), .ref (1 + 2 + 2 * s)], [.int y2], (0, 0), hX h 28 29 y1 y2 y3 y4 y5 G)) rfl ?_
          refine ab_W.retI (mm _) (rt := some .int) (v := y2) rfl rfl ?_
          have hp' : okC h post y2 σ := by rw [w2]; exact hp
          exact hp' _ hR.fore (fun i hi => hX_ne (by omega) (by omega))
      | 2, _ =>
        rw [show growthO σ.1 (nI 2) (some s) = _ from ci_f (by decide)] at hp
        refine ab_W.itF (mm _) (p := (nI 2) < 0) (c1 := (24, [.ref 0, .int (nI s), .int (nI 2), .ref (1 + 2 + 2 * s)], [], (0, 0), h)) (c2 := (19, [.ref 0, .int (nI s), .int (nI 2), .ref (1 + 2 + 2 * s)], [], (0, 0), h)) rfl ((by decide)) ?_
        refine ab_W.go (mm _) 2 (c' := (21, [.ref 0, .int (nI s), .int (nI 2), .ref (1 + 2 + 2 * s)], [.int (nI 4), .int (nI 2)], (0, 0), h)) rfl ?_
        refine ab_W.itT (mm _) (p := (nI 2) ≤ (nI 4)) (c1 := (27, [.ref 0, .int (nI s), .int (nI 2), .ref (1 + 2 + 2 * s)], [], (0, 0), h)) (c2 := (24, [.ref 0, .int (nI s), .int (nI 2), .ref (1 + 2 + 2 * s)], [], (0, 0), h)) rfl ((by decide)) ?_
        refine ab_W.go (mm _) 1 (c' := (28, [.ref 0, .int (nI s), .int (nI 2), .ref (1 + 2 + 2 * s)], [.ref (1 + 2 + 2 * s)], (0, 0), h)) rfl ?_
        refine ab_W.o (mm _) (e) rfl (c' := (31, [.ref 0, .int (nI s), .int (nI 2), .ref (1 + 2 + 2 * s)], [.long (nm σ.1 s)], (0, 0), h)) rfl ?_
        refine ab_W.go (mm _) 2 (c' := (33, [.ref 0, .int (nI s), .int (nI 2), .ref (1 + 2 + 2 * s)], [.int (lg_cmp (nm σ.1 s) (lN 0))], (0, 0), h)) rfl ?_
        refine ab_W.ite (mm _) (p := (lg_cmp (nm σ.1 s) (lN 0)) = 0) (c1 := (36, [.ref 0, .int (nI s), .int (nI 2), .ref (1 + 2 + 2 * s)], [], (0, 0), h)) (c2 := (39, [.ref 0, .int (nI s), .int (nI 2), .ref (1 + 2 + 2 * s)], [], (0, 0), h)) rfl (fun q => ?_) (fun q => ?_)
        · skip
          rw [ci_t ((lg_cmp0 _ _).mp q)] at hp
          refine ab_W.go (mm _) 1 (c' := (38, [.ref 0, .int (nI s), .int (nI 2), .ref (1 + 2 + 2 * s)], [.int (-(nI 3))], (0, 0), h)) rfl ?_
          refine ab_W.retI (mm _) (rt := some .int) (v := -(nI 3)) rfl rfl ?_
          exact hp h hR (fun _ _ => rfl)
        · skip
          have q : ¬ nm σ.1 s = lN 0 := fun z => q ((lg_cmp0 _ _).mpr z)
          rw [ci_f q] at hp
          refine ab_W.go (mm _) 1 (c' := (40, [.ref 0, .int (nI s), .int (nI 2), .ref (1 + 2 + 2 * s)], [.ref 0], (0, 0), h)) rfl ?_
          refine ab_W.o (mm _) (r0) rfl (c' := (43, [.ref 0, .int (nI s), .int (nI 2), .ref (1 + 2 + 2 * s)], [.ref 28], (0, 0), h)) rfl ?_
          refine ab_W.go (mm _) 1 (c' := (44, [.ref 0, .int (nI s), .int (nI 2), .ref (1 + 2 + 2 * s)], [.ref (1 + 2 + 2 * s), .ref 28], (0, 0), h)) rfl ?_
          refine ab_W.callV (mm _) (r4) rfl (k := 13) (av := [.ref 28, .ref (1 + 2 + 2 * s)]) (c' := (47, [.ref 0, .int (nI s), .int (nI 2), .ref (1 + 2 + 2 * s)], [], (0, 0), h)) rfl ?_
          refine sp_lookAt _ e f2 r4 r5 (by decide) (by omega) (by omega) (by omega) (by omega) (isP_ex q) (fun y1 y2 y3 y4 y5 G lk => ?_)
          obtain ⟨w1, w2, w3, w4, w5, w6⟩ := (lk.congr f3).ok
          show ab_W _ _ _ (47, [.ref 0, .int (nI s), .int (nI 2), .ref (1 + 2 + 2 * s)], [], (0, 0), hX h 28 29 y1 y2 y3 y4 y5 G)
          have r0' : (hX h 28 29 y1 y2 y3 y4 y5 G)[0]? = _ := hR.fore.1
          have r4' : (hX h 28 29 y1 y2 y3 y4 y5 G)[28]? = _ := hX_o (hA_lt r4) (by decide)
          refine ab_W.go (mm _) 1 (c' := (48, [.ref 0, .int (nI s), .int (nI 2), .ref (1 + 2 + 2 * s)], [.int (nI 2)], (0, 0), hX h 28 29 y1 y2 y3 y4 y5 G)) rfl ?_
          refine ab_W.go (mm _) 1 (c' := (104, [.ref 0, .int (nI s), .int (nI 2), .ref (1 + 2 + 2 * s)], [], (0, 0), hX h 28 29 y1 y2 y3 y4 y5 G)) rfl ?_
          refine ab_W.go (mm _) 1 (c' := (105, [.ref 0, .int (nI s), .int (nI 2), .ref (1 + 2 + 2 * s)], [.ref 0], (0, 0), hX h 28 29 y1 y2 y3 y4 y5 G)) rfl ?_
          refine ab_W.o (mm _) (r0') rfl (c' := (108, [.ref 0, .int (nI s), .int (nI 2), .ref (1 + 2 + 2 * s)], [.ref 28], (0, 0), hX h 28 29 y1 y2 y3 y4 y5 G)) rfl ?_
          refine ab_W.o (mm _) (r4') rfl (c' := (111, [.ref 0, .int (nI s), .int (nI 2), .ref (1 + 2 + 2 * s)], [.int y3], (0, 0), hX h 28 29 y1 y2 y3 y4 y5 G)) rfl ?_
          refine ab_W.retI (mm _) (rt := some .int) (v := y3) rfl rfl ?_
          have hp' : okC h post y3 σ := by rw [w3]; exact hp
          exact hp' _ hR.fore (fun i hi => hX_ne (by omega) (by omega))
      | 3, _ =>
        rw [show growthO σ.1 (nI 3) (some s) = _ from ci_f (by decide)] at hp
        refine ab_W.itF (mm _) (p := (nI 3) < 0) (c1 := (24, [.ref 0, .int (nI s), .int (nI 3), .ref (1 + 2 + 2 * s)], [], (0, 0), h)) (c2 := (19, [.ref 0, .int (nI s), .int (nI 3), .ref (1 + 2 + 2 * s)], [], (0, 0), h)) rfl ((by decide)) ?_
        refine ab_W.go (mm _) 2 (c' := (21, [.ref 0, .int (nI s), .int (nI 3), .ref (1 + 2 + 2 * s)], [.int (nI 4), .int (nI 3)], (0, 0), h)) rfl ?_
        refine ab_W.itT (mm _) (p := (nI 3) ≤ (nI 4)) (c1 := (27, [.ref 0, .int (nI s), .int (nI 3), .ref (1 + 2 + 2 * s)], [], (0, 0), h)) (c2 := (24, [.ref 0, .int (nI s), .int (nI 3), .ref (1 + 2 + 2 * s)], [], (0, 0), h)) rfl ((by decide)) ?_
        refine ab_W.go (mm _) 1 (c' := (28, [.ref 0, .int (nI s), .int (nI 3), .ref (1 + 2 + 2 * s)], [.ref (1 + 2 + 2 * s)], (0, 0), h)) rfl ?_
        refine ab_W.o (mm _) (e) rfl (c' := (31, [.ref 0, .int (nI s), .int (nI 3), .ref (1 + 2 + 2 * s)], [.long (nm σ.1 s)], (0, 0), h)) rfl ?_
        refine ab_W.go (mm _) 2 (c' := (33, [.ref 0, .int (nI s), .int (nI 3), .ref (1 + 2 + 2 * s)], [.int (lg_cmp (nm σ.1 s) (lN 0))], (0, 0), h)) rfl ?_
        refine ab_W.ite (mm _) (p := (lg_cmp (nm σ.1 s) (lN 0)) = 0) (c1 := (36, [.ref 0, .int (nI s), .int (nI 3), .ref (1 + 2 + 2 * s)], [], (0, 0), h)) (c2 := (39, [.ref 0, .int (nI s), .int (nI 3), .ref (1 + 2 + 2 * s)], [], (0, 0), h)) rfl (fun q => ?_) (fun q => ?_)
        · skip
          rw [ci_t ((lg_cmp0 _ _).mp q)] at hp
          refine ab_W.go (mm _) 1 (c' := (38, [.ref 0, .int (nI s), .int (nI 3), .ref (1 + 2 + 2 * s)], [.int (-(nI 3))], (0, 0), h)) rfl ?_
          refine ab_W.retI (mm _) (rt := some .int) (v := -(nI 3)) rfl rfl ?_
          exact hp h hR (fun _ _ => rfl)
        · skip
          have q : ¬ nm σ.1 s = lN 0 := fun z => q ((lg_cmp0 _ _).mpr z)
          rw [ci_f q] at hp
          refine ab_W.go (mm _) 1 (c' := (40, [.ref 0, .int (nI s), .int (nI 3), .ref (1 + 2 + 2 * s)], [.ref 0], (0, 0), h)) rfl ?_
          refine ab_W.o (mm _) (r0) rfl (c' := (43, [.ref 0, .int (nI s), .int (nI 3), .ref (1 + 2 + 2 * s)], [.ref 28], (0, 0), h)) rfl ?_
          refine ab_W.go (mm _) 1 (c' := (44, [.ref 0, .int (nI s), .int (nI 3), .ref (1 + 2 + 2 * s)], [.ref (1 + 2 + 2 * s), .ref 28], (0, 0), h)) rfl ?_
          refine ab_W.callV (mm _) (r4) rfl (k := 13) (av := [.ref 28, .ref (1 + 2 + 2 * s)]) (c' := (47, [.ref 0, .int (nI s), .int (nI 3), .ref (1 + 2 + 2 * s)], [], (0, 0), h)) rfl ?_
          refine sp_lookAt _ e f2 r4 r5 (by decide) (by omega) (by omega) (by omega) (by omega) (isP_ex q) (fun y1 y2 y3 y4 y5 G lk => ?_)
          obtain ⟨w1, w2, w3, w4, w5, w6⟩ := (lk.congr f3).ok
          show ab_W _ _ _ (47, [.ref 0, .int (nI s), .int (nI 3), .ref (1 + 2 + 2 * s)], [], (0, 0), hX h 28 29 y1 y2 y3 y4 y5 G)
          have r0' : (hX h 28 29 y1 y2 y3 y4 y5 G)[0]? = _ := hR.fore.1
          have r4' : (hX h 28 29 y1 y2 y3 y4 y5 G)[28]? = _ := hX_o (hA_lt r4) (by decide)
          refine ab_W.go (mm _) 1 (c' := (48, [.ref 0, .int (nI s), .int (nI 3), .ref (1 + 2 + 2 * s)], [.int (nI 3)], (0, 0), hX h 28 29 y1 y2 y3 y4 y5 G)) rfl ?_
          refine ab_W.go (mm _) 1 (c' := (112, [.ref 0, .int (nI s), .int (nI 3), .ref (1 + 2 + 2 * s)], [], (0, 0), hX h 28 29 y1 y2 y3 y4 y5 G)) rfl ?_
          refine ab_W.go (mm _) 1 (c' := (113, [.ref 0, .int (nI s), .int (nI 3), .ref (1 + 2 + 2 * s)], [.ref 0], (0, 0), hX h 28 29 y1 y2 y3 y4 y5 G)) rfl ?_
          refine ab_W.o (mm _) (r0') rfl (c' := (116, [.ref 0, .int (nI s), .int (nI 3), .ref (1 + 2 + 2 * s)], [.ref 28], (0, 0), hX h 28 29 y1 y2 y3 y4 y5 G)) rfl ?_
          refine ab_W.o (mm _) (r4') rfl (c' := (119, [.ref 0, .int (nI s), .int (nI 3), .ref (1 + 2 + 2 * s)], [.int y4], (0, 0), hX h 28 29 y1 y2 y3 y4 y5 G)) rfl ?_
          refine ab_W.retI (mm _) (rt := some .int) (v := y4) rfl rfl ?_
          have hp' : okC h post y4 σ := by rw [w4]; exact hp
          exact hp' _ hR.fore (fun i hi => hX_ne (by omega) (by omega))
      | 4, _ =>
        rw [show growthO σ.1 (nI 4) (some s) = _ from ci_f (by decide)] at hp
        refine ab_W.itF (mm _) (p := (nI 4) < 0) (c1 := (24, [.ref 0, .int (nI s), .int (nI 4), .ref (1 + 2 + 2 * s)], [], (0, 0), h)) (c2 := (19, [.ref 0, .int (nI s), .int (nI 4), .ref (1 + 2 + 2 * s)], [], (0, 0), h)) rfl ((by decide)) ?_
        refine ab_W.go (mm _) 2 (c' := (21, [.ref 0, .int (nI s), .int (nI 4), .ref (1 + 2 + 2 * s)], [.int (nI 4), .int (nI 4)], (0, 0), h)) rfl ?_
        refine ab_W.itT (mm _) (p := (nI 4) ≤ (nI 4)) (c1 := (27, [.ref 0, .int (nI s), .int (nI 4), .ref (1 + 2 + 2 * s)], [], (0, 0), h)) (c2 := (24, [.ref 0, .int (nI s), .int (nI 4), .ref (1 + 2 + 2 * s)], [], (0, 0), h)) rfl ((by decide)) ?_
        refine ab_W.go (mm _) 1 (c' := (28, [.ref 0, .int (nI s), .int (nI 4), .ref (1 + 2 + 2 * s)], [.ref (1 + 2 + 2 * s)], (0, 0), h)) rfl ?_
        refine ab_W.o (mm _) (e) rfl (c' := (31, [.ref 0, .int (nI s), .int (nI 4), .ref (1 + 2 + 2 * s)], [.long (nm σ.1 s)], (0, 0), h)) rfl ?_
        refine ab_W.go (mm _) 2 (c' := (33, [.ref 0, .int (nI s), .int (nI 4), .ref (1 + 2 + 2 * s)], [.int (lg_cmp (nm σ.1 s) (lN 0))], (0, 0), h)) rfl ?_
        refine ab_W.ite (mm _) (p := (lg_cmp (nm σ.1 s) (lN 0)) = 0) (c1 := (36, [.ref 0, .int (nI s), .int (nI 4), .ref (1 + 2 + 2 * s)], [], (0, 0), h)) (c2 := (39, [.ref 0, .int (nI s), .int (nI 4), .ref (1 + 2 + 2 * s)], [], (0, 0), h)) rfl (fun q => ?_) (fun q => ?_)
        · skip
          rw [ci_t ((lg_cmp0 _ _).mp q)] at hp
          refine ab_W.go (mm _) 1 (c' := (38, [.ref 0, .int (nI s), .int (nI 4), .ref (1 + 2 + 2 * s)], [.int (-(nI 3))], (0, 0), h)) rfl ?_
          refine ab_W.retI (mm _) (rt := some .int) (v := -(nI 3)) rfl rfl ?_
          exact hp h hR (fun _ _ => rfl)
        · skip
          have q : ¬ nm σ.1 s = lN 0 := fun z => q ((lg_cmp0 _ _).mpr z)
          rw [ci_f q] at hp
          refine ab_W.go (mm _) 1 (c' := (40, [.ref 0, .int (nI s), .int (nI 4), .ref (1 + 2 + 2 * s)], [.ref 0], (0, 0), h)) rfl ?_
          refine ab_W.o (mm _) (r0) rfl (c' := (43, [.ref 0, .int (nI s), .int (nI 4), .ref (1 + 2 + 2 * s)], [.ref 28], (0, 0), h)) rfl ?_
          refine ab_W.go (mm _) 1 (c' := (44, [.ref 0, .int (nI s), .int (nI 4), .ref (1 + 2 + 2 * s)], [.ref (1 + 2 + 2 * s), .ref 28], (0, 0), h)) rfl ?_
          refine ab_W.callV (mm _) (r4) rfl (k := 13) (av := [.ref 28, .ref (1 + 2 + 2 * s)]) (c' := (47, [.ref 0, .int (nI s), .int (nI 4), .ref (1 + 2 + 2 * s)], [], (0, 0), h)) rfl ?_
          refine sp_lookAt _ e f2 r4 r5 (by decide) (by omega) (by omega) (by omega) (by omega) (isP_ex q) (fun y1 y2 y3 y4 y5 G lk => ?_)
          obtain ⟨w1, w2, w3, w4, w5, w6⟩ := (lk.congr f3).ok
          show ab_W _ _ _ (47, [.ref 0, .int (nI s), .int (nI 4), .ref (1 + 2 + 2 * s)], [], (0, 0), hX h 28 29 y1 y2 y3 y4 y5 G)
          have r0' : (hX h 28 29 y1 y2 y3 y4 y5 G)[0]? = _ := hR.fore.1
          have r4' : (hX h 28 29 y1 y2 y3 y4 y5 G)[28]? = _ := hX_o (hA_lt r4) (by decide)
          refine ab_W.go (mm _) 1 (c' := (48, [.ref 0, .int (nI s), .int (nI 4), .ref (1 + 2 + 2 * s)], [.int (nI 4)], (0, 0), hX h 28 29 y1 y2 y3 y4 y5 G)) rfl ?_
          refine ab_W.go (mm _) 1 (c' := (120, [.ref 0, .int (nI s), .int (nI 4), .ref (1 + 2 + 2 * s)], [], (0, 0), hX h 28 29 y1 y2 y3 y4 y5 G)) rfl ?_
          refine ab_W.go (mm _) 1 (c' := (121, [.ref 0, .int (nI s), .int (nI 4), .ref (1 + 2 + 2 * s)], [.ref 0], (0, 0), hX h 28 29 y1 y2 y3 y4 y5 G)) rfl ?_
          refine ab_W.o (mm _) (r0') rfl (c' := (124, [.ref 0, .int (nI s), .int (nI 4), .ref (1 + 2 + 2 * s)], [.ref 28], (0, 0), hX h 28 29 y1 y2 y3 y4 y5 G)) rfl ?_
          refine ab_W.o (mm _) (r4') rfl (c' := (127, [.ref 0, .int (nI s), .int (nI 4), .ref (1 + 2 + 2 * s)], [.int y5], (0, 0), hX h 28 29 y1 y2 y3 y4 y5 G)) rfl ?_
          refine ab_W.retI (mm _) (rt := some .int) (v := y5) rfl rfl ?_
          have hp' : okC h post y5 σ := by rw [w5]; exact hp
          exact hp' _ hR.fore (fun i hi => hX_ne (by omega) (by omega))
      | n + 5, z => exact absurd z (by omega)
theorem sp_unlike (d : Nat) {h : ab_H} {σ : Sg} {y : Int32} (hR : relC h σ) {post : ab_P} (hp : okC h post (unF σ.1 y) σ) : mCC (d + 5) kSpanStamps_unlike [.ref 0, .int y] h post := by
  have r0 := hR.1
  have rc := hR.2.1
  rcases pk_ix y (n := 3) (by decide) with q | q | ⟨j, j1, rfl⟩
  · rw [show unF σ.1 y = _ from ((ci_f (nI_lt0 q (by decide))).trans (ci_f (nI_lt0 q (by decide)))).trans (ci_f (nI_lt0 q (by decide)))] at hp
    refine ⟨rfl, ?_⟩
    show ab_W _ _ _ (0, [.ref 0, .int y], [], (0, 0), h)
    refine ab_W.go (mm _) 1 (c' := (1, [.ref 0, .int y], [.int y], (0, 0), h)) rfl ?_
    refine ab_W.swd (mm _) rfl (sw_lo q) ?_
    show ab_W _ _ _ (52, [.ref 0, .int y], [], (0, 0), h)
    refine ab_W.go (mm _) 1 (c' := (54, [.ref 0, .int y], [.int (-(nI 2))], (0, 0), h)) rfl ?_
    refine ab_W.retI (mm _) (rt := some .int) (v := -(nI 2)) rfl rfl ?_
    exact hp h hR (fun _ _ => rfl)
  · rw [show unF σ.1 y = _ from ((ci_f (nI_geN q (by decide) (by decide))).trans (ci_f (nI_geN q (by decide) (by decide)))).trans (ci_f (nI_geN q (by decide) (by decide)))] at hp
    refine ⟨rfl, ?_⟩
    show ab_W _ _ _ (0, [.ref 0, .int y], [], (0, 0), h)
    refine ab_W.go (mm _) 1 (c' := (1, [.ref 0, .int y], [.int y], (0, 0), h)) rfl ?_
    refine ab_W.swd (mm _) rfl (sw_hi q (by decide)) ?_
    show ab_W _ _ _ (52, [.ref 0, .int y], [], (0, 0), h)
    refine ab_W.go (mm _) 1 (c' := (54, [.ref 0, .int y], [.int (-(nI 2))], (0, 0), h)) rfl ?_
    refine ab_W.retI (mm _) (rt := some .int) (v := -(nI 2)) rfl rfl ?_
    exact hp h hR (fun _ _ => rfl)
  · match j, j1 with
    | 0, _ =>
      rw [show unF σ.1 (nI 0) = _ from ci_t rfl] at hp
      refine ⟨rfl, ?_⟩
      show ab_W _ _ _ (0, [.ref 0, .int (nI 0)], [], (0, 0), h)
      refine ab_W.go (mm _) 1 (c' := (1, [.ref 0, .int (nI 0)], [.int (nI 0)], (0, 0), h)) rfl ?_
      refine ab_W.go (mm _) 1 (c' := (28, [.ref 0, .int (nI 0)], [], (0, 0), h)) rfl ?_
      refine ab_W.go (mm _) 1 (c' := (29, [.ref 0, .int (nI 0)], [.ref 0], (0, 0), h)) rfl ?_
      refine ab_W.o (mm _) (r0) rfl (c' := (32, [.ref 0, .int (nI 0)], [.ref 1], (0, 0), h)) rfl ?_
      refine ab_W.callV (mm _) (rc.1) rfl (k := 6) (av := [.ref 1]) (c' := (35, [.ref 0, .int (nI 0)], [], (0, 0), h)) rfl ?_
      refine sp_uneven _ rc ?_
      show ab_W _ _ _ (35, [.ref 0, .int (nI 0)], [.int (nI (cn (fun s => pr σ.1 s = true ∧ ¬ ∃ t, t < s ∧ pr σ.1 t = true ∧ ordN (ht σ.1 t) (ht σ.1 s) = 0) 12))], (0, 0), h)
      refine ab_W.retI (mm _) (rt := some .int) (v := nI (cn (fun s => pr σ.1 s = true ∧ ¬ ∃ t, t < s ∧ pr σ.1 t = true ∧ ordN (ht σ.1 t) (ht σ.1 s) = 0) 12)) rfl rfl ?_
      exact hp h hR (fun _ _ => rfl)
    | 1, _ =>
      rw [show unF σ.1 (nI 1) = _ from (ci_f (by decide)).trans (ci_t rfl)] at hp
      refine ⟨rfl, ?_⟩
      show ab_W _ _ _ (0, [.ref 0, .int (nI 1)], [], (0, 0), h)
      refine ab_W.go (mm _) 1 (c' := (1, [.ref 0, .int (nI 1)], [.int (nI 1)], (0, 0), h)) rfl ?_
      refine ab_W.go (mm _) 1 (c' := (36, [.ref 0, .int (nI 1)], [], (0, 0), h)) rfl ?_
      refine ab_W.go (mm _) 1 (c' := (37, [.ref 0, .int (nI 1)], [.ref 0], (0, 0), h)) rfl ?_
      refine ab_W.o (mm _) (r0) rfl (c' := (40, [.ref 0, .int (nI 1)], [.ref 1], (0, 0), h)) rfl ?_
      refine ab_W.callV (mm _) (rc.1) rfl (k := 8) (av := [.ref 1]) (c' := (43, [.ref 0, .int (nI 1)], [], (0, 0), h)) rfl ?_
      refine sp_unlikeN _ rc ?_
      show ab_W _ _ _ (43, [.ref 0, .int (nI 1)], [.int (nI (cn (fun s => pr σ.1 s = true ∧ ¬ ∃ t, t < s ∧ pr σ.1 t = true ∧ nm σ.1 t = nm σ.1 s) 12))], (0, 0), h)
      refine ab_W.retI (mm _) (rt := some .int) (v := nI (cn (fun s => pr σ.1 s = true ∧ ¬ ∃ t, t < s ∧ pr σ.1 t = true ∧ nm σ.1 t = nm σ.1 s) 12)) rfl rfl ?_
      exact hp h hR (fun _ _ => rfl)
    | 2, _ =>
      rw [show unF σ.1 (nI 2) = _ from (ci_f (by decide)).trans ((ci_f (by decide)).trans (ci_t rfl))] at hp
      refine ⟨rfl, ?_⟩
      show ab_W _ _ _ (0, [.ref 0, .int (nI 2)], [], (0, 0), h)
      refine ab_W.go (mm _) 1 (c' := (1, [.ref 0, .int (nI 2)], [.int (nI 2)], (0, 0), h)) rfl ?_
      refine ab_W.go (mm _) 1 (c' := (44, [.ref 0, .int (nI 2)], [], (0, 0), h)) rfl ?_
      refine ab_W.go (mm _) 1 (c' := (45, [.ref 0, .int (nI 2)], [.ref 0], (0, 0), h)) rfl ?_
      refine ab_W.o (mm _) (r0) rfl (c' := (48, [.ref 0, .int (nI 2)], [.ref 1], (0, 0), h)) rfl ?_
      refine ab_W.callV (mm _) (rc.1) rfl (k := 10) (av := [.ref 1]) (c' := (51, [.ref 0, .int (nI 2)], [], (0, 0), h)) rfl ?_
      refine sp_befNone _ rc ?_
      show ab_W _ _ _ (51, [.ref 0, .int (nI 2)], [.int (nI (cn (fun s => pr σ.1 s = true ∧ ¬ ∃ t, t < 12 ∧ pr σ.1 t = true ∧ ordN (ht σ.1 s) (ht σ.1 t) = 1) 12))], (0, 0), h)
      refine ab_W.retI (mm _) (rt := some .int) (v := nI (cn (fun s => pr σ.1 s = true ∧ ¬ ∃ t, t < 12 ∧ pr σ.1 t = true ∧ ordN (ht σ.1 s) (ht σ.1 t) = 1) 12)) rfl rfl ?_
      exact hp h hR (fun _ _ => rfl)
    | n + 3, z => exact absurd z (by omega)
theorem sp_count (d : Nat) {h : ab_H} {σ : Sg} {y : Int32} (hR : relC h σ) {post : ab_P} (hp : okC h post (cntF σ y) σ) : mCC (d + 4) kSpanStamps_count [.ref 0, .int y] h post := by
  have r0 := hR.1
  have rc := hR.2.1
  rcases pk_ix y (n := 4) (by decide) with q | q | ⟨j, j1, rfl⟩
  · rw [show cntF σ y = _ from (((ci_f (nI_lt0 q (by decide))).trans (ci_f (nI_lt0 q (by decide)))).trans (ci_f (nI_lt0 q (by decide)))).trans (ci_f (nI_lt0 q (by decide)))] at hp
    refine ⟨rfl, ?_⟩
    show ab_W _ _ _ (0, [.ref 0, .int y], [], (0, 0), h)
    refine ab_W.go (mm _) 1 (c' := (1, [.ref 0, .int y], [.int y], (0, 0), h)) rfl ?_
    refine ab_W.swd (mm _) rfl (sw_lo q) ?_
    show ab_W _ _ _ (61, [.ref 0, .int y], [], (0, 0), h)
    refine ab_W.go (mm _) 1 (c' := (63, [.ref 0, .int y], [.int (-(nI 2))], (0, 0), h)) rfl ?_
    refine ab_W.retI (mm _) (rt := some .int) (v := -(nI 2)) rfl rfl ?_
    exact hp h hR (fun _ _ => rfl)
  · rw [show cntF σ y = _ from (((ci_f (nI_geN q (by decide) (by decide))).trans (ci_f (nI_geN q (by decide) (by decide)))).trans (ci_f (nI_geN q (by decide) (by decide)))).trans (ci_f (nI_geN q (by decide) (by decide)))] at hp
    refine ⟨rfl, ?_⟩
    show ab_W _ _ _ (0, [.ref 0, .int y], [], (0, 0), h)
    refine ab_W.go (mm _) 1 (c' := (1, [.ref 0, .int y], [.int y], (0, 0), h)) rfl ?_
    refine ab_W.swd (mm _) rfl (sw_hi q (by decide)) ?_
    show ab_W _ _ _ (61, [.ref 0, .int y], [], (0, 0), h)
    refine ab_W.go (mm _) 1 (c' := (63, [.ref 0, .int y], [.int (-(nI 2))], (0, 0), h)) rfl ?_
    refine ab_W.retI (mm _) (rt := some .int) (v := -(nI 2)) rfl rfl ?_
    exact hp h hR (fun _ _ => rfl)
  · match j, j1 with
    | 0, _ =>
      rw [show cntF σ (nI 0) = _ from ci_t rfl] at hp
      refine ⟨rfl, ?_⟩
      show ab_W _ _ _ (0, [.ref 0, .int (nI 0)], [], (0, 0), h)
      refine ab_W.go (mm _) 1 (c' := (1, [.ref 0, .int (nI 0)], [.int (nI 0)], (0, 0), h)) rfl ?_
      refine ab_W.go (mm _) 1 (c' := (32, [.ref 0, .int (nI 0)], [], (0, 0), h)) rfl ?_
      refine ab_W.go (mm _) 1 (c' := (33, [.ref 0, .int (nI 0)], [.ref 0], (0, 0), h)) rfl ?_
      refine ab_W.o (mm _) (r0) rfl (c' := (36, [.ref 0, .int (nI 0)], [.ref 1], (0, 0), h)) rfl ?_
      refine ab_W.callV (mm _) (rc.1) rfl (k := 4) (av := [.ref 1]) (c' := (39, [.ref 0, .int (nI 0)], [], (0, 0), h)) rfl ?_
      refine sp_howMany _ rc ?_
      show ab_W _ _ _ (39, [.ref 0, .int (nI 0)], [.int (nI (cb (pr σ.1) 12))], (0, 0), h)
      refine ab_W.retI (mm _) (rt := some .int) (v := nI (cb (pr σ.1) 12)) rfl rfl ?_
      exact hp h hR (fun _ _ => rfl)
    | 1, _ =>
      rw [show cntF σ (nI 1) = _ from (ci_f (by decide)).trans (ci_t rfl)] at hp
      refine ⟨rfl, ?_⟩
      show ab_W _ _ _ (0, [.ref 0, .int (nI 1)], [], (0, 0), h)
      refine ab_W.go (mm _) 1 (c' := (1, [.ref 0, .int (nI 1)], [.int (nI 1)], (0, 0), h)) rfl ?_
      refine ab_W.go (mm _) 1 (c' := (40, [.ref 0, .int (nI 1)], [], (0, 0), h)) rfl ?_
      refine ab_W.go (mm _) 1 (c' := (41, [.ref 0, .int (nI 1)], [.ref 0], (0, 0), h)) rfl ?_
      refine ab_W.o (mm _) (r0) rfl (c' := (44, [.ref 0, .int (nI 1)], [.ref 1], (0, 0), h)) rfl ?_
      refine ab_W.callV (mm _) (rc.1) rfl (k := 3) (av := [.ref 1]) (c' := (47, [.ref 0, .int (nI 1)], [], (0, 0), h)) rfl ?_
      refine sp_numbers _ rc ?_
      show ab_W _ _ _ (47, [.ref 0, .int (nI 1)], [.int (nI (mkN (pr σ.1) 12))], (0, 0), h)
      refine ab_W.retI (mm _) (rt := some .int) (v := nI (mkN (pr σ.1) 12)) rfl rfl ?_
      exact hp h hR (fun _ _ => rfl)
    | 2, _ =>
      rw [show cntF σ (nI 2) = _ from (ci_f (by decide)).trans ((ci_f (by decide)).trans (ci_t rfl))] at hp
      refine ⟨rfl, ?_⟩
      show ab_W _ _ _ (0, [.ref 0, .int (nI 2)], [], (0, 0), h)
      refine ab_W.go (mm _) 1 (c' := (1, [.ref 0, .int (nI 2)], [.int (nI 2)], (0, 0), h)) rfl ?_
      refine ab_W.go (mm _) 1 (c' := (48, [.ref 0, .int (nI 2)], [], (0, 0), h)) rfl ?_
      refine ab_W.go (mm _) 1 (c' := (49, [.ref 0, .int (nI 2)], [.ref 0], (0, 0), h)) rfl ?_
      refine ab_W.o (mm _) (r0) rfl (c' := (52, [.ref 0, .int (nI 2)], [.ref 1], (0, 0), h)) rfl ?_
      refine ab_W.o (mm _) (rc.1) rfl (c' := (55, [.ref 0, .int (nI 2)], [.int (nI (hn σ.1))], (0, 0), h)) rfl ?_
      refine ab_W.retI (mm _) (rt := some .int) (v := nI (hn σ.1)) rfl rfl ?_
      exact hp h hR (fun _ _ => rfl)
    | 3, _ =>
      rw [show cntF σ (nI 3) = _ from (ci_f (by decide)).trans ((ci_f (by decide)).trans ((ci_f (by decide)).trans (ci_t rfl)))] at hp
      refine ⟨rfl, ?_⟩
      show ab_W _ _ _ (0, [.ref 0, .int (nI 3)], [], (0, 0), h)
      refine ab_W.go (mm _) 1 (c' := (1, [.ref 0, .int (nI 3)], [.int (nI 3)], (0, 0), h)) rfl ?_
      refine ab_W.go (mm _) 1 (c' := (56, [.ref 0, .int (nI 3)], [], (0, 0), h)) rfl ?_
      refine ab_W.go (mm _) 1 (c' := (57, [.ref 0, .int (nI 3)], [.ref 0], (0, 0), h)) rfl ?_
      refine ab_W.o (mm _) (r0) rfl (c' := (60, [.ref 0, .int (nI 3)], [.int (nI (kpN σ.2.2))], (0, 0), h)) rfl ?_
      refine ab_W.retI (mm _) (rt := some .int) (v := nI (kpN σ.2.2)) rfl rfl ?_
      exact hp h hR (fun _ _ => rfl)
    | n + 4, z => exact absurd z (by omega)
end
section
/-! HAPPEN, IMAGE, RESTORE -/
theorem sp_happen (d : Nat) {h : ab_H} {σ : Sg} {x : Int32} (hR : relC h σ) (hn60 : hn σ.1 ≤ 60) {post : ab_P} (hp : okC h post ((happenO σ.1 (stN σ.1 x)).1) ((happenO σ.1 (stN σ.1 x)).2, σ.2)) : mCC (d + 13) kSpanStamps_happen [.ref 0, .int x] h post := by
  have r0 := hR.1
  have rc := hR.2.1
  rcases stamp_or σ.1 x with hx | ⟨s, hs, rfl, hx⟩
  · rw [stN_no hx] at hp
    refine ⟨rfl, ?_⟩
    show ab_W _ _ _ (0, [.ref 0, .int x, .retAddr 0, .retAddr 0], [], (0, 0), h)
    refine ab_W.go (mm _) 1 (c' := (1, [.ref 0, .int x, .retAddr 0, .retAddr 0], [.ref 0], (0, 0), h)) rfl ?_
    refine ab_W.o (mm _) (r0) rfl (c' := (4, [.ref 0, .int x, .retAddr 0, .retAddr 0], [.ref 1], (0, 0), h)) rfl ?_
    refine ab_W.go (mm _) 1 (c' := (5, [.ref 0, .int x, .retAddr 0, .retAddr 0], [.int x, .ref 1], (0, 0), h)) rfl ?_
    refine ab_W.callV (mm _) (rc.1) rfl (k := 1) (av := [.ref 1, .int x]) (c' := (8, [.ref 0, .int x, .retAddr 0, .retAddr 0], [], (0, 0), h)) rfl ?_
    refine sp_findN _ rc hx ?_
    show ab_W _ _ _ (8, [.ref 0, .int x, .retAddr 0, .retAddr 0], [.null], (0, 0), h)
    refine ab_W.go (mm _) 2 (c' := (10, [.ref 0, .int x, .null, .retAddr 0], [.null], (0, 0), h)) rfl ?_
    refine ab_W.go (mm _) 1 (c' := (13, [.ref 0, .int x, .null, .retAddr 0], [], (0, 0), h)) rfl ?_
    refine ab_W.go (mm _) 1 (c' := (14, [.ref 0, .int x, .null, .retAddr 0], [.int (-(nI 1))], (0, 0), h)) rfl ?_
    refine ab_W.retI (mm _) (rt := some .int) (v := -(nI 1)) rfl rfl ?_
    exact hp h hR (fun _ _ => rfl)
  · rw [stN_yes hs hx] at hp
    have e := (rc.2.2 s hs).1
    refine ⟨rfl, ?_⟩
    show ab_W _ _ _ (0, [.ref 0, .int (nI s), .retAddr 0, .retAddr 0], [], (0, 0), h)
    refine ab_W.go (mm _) 1 (c' := (1, [.ref 0, .int (nI s), .retAddr 0, .retAddr 0], [.ref 0], (0, 0), h)) rfl ?_
    refine ab_W.o (mm _) (r0) rfl (c' := (4, [.ref 0, .int (nI s), .retAddr 0, .retAddr 0], [.ref 1], (0, 0), h)) rfl ?_
    refine ab_W.go (mm _) 1 (c' := (5, [.ref 0, .int (nI s), .retAddr 0, .retAddr 0], [.int (nI s), .ref 1], (0, 0), h)) rfl ?_
    refine ab_W.callV (mm _) (rc.1) rfl (k := 1) (av := [.ref 1, .int (nI s)]) (c' := (8, [.ref 0, .int (nI s), .retAddr 0, .retAddr 0], [], (0, 0), h)) rfl ?_
    refine sp_find _ rc hs hx ?_
    show ab_W _ _ _ (8, [.ref 0, .int (nI s), .retAddr 0, .retAddr 0], [.ref (1 + 2 + 2 * s)], (0, 0), h)
    refine ab_W.go (mm _) 2 (c' := (10, [.ref 0, .int (nI s), .ref (1 + 2 + 2 * s), .retAddr 0], [.ref (1 + 2 + 2 * s)], (0, 0), h)) rfl ?_
    refine ab_W.go (mm _) 1 (c' := (15, [.ref 0, .int (nI s), .ref (1 + 2 + 2 * s), .retAddr 0], [], (0, 0), h)) rfl ?_
    refine ab_W.go (mm _) 1 (c' := (16, [.ref 0, .int (nI s), .ref (1 + 2 + 2 * s), .retAddr 0], [.ref (1 + 2 + 2 * s)], (0, 0), h)) rfl ?_
    obtain ⟨-, -, -, ⟨x1, x2, x3, x4, x5, r4⟩, ⟨gF, r5⟩, -⟩ := id hR
    obtain ⟨-, g, f2, f3⟩ := rc.2.2 s hs
    refine ab_W.o (mm _) (e) rfl (c' := (19, [.ref 0, .int (nI s), .ref (1 + 2 + 2 * s), .retAddr 0], [.long (nm σ.1 s)], (0, 0), h)) rfl ?_
    refine ab_W.go (mm _) 2 (c' := (21, [.ref 0, .int (nI s), .ref (1 + 2 + 2 * s), .retAddr 0], [.int (lg_cmp (nm σ.1 s) (lN 0))], (0, 0), h)) rfl ?_
    refine ab_W.ite (mm _) (p := (lg_cmp (nm σ.1 s) (lN 0)) = 0) (c1 := (24, [.ref 0, .int (nI s), .ref (1 + 2 + 2 * s), .retAddr 0], [], (0, 0), h)) (c2 := (27, [.ref 0, .int (nI s), .ref (1 + 2 + 2 * s), .retAddr 0], [], (0, 0), h)) rfl (fun q => ?_) (fun q => ?_)
    · skip
      rw [show happenO σ.1 (some s) = _ from ci_t ((lg_cmp0 _ _).mp q)] at hp
      refine ab_W.go (mm _) 1 (c' := (26, [.ref 0, .int (nI s), .ref (1 + 2 + 2 * s), .retAddr 0], [.int (-(nI 3))], (0, 0), h)) rfl ?_
      refine ab_W.retI (mm _) (rt := some .int) (v := -(nI 3)) rfl rfl ?_
      exact hp h hR (fun _ _ => rfl)
    · skip
      have q : ¬ nm σ.1 s = lN 0 := fun z => q ((lg_cmp0 _ _).mpr z)
      refine ab_W.go (mm _) 1 (c' := (28, [.ref 0, .int (nI s), .ref (1 + 2 + 2 * s), .retAddr 0], [.ref 0], (0, 0), h)) rfl ?_
      refine ab_W.o (mm _) (r0) rfl (c' := (31, [.ref 0, .int (nI s), .ref (1 + 2 + 2 * s), .retAddr 0], [.ref 1], (0, 0), h)) rfl ?_
      refine ab_W.o (mm _) (rc.1) rfl (c' := (34, [.ref 0, .int (nI s), .ref (1 + 2 + 2 * s), .retAddr 0], [.int (nI (hn σ.1))], (0, 0), h)) rfl ?_
      refine ab_W.go (mm _) 1 (c' := (36, [.ref 0, .int (nI s), .ref (1 + 2 + 2 * s), .retAddr 0], [.int (nI 60), .int (nI (hn σ.1))], (0, 0), h)) rfl ?_
      refine ab_W.ite (mm _) (p := (nI (hn σ.1)) < (nI 60)) (c1 := (42, [.ref 0, .int (nI s), .ref (1 + 2 + 2 * s), .retAddr 0], [], (0, 0), h)) (c2 := (39, [.ref 0, .int (nI s), .ref (1 + 2 + 2 * s), .retAddr 0], [], (0, 0), h)) rfl (fun q1 => ?_) (fun q1 => ?_)
      · skip
        have q1 : ¬ 60 ≤ hn σ.1 := fun z => Int32.not_le.mpr q1 ((nI_leI (by omega) (by omega)).mpr z)
        rw [show happenO σ.1 (some s) = _ from (ci_f q).trans (ci_f q1)] at hp
        refine ab_W.go (mm _) 1 (c' := (43, [.ref 0, .int (nI s), .ref (1 + 2 + 2 * s), .retAddr 0], [.ref 0], (0, 0), h)) rfl ?_
        refine ab_W.o (mm _) (r0) rfl (c' := (46, [.ref 0, .int (nI s), .ref (1 + 2 + 2 * s), .retAddr 0], [.ref 28], (0, 0), h)) rfl ?_
        refine ab_W.go (mm _) 1 (c' := (47, [.ref 0, .int (nI s), .ref (1 + 2 + 2 * s), .retAddr 0], [.ref (1 + 2 + 2 * s), .ref 28], (0, 0), h)) rfl ?_
        refine ab_W.callV (mm _) (r4) rfl (k := 13) (av := [.ref 28, .ref (1 + 2 + 2 * s)]) (c' := (50, [.ref 0, .int (nI s), .ref (1 + 2 + 2 * s), .retAddr 0], [], (0, 0), h)) rfl ?_
        refine sp_lookAt _ e f2 r4 r5 (by decide) (by omega) (by omega) (by omega) (by omega) (isP_ex q) (fun y1 y2 y3 y4 y5 G lk => ?_)
        obtain ⟨w1, w2, w3, w4, w5, w6⟩ := (lk.congr f3).ok
        have hR1 : relC (hX h 28 29 y1 y2 y3 y4 y5 G) σ := hR.fore
        have hk1 : ∀ i, 84 ≤ i → (hX h 28 29 y1 y2 y3 y4 y5 G)[i]? = h[i]? := fun i hi => hX_ne (by omega) (by omega)
        have m4 : (hX h 28 29 y1 y2 y3 y4 y5 G)[28]? = _ := hX_o (hA_lt r4) (by decide)
        have m5 : (hX h 28 29 y1 y2 y3 y4 y5 G)[29]? = _ := hX_oh (hA_lt r5)
        obtain ⟨h1, e1⟩ : ∃ h1, h1 = hX h 28 29 y1 y2 y3 y4 y5 G := ⟨_, rfl⟩
        rw [← e1] at hR1 hk1 m4 m5
        show ab_W _ _ _ (50, [.ref 0, .int (nI s), .ref (1 + 2 + 2 * s), .retAddr 0], [], (0, 0), hX h 28 29 y1 y2 y3 y4 y5 G)
        refine ab_W.hp (e1.symm) ?_
        show ab_W _ _ _ (50, [.ref 0, .int (nI s), .ref (1 + 2 + 2 * s), .retAddr 0], [], (0, 0), h1)
        have s0 := hR1.1
        have sc := hR1.2.1
        have cs := sc.2.2 s hs
        rw [hx] at cs
        obtain ⟨c1, gg, c2, -⟩ := cs
        refine ab_W.go (mm _) 1 (c' := (51, [.ref 0, .int (nI s), .ref (1 + 2 + 2 * s), .retAddr 0], [.ref 0], (0, 0), h1)) rfl ?_
        refine ab_W.o (mm _) (s0) rfl (c' := (54, [.ref 0, .int (nI s), .ref (1 + 2 + 2 * s), .retAddr 0], [.ref 28], (0, 0), h1)) rfl ?_
        refine ab_W.o (mm _) (m4) rfl (c' := (57, [.ref 0, .int (nI s), .ref (1 + 2 + 2 * s), .retAddr 0], [.ref 29], (0, 0), h1)) rfl ?_
        refine ab_W.go (mm _) 2 (c' := (59, [.ref 0, .int (nI s), .ref (1 + 2 + 2 * s), .retAddr 0], [.ref (1 + 2 + 2 * s), .int (nI 0), .ref 29], (0, 0), h1)) rfl ?_
        refine ab_W.o (mm _) (c1) rfl (c' := (62, [.ref 0, .int (nI s), .ref (1 + 2 + 2 * s), .retAddr 0], [.ref (1 + 2 + 2 * s + 1), .int (nI 0), .ref 29], (0, 0), h1)) rfl ?_
        refine ab_W.go (mm _) 2 (c' := (65, [.ref 0, .int (nI s), .ref (1 + 2 + 2 * s), .retAddr 0], [.int (nI 64), .int (nI 0), .ref (1 + 2 + 2 * s + 1), .int (nI 0), .ref 29], (0, 0), h1)) rfl ?_
        refine ab_W.copy64 (mm _) m5 c2 rfl rfl ?_
        obtain ⟨h2, e2⟩ : ∃ h2, h2 = hA h1 (1 + 2 + 2 * s + 1) (va_cpy G gg 0 0 64) := ⟨_, rfl⟩
        have k2 : ∀ i, i ≠ 1 + 2 + 2 * s + 1 → h2[i]? = h1[i]? := fun i hi => by rw [e2]; exact hA_ne (fun z => hi z.symm)
        have c2 : h2[1 + 2 + 2 * s + 1]? = some (.inl (0, 64, .inl (va_cpy G gg 0 0 64))) := by rw [e2]; exact hA_at (hA_lt c2)
        have c1 := (k2 _ (by omega)).trans c1
        show ab_W _ _ _ (68, [.ref 0, .int (nI s), .ref (1 + 2 + 2 * s), .retAddr 0], [], (0, 0), hA h1 (1 + 2 + 2 * s + 1) (va_cpy G gg 0 0 64))
        refine ab_W.hp (e2.symm) ?_
        show ab_W _ _ _ (68, [.ref 0, .int (nI s), .ref (1 + 2 + 2 * s), .retAddr 0], [], (0, 0), h2)
        refine ab_W.go (mm _) 1 (c' := (69, [.ref 0, .int (nI s), .ref (1 + 2 + 2 * s), .retAddr 0], [.ref 0], (0, 0), h2)) rfl ?_
        refine ab_W.o (mm _) ((k2 0 (by omega)).trans s0) rfl (c' := (72, [.ref 0, .int (nI s), .ref (1 + 2 + 2 * s), .retAddr 0], [.ref 1], (0, 0), h2)) rfl ?_
        refine ab_W.o (mm _) ((k2 1 (by omega)).trans sc.1) rfl (c' := (75, [.ref 0, .int (nI s), .ref (1 + 2 + 2 * s), .retAddr 0], [.int (nI (hn σ.1))], (0, 0), h2)) rfl ?_
        refine ab_W.go (mm _) 3 (c' := (78, [.ref 0, .int (nI s), .ref (1 + 2 + 2 * s), .int (nI (hn σ.1))], [.ref (1 + 2 + 2 * s), .ref (1 + 2 + 2 * s)], (0, 0), h2)) rfl ?_
        refine ab_W.o (mm _) (c1) rfl (c' := (81, [.ref 0, .int (nI s), .ref (1 + 2 + 2 * s), .int (nI (hn σ.1))], [.long (kn σ.1 s), .ref (1 + 2 + 2 * s)], (0, 0), h2)) rfl ?_
        refine ab_W.go (mm _) 4 (c' := (85, [.ref 0, .int (nI s), .ref (1 + 2 + 2 * s), .int (nI (hn σ.1))], [.long ((kn σ.1 s) ||| ((lN 1) <<< ((nI (hn σ.1)).toInt64 &&& 63))), .ref (1 + 2 + 2 * s)], (0, 0), h2)) rfl ?_
        refine ab_W.o (mm _) (c1) rfl (c' := (88, [.ref 0, .int (nI s), .ref (1 + 2 + 2 * s), .int (nI (hn σ.1))], [], (0, 0), h2.set (1 + 2 + 2 * s) (.inr (3, [.int (b2i true), .long (nm σ.1 s), .long (kn σ.1 s ||| (lN 1 <<< ((nI (hn σ.1)).toInt64 &&& 63))), .ref (1 + 2 + 2 * s + 1)])))) rfl ?_
        obtain ⟨h3, e3⟩ : ∃ h3, h3 = h2.set (1 + 2 + 2 * s) (.inr (3, [.int (b2i true), .long (nm σ.1 s), .long (kn σ.1 s ||| (lN 1 <<< ((nI (hn σ.1)).toInt64 &&& 63))), .ref (1 + 2 + 2 * s + 1)])) := ⟨_, rfl⟩
        have k3 : ∀ i, i ≠ 1 + 2 + 2 * s → h3[i]? = h2[i]? := fun i hi => by rw [e3]; exact set_ne (fun z => hi z.symm)
        have c1 : h3[1 + 2 + 2 * s]? = some (.inr (3, [.int (b2i true), .long (nm σ.1 s), .long (kn σ.1 s ||| (lN 1 <<< ((nI (hn σ.1)).toInt64 &&& 63))), .ref (1 + 2 + 2 * s + 1)])) := by rw [e3]; exact set_at c1
        have c2 := (k3 _ (by omega)).trans c2
        refine ab_W.hp (e3.symm) ?_
        show ab_W _ _ _ (88, [.ref 0, .int (nI s), .ref (1 + 2 + 2 * s), .int (nI (hn σ.1))], [], (0, 0), h3)
        have kA : ∀ i, i < 3 + 2 * s ∨ 5 + 2 * s ≤ i → h3[i]? = h1[i]? := fun i hi => (k3 i (by omega)).trans (k2 i (by omega))
        refine ab_W.go (mm _) 1 (c' := (89, [.ref 0, .int (nI s), .ref (1 + 2 + 2 * s), .int (nI (hn σ.1))], [.ref 0], (0, 0), h3)) rfl ?_
        refine ab_W.o (mm _) ((kA 0 (by omega)).trans s0) rfl (c' := (92, [.ref 0, .int (nI s), .ref (1 + 2 + 2 * s), .int (nI (hn σ.1))], [.ref 1], (0, 0), h3)) rfl ?_
        refine ab_W.go (mm _) 3 (c' := (95, [.ref 0, .int (nI s), .ref (1 + 2 + 2 * s), .int (nI (hn σ.1))], [.int ((nI (hn σ.1)) + (nI 1)), .ref 1], (0, 0), h3)) rfl ?_
        refine ab_W.topi (nI_add (hn σ.1) 1) ?_
        have z1 := (kA 1 (by omega)).trans sc.1
        refine ab_W.o (mm _) (z1) rfl (c' := (98, [.ref 0, .int (nI s), .ref (1 + 2 + 2 * s), .int (nI (hn σ.1))], [], (0, 0), h3.set 1 (.inr (0, [.ref 2, .int (nI (hn σ.1 + 1))])))) rfl ?_
        obtain ⟨h4, e4⟩ : ∃ h4, h4 = h3.set 1 (.inr (0, [.ref 2, .int (nI (hn σ.1 + 1))])) := ⟨_, rfl⟩
        have k4 : ∀ i, i ≠ 1 → h4[i]? = h3[i]? := fun i hi => by rw [e4]; exact set_ne (fun z => hi z.symm)
        refine ab_W.hp (e4.symm) ?_
        show ab_W _ _ _ (98, [.ref 0, .int (nI s), .ref (1 + 2 + 2 * s), .int (nI (hn σ.1))], [], (0, 0), h4)
        refine ab_W.go (mm _) 1 (c' := (99, [.ref 0, .int (nI s), .ref (1 + 2 + 2 * s), .int (nI (hn σ.1))], [.int (nI (hn σ.1))], (0, 0), h4)) rfl ?_
        refine ab_W.retI (mm _) (rt := some .int) (v := nI (hn σ.1)) rfl rfl ?_
        have p1 : st_P h4 (1 + 2 + 2 * s) true (nm σ.1 s) (kn σ.1 s ||| (lN 1 <<< ((nI (hn σ.1)).toInt64 &&& 63))) (hpF (nm σ.1 s) (ht σ.1 s)) := ⟨(k4 _ (by omega)).trans c1, _, (k4 _ (by omega)).trans c2, fun c hc => (cpy64 hc).trans (w6 c hc)⟩
        have c4 : cir h4 1 (setH (setS σ.1 s true (nm σ.1 s) (kn σ.1 s ||| (lN 1 <<< ((nI (hn σ.1)).toInt64 &&& 63))) (hpF (nm σ.1 s) (ht σ.1 s))) (hn σ.1 + 1)) := by
          obtain ⟨u1, ⟨uq, u2, u3⟩, u4⟩ := sc
          refine ⟨by rw [e4]; exact set_at z1, ⟨uq, (k4 _ (by omega)).trans ((kA _ (by omega)).trans u2), u3⟩, fun v hv => ?_⟩
          by_cases ev : v = s
          · subst ev
            show st_P h4 _ (va_up _ v _ v) (va_up _ v _ v) (va_up _ v _ v) (va_up _ v _ v)
            rw [va_up_self, va_up_self, va_up_self, va_up_self]
            exact p1
          · show st_P h4 _ (va_up _ s _ v) (va_up _ s _ v) (va_up _ s _ v) (va_up _ s _ v)
            rw [va_up_ne _ _ ev, va_up_ne _ _ ev, va_up_ne _ _ ev, va_up_ne _ _ ev]
            exact (u4 v hv).kept ((k4 _ (by omega)).trans (kA _ (by omega))) ((k4 _ (by omega)).trans (kA _ (by omega)))
        exact hp _ (hR1.cur c4 (fun i hi => (k4 i (by omega)).trans (kA i (by omega)))) (fun i hi => (k4 i (by omega)).trans ((kA i (by omega)).trans (hk1 i hi)))
      · skip
        have q1 : 60 ≤ hn σ.1 := (nI_leI (by omega) (by omega)).mp (Int32.not_lt.mp q1)
        rw [show happenO σ.1 (some s) = _ from (ci_f q).trans (ci_t q1)] at hp
        refine ab_W.go (mm _) 1 (c' := (41, [.ref 0, .int (nI s), .ref (1 + 2 + 2 * s), .retAddr 0], [.int (-(nI 4))], (0, 0), h)) rfl ?_
        refine ab_W.retI (mm _) (rt := some .int) (v := -(nI 4)) rfl rfl ?_
        exact hp h hR (fun _ _ => rfl)
theorem kp_or0 (k : Nat → Bool) : (nI (kpN k)) ||| ((nI 1) <<< ((nI 0) &&& 31)) = nI (kpN (va_up k 0 true)) := by
  unfold kpN
  rw [va_up_self, va_up_ne _ _ (show (1 : Nat) ≠ 0 by decide)]
  cases k 0 <;> cases k 1 <;> decide
theorem kp_and0 (k : Nat → Bool) : (nI (kpN k)) &&& ((nI 1) <<< ((nI 0) &&& 31)) = 0 ↔ k 0 = false := by
  unfold kpN
  cases k 0 <;> cases k 1 <;> decide
theorem kp_or1 (k : Nat → Bool) : (nI (kpN k)) ||| ((nI 1) <<< ((nI 1) &&& 31)) = nI (kpN (va_up k 1 true)) := by
  unfold kpN
  rw [va_up_self, va_up_ne _ _ (show (0 : Nat) ≠ 1 by decide)]
  cases k 0 <;> cases k 1 <;> decide
theorem kp_and1 (k : Nat → Bool) : (nI (kpN k)) &&& ((nI 1) <<< ((nI 1) &&& 31)) = 0 ↔ k 1 = false := by
  unfold kpN
  cases k 0 <;> cases k 1 <;> decide
theorem sp_image (d : Nat) {h : ab_H} {σ : Sg} {y : Int32} (hR : relC h σ) {post : ab_P} (hp : okC h post (imgF σ y).1 (imgF σ y).2) : mCC (d + 4) kSpanStamps_image [.ref 0, .int y] h post := by
  have r0 := hR.1
  have rc := hR.2.1
  rcases pk_ix y (n := 2) (by decide) with q | q | ⟨j, j1, rfl⟩
  · rw [show imgF σ y = _ from ci_t (Or.inl q)] at hp
    refine ⟨rfl, ?_⟩
    show ab_W _ _ _ (0, [.ref 0, .int y], [], (0, 0), h)
    refine ab_W.go (mm _) 1 (c' := (1, [.ref 0, .int y], [.int y], (0, 0), h)) rfl ?_
    refine ab_W.itT (mm _) (p := y < 0) (c1 := (9, [.ref 0, .int y], [], (0, 0), h)) (c2 := (4, [.ref 0, .int y], [], (0, 0), h)) rfl (q) ?_
    refine ab_W.go (mm _) 1 (c' := (11, [.ref 0, .int y], [.int (-(nI 2))], (0, 0), h)) rfl ?_
    refine ab_W.retI (mm _) (rt := some .int) (v := -(nI 2)) rfl rfl ?_
    exact hp h hR (fun _ _ => rfl)
  · rw [show imgF σ y = _ from ci_t (Or.inr q)] at hp
    refine ⟨rfl, ?_⟩
    show ab_W _ _ _ (0, [.ref 0, .int y], [], (0, 0), h)
    refine ab_W.go (mm _) 1 (c' := (1, [.ref 0, .int y], [.int y], (0, 0), h)) rfl ?_
    refine ab_W.itF (mm _) (p := y < 0) (c1 := (9, [.ref 0, .int y], [], (0, 0), h)) (c2 := (4, [.ref 0, .int y], [], (0, 0), h)) rfl (nI_le0 q (by decide)) ?_
    refine ab_W.go (mm _) 2 (c' := (6, [.ref 0, .int y], [.int (nI 2), .int y], (0, 0), h)) rfl ?_
    refine ab_W.itF (mm _) (p := y < (nI 2)) (c1 := (12, [.ref 0, .int y], [], (0, 0), h)) (c2 := (9, [.ref 0, .int y], [], (0, 0), h)) rfl (fun z => Int32.not_le.mpr z q) ?_
    refine ab_W.go (mm _) 1 (c' := (11, [.ref 0, .int y], [.int (-(nI 2))], (0, 0), h)) rfl ?_
    refine ab_W.retI (mm _) (rt := some .int) (v := -(nI 2)) rfl rfl ?_
    exact hp h hR (fun _ _ => rfl)
  · match j, j1 with
    | 0, _ =>
      rw [show imgF σ (nI 0) = _ from ci_f (by decide), show (nI 0).toNatClampNeg = 0 by decide] at hp
      obtain ⟨-, -, ⟨q, r2, q0, q1⟩, ⟨x1, x2, x3, x4, x5, r4⟩, ⟨gF, r5⟩, ⟨z, r6⟩, ⟨g2, r7⟩, r8, r9⟩ := id hR
      refine ⟨rfl, ?_⟩
      show ab_W _ _ _ (0, [.ref 0, .int (nI 0)], [], (0, 0), h)
      refine ab_W.go (mm _) 1 (c' := (1, [.ref 0, .int (nI 0)], [.int (nI 0)], (0, 0), h)) rfl ?_
      refine ab_W.itF (mm _) (p := (nI 0) < 0) (c1 := (9, [.ref 0, .int (nI 0)], [], (0, 0), h)) (c2 := (4, [.ref 0, .int (nI 0)], [], (0, 0), h)) rfl ((by decide)) ?_
      refine ab_W.go (mm _) 2 (c' := (6, [.ref 0, .int (nI 0)], [.int (nI 2), .int (nI 0)], (0, 0), h)) rfl ?_
      refine ab_W.itT (mm _) (p := (nI 0) < (nI 2)) (c1 := (12, [.ref 0, .int (nI 0)], [], (0, 0), h)) (c2 := (9, [.ref 0, .int (nI 0)], [], (0, 0), h)) rfl ((by decide)) ?_
      refine ab_W.go (mm _) 1 (c' := (13, [.ref 0, .int (nI 0)], [.ref 0], (0, 0), h)) rfl ?_
      refine ab_W.o (mm _) (r0) rfl (c' := (16, [.ref 0, .int (nI 0)], [.ref 27], (0, 0), h)) rfl ?_
      refine ab_W.go (mm _) 1 (c' := (17, [.ref 0, .int (nI 0)], [.int (nI 0), .ref 27], (0, 0), h)) rfl ?_
      refine ab_W.aref (mm _) (j := 0) (r2) (q0) rfl (by omega) rfl rfl rfl ?_
      show ab_W _ _ _ (18, [.ref 0, .int (nI 0)], [.ref 32], (0, 0), h)
      refine ab_W.go (mm _) 1 (c' := (19, [.ref 0, .int (nI 0)], [.ref 0, .ref 32], (0, 0), h)) rfl ?_
      refine ab_W.o (mm _) (r0) rfl (c' := (22, [.ref 0, .int (nI 0)], [.ref 1, .ref 32], (0, 0), h)) rfl ?_
      refine ab_W.callV (mm _) (r8.1) rfl (k := 5) (av := [.ref 32, .ref 1]) (c' := (25, [.ref 0, .int (nI 0)], [], (0, 0), h)) rfl ?_
      refine sp_ccopy _ r8 rc (by omega) (fun h1 c1 k1 => ?_)
      show ab_W _ _ _ (25, [.ref 0, .int (nI 0)], [], (0, 0), h1)
      have s0 := (k1 0 (by omega)).trans r0
      refine ab_W.go (mm _) 2 (c' := (27, [.ref 0, .int (nI 0)], [.ref 0, .ref 0], (0, 0), h1)) rfl ?_
      refine ab_W.o (mm _) (s0) rfl (c' := (30, [.ref 0, .int (nI 0)], [.int (nI (kpN σ.2.2)), .ref 0], (0, 0), h1)) rfl ?_
      refine ab_W.go (mm _) 4 (c' := (34, [.ref 0, .int (nI 0)], [.int ((nI (kpN σ.2.2)) ||| ((nI 1) <<< ((nI 0) &&& 31))), .ref 0], (0, 0), h1)) rfl ?_
      refine ab_W.topi (kp_or0 σ.2.2) ?_
      refine ab_W.o (mm _) (s0) rfl (c' := (37, [.ref 0, .int (nI 0)], [], (0, 0), h1.set 0 (.inr (4, [.ref 1, .ref 27, .int (nI (kpN (va_up σ.2.2 0 true))), .ref 28, .ref 30])))) rfl ?_
      refine ab_W.go (mm _) 1 (c' := (38, [.ref 0, .int (nI 0)], [.int (nI 1)], (0, 0), h1.set 0 (.inr (4, [.ref 1, .ref 27, .int (nI (kpN (va_up σ.2.2 0 true))), .ref 28, .ref 30])))) rfl ?_
      refine ab_W.retI (mm _) (rt := some .int) (v := nI 1) rfl rfl ?_
      have k2 : ∀ i, i ≠ 0 → i < 32 ∨ 58 ≤ i → (h1.set 0 (.inr (4, [.ref 1, .ref 27, .int (nI (kpN (va_up σ.2.2 0 true))), .ref 28, .ref 30])))[i]? = h[i]? := fun i i0 i1 => (set_ne (fun z => i0 z.symm)).trans (k1 i i1)
      refine hp _ ⟨set_at s0, rc.kept (fun i _ _ => k2 i (by omega) (by omega)), ⟨q, (k2 _ (by omega) (by omega)).trans r2, q0, q1⟩, ⟨x1, x2, x3, x4, x5, (k2 _ (by omega) (by omega)).trans r4⟩, ⟨gF, (k2 _ (by omega) (by omega)).trans r5⟩, ⟨z, (k2 _ (by omega) (by omega)).trans r6⟩, ⟨g2, (k2 _ (by omega) (by omega)).trans r7⟩, ?_, ?_⟩ (fun i hi => k2 i (by omega) (by omega))
      · show cir _ 32 (va_up σ.2.1 0 σ.1 0)
        rw [va_up_self]
        exact c1.kept (fun i _ _ => set_ne (by omega))
      · show cir _ 58 (va_up σ.2.1 0 σ.1 1)
        rw [va_up_ne _ _ (by decide)]
        exact r9.kept (fun i _ _ => k2 i (by omega) (by omega))
    | 1, _ =>
      rw [show imgF σ (nI 1) = _ from ci_f (by decide), show (nI 1).toNatClampNeg = 1 by decide] at hp
      obtain ⟨-, -, ⟨q, r2, q0, q1⟩, ⟨x1, x2, x3, x4, x5, r4⟩, ⟨gF, r5⟩, ⟨z, r6⟩, ⟨g2, r7⟩, r8, r9⟩ := id hR
      refine ⟨rfl, ?_⟩
      show ab_W _ _ _ (0, [.ref 0, .int (nI 1)], [], (0, 0), h)
      refine ab_W.go (mm _) 1 (c' := (1, [.ref 0, .int (nI 1)], [.int (nI 1)], (0, 0), h)) rfl ?_
      refine ab_W.itF (mm _) (p := (nI 1) < 0) (c1 := (9, [.ref 0, .int (nI 1)], [], (0, 0), h)) (c2 := (4, [.ref 0, .int (nI 1)], [], (0, 0), h)) rfl ((by decide)) ?_
      refine ab_W.go (mm _) 2 (c' := (6, [.ref 0, .int (nI 1)], [.int (nI 2), .int (nI 1)], (0, 0), h)) rfl ?_
      refine ab_W.itT (mm _) (p := (nI 1) < (nI 2)) (c1 := (12, [.ref 0, .int (nI 1)], [], (0, 0), h)) (c2 := (9, [.ref 0, .int (nI 1)], [], (0, 0), h)) rfl ((by decide)) ?_
      refine ab_W.go (mm _) 1 (c' := (13, [.ref 0, .int (nI 1)], [.ref 0], (0, 0), h)) rfl ?_
      refine ab_W.o (mm _) (r0) rfl (c' := (16, [.ref 0, .int (nI 1)], [.ref 27], (0, 0), h)) rfl ?_
      refine ab_W.go (mm _) 1 (c' := (17, [.ref 0, .int (nI 1)], [.int (nI 1), .ref 27], (0, 0), h)) rfl ?_
      refine ab_W.aref (mm _) (j := 1) (r2) (q1) rfl (by omega) rfl rfl rfl ?_
      show ab_W _ _ _ (18, [.ref 0, .int (nI 1)], [.ref 58], (0, 0), h)
      refine ab_W.go (mm _) 1 (c' := (19, [.ref 0, .int (nI 1)], [.ref 0, .ref 58], (0, 0), h)) rfl ?_
      refine ab_W.o (mm _) (r0) rfl (c' := (22, [.ref 0, .int (nI 1)], [.ref 1, .ref 58], (0, 0), h)) rfl ?_
      refine ab_W.callV (mm _) (r9.1) rfl (k := 5) (av := [.ref 58, .ref 1]) (c' := (25, [.ref 0, .int (nI 1)], [], (0, 0), h)) rfl ?_
      refine sp_ccopy _ r9 rc (by omega) (fun h1 c1 k1 => ?_)
      show ab_W _ _ _ (25, [.ref 0, .int (nI 1)], [], (0, 0), h1)
      have s0 := (k1 0 (by omega)).trans r0
      refine ab_W.go (mm _) 2 (c' := (27, [.ref 0, .int (nI 1)], [.ref 0, .ref 0], (0, 0), h1)) rfl ?_
      refine ab_W.o (mm _) (s0) rfl (c' := (30, [.ref 0, .int (nI 1)], [.int (nI (kpN σ.2.2)), .ref 0], (0, 0), h1)) rfl ?_
      refine ab_W.go (mm _) 4 (c' := (34, [.ref 0, .int (nI 1)], [.int ((nI (kpN σ.2.2)) ||| ((nI 1) <<< ((nI 1) &&& 31))), .ref 0], (0, 0), h1)) rfl ?_
      refine ab_W.topi (kp_or1 σ.2.2) ?_
      refine ab_W.o (mm _) (s0) rfl (c' := (37, [.ref 0, .int (nI 1)], [], (0, 0), h1.set 0 (.inr (4, [.ref 1, .ref 27, .int (nI (kpN (va_up σ.2.2 1 true))), .ref 28, .ref 30])))) rfl ?_
      refine ab_W.go (mm _) 1 (c' := (38, [.ref 0, .int (nI 1)], [.int (nI 1)], (0, 0), h1.set 0 (.inr (4, [.ref 1, .ref 27, .int (nI (kpN (va_up σ.2.2 1 true))), .ref 28, .ref 30])))) rfl ?_
      refine ab_W.retI (mm _) (rt := some .int) (v := nI 1) rfl rfl ?_
      have k2 : ∀ i, i ≠ 0 → i < 58 ∨ 84 ≤ i → (h1.set 0 (.inr (4, [.ref 1, .ref 27, .int (nI (kpN (va_up σ.2.2 1 true))), .ref 28, .ref 30])))[i]? = h[i]? := fun i i0 i1 => (set_ne (fun z => i0 z.symm)).trans (k1 i i1)
      refine hp _ ⟨set_at s0, rc.kept (fun i _ _ => k2 i (by omega) (by omega)), ⟨q, (k2 _ (by omega) (by omega)).trans r2, q0, q1⟩, ⟨x1, x2, x3, x4, x5, (k2 _ (by omega) (by omega)).trans r4⟩, ⟨gF, (k2 _ (by omega) (by omega)).trans r5⟩, ⟨z, (k2 _ (by omega) (by omega)).trans r6⟩, ⟨g2, (k2 _ (by omega) (by omega)).trans r7⟩, ?_, ?_⟩ (fun i hi => k2 i (by omega) (by omega))
      · show cir _ 32 (va_up σ.2.1 1 σ.1 0)
        rw [va_up_ne _ _ (by decide)]
        exact r8.kept (fun i _ _ => k2 i (by omega) (by omega))
      · show cir _ 58 (va_up σ.2.1 1 σ.1 1)
        rw [va_up_self]
        exact c1.kept (fun i _ _ => set_ne (by omega))
    | n + 2, z => exact absurd z (by omega)
theorem sp_restore (d : Nat) {h : ab_H} {σ : Sg} {y : Int32} (hR : relC h σ) {post : ab_P} (hp : okC h post (resF σ y).1 (resF σ y).2) : mCC (d + 4) kSpanStamps_restore [.ref 0, .int y] h post := by
  have r0 := hR.1
  have rc := hR.2.1
  rcases pk_ix y (n := 2) (by decide) with q | q | ⟨j, j1, rfl⟩
  · rw [show resF σ y = _ from ci_t (Or.inl q)] at hp
    refine ⟨rfl, ?_⟩
    show ab_W _ _ _ (0, [.ref 0, .int y], [], (0, 0), h)
    refine ab_W.go (mm _) 1 (c' := (1, [.ref 0, .int y], [.int y], (0, 0), h)) rfl ?_
    refine ab_W.itT (mm _) (p := y < 0) (c1 := (9, [.ref 0, .int y], [], (0, 0), h)) (c2 := (4, [.ref 0, .int y], [], (0, 0), h)) rfl (q) ?_
    refine ab_W.go (mm _) 1 (c' := (11, [.ref 0, .int y], [.int (-(nI 2))], (0, 0), h)) rfl ?_
    refine ab_W.retI (mm _) (rt := some .int) (v := -(nI 2)) rfl rfl ?_
    exact hp h hR (fun _ _ => rfl)
  · rw [show resF σ y = _ from ci_t (Or.inr q)] at hp
    refine ⟨rfl, ?_⟩
    show ab_W _ _ _ (0, [.ref 0, .int y], [], (0, 0), h)
    refine ab_W.go (mm _) 1 (c' := (1, [.ref 0, .int y], [.int y], (0, 0), h)) rfl ?_
    refine ab_W.itF (mm _) (p := y < 0) (c1 := (9, [.ref 0, .int y], [], (0, 0), h)) (c2 := (4, [.ref 0, .int y], [], (0, 0), h)) rfl (nI_le0 q (by decide)) ?_
    refine ab_W.go (mm _) 2 (c' := (6, [.ref 0, .int y], [.int (nI 2), .int y], (0, 0), h)) rfl ?_
    refine ab_W.itF (mm _) (p := y < (nI 2)) (c1 := (12, [.ref 0, .int y], [], (0, 0), h)) (c2 := (9, [.ref 0, .int y], [], (0, 0), h)) rfl (fun z => Int32.not_le.mpr z q) ?_
    refine ab_W.go (mm _) 1 (c' := (11, [.ref 0, .int y], [.int (-(nI 2))], (0, 0), h)) rfl ?_
    refine ab_W.retI (mm _) (rt := some .int) (v := -(nI 2)) rfl rfl ?_
    exact hp h hR (fun _ _ => rfl)
  · match j, j1 with
    | 0, _ =>
      rw [show resF σ (nI 0) = _ from ci_f (by decide), show (nI 0).toNatClampNeg = 0 by decide] at hp
      obtain ⟨-, -, ⟨q, r2, q0, q1⟩, ⟨x1, x2, x3, x4, x5, r4⟩, ⟨gF, r5⟩, ⟨z, r6⟩, ⟨g2, r7⟩, r8, r9⟩ := id hR
      refine ⟨rfl, ?_⟩
      show ab_W _ _ _ (0, [.ref 0, .int (nI 0)], [], (0, 0), h)
      refine ab_W.go (mm _) 1 (c' := (1, [.ref 0, .int (nI 0)], [.int (nI 0)], (0, 0), h)) rfl ?_
      refine ab_W.itF (mm _) (p := (nI 0) < 0) (c1 := (9, [.ref 0, .int (nI 0)], [], (0, 0), h)) (c2 := (4, [.ref 0, .int (nI 0)], [], (0, 0), h)) rfl ((by decide)) ?_
      refine ab_W.go (mm _) 2 (c' := (6, [.ref 0, .int (nI 0)], [.int (nI 2), .int (nI 0)], (0, 0), h)) rfl ?_
      refine ab_W.itT (mm _) (p := (nI 0) < (nI 2)) (c1 := (12, [.ref 0, .int (nI 0)], [], (0, 0), h)) (c2 := (9, [.ref 0, .int (nI 0)], [], (0, 0), h)) rfl ((by decide)) ?_
      refine ab_W.go (mm _) 1 (c' := (13, [.ref 0, .int (nI 0)], [.ref 0], (0, 0), h)) rfl ?_
      refine ab_W.o (mm _) (r0) rfl (c' := (16, [.ref 0, .int (nI 0)], [.int (nI (kpN σ.2.2))], (0, 0), h)) rfl ?_
      refine ab_W.go (mm _) 4 (c' := (20, [.ref 0, .int (nI 0)], [.int ((nI (kpN σ.2.2)) &&& ((nI 1) <<< ((nI 0) &&& 31)))], (0, 0), h)) rfl ?_
      refine ab_W.ite (mm _) (p := ((nI (kpN σ.2.2)) &&& ((nI 1) <<< ((nI 0) &&& 31))) = 0) (c1 := (23, [.ref 0, .int (nI 0)], [], (0, 0), h)) (c2 := (26, [.ref 0, .int (nI 0)], [], (0, 0), h)) rfl (fun qk => ?_) (fun qk => ?_)
      · skip
        have qk := (kp_and0 σ.2.2).mp qk
        rw [ci_f (fun z => by rw [qk] at z; cases z)] at hp
        refine ab_W.go (mm _) 1 (c' := (25, [.ref 0, .int (nI 0)], [.int (-(nI 3))], (0, 0), h)) rfl ?_
        refine ab_W.retI (mm _) (rt := some .int) (v := -(nI 3)) rfl rfl ?_
        exact hp h hR (fun _ _ => rfl)
      · skip
        have qk : σ.2.2 0 = true := by
          cases hb : σ.2.2 0 with
          | true => rfl
          | false => exact absurd ((kp_and0 σ.2.2).mpr hb) qk
        rw [ci_t qk] at hp
        refine ab_W.go (mm _) 1 (c' := (27, [.ref 0, .int (nI 0)], [.ref 0], (0, 0), h)) rfl ?_
        refine ab_W.o (mm _) (r0) rfl (c' := (30, [.ref 0, .int (nI 0)], [.ref 1], (0, 0), h)) rfl ?_
        refine ab_W.go (mm _) 1 (c' := (31, [.ref 0, .int (nI 0)], [.ref 0, .ref 1], (0, 0), h)) rfl ?_
        refine ab_W.o (mm _) (r0) rfl (c' := (34, [.ref 0, .int (nI 0)], [.ref 27, .ref 1], (0, 0), h)) rfl ?_
        refine ab_W.go (mm _) 1 (c' := (35, [.ref 0, .int (nI 0)], [.int (nI 0), .ref 27, .ref 1], (0, 0), h)) rfl ?_
        refine ab_W.aref (mm _) (j := 0) (r2) (q0) rfl (by omega) rfl rfl rfl ?_
        show ab_W _ _ _ (36, [.ref 0, .int (nI 0)], [.ref 32, .ref 1], (0, 0), h)
        refine ab_W.callV (mm _) (rc.1) rfl (k := 5) (av := [.ref 1, .ref 32]) (c' := (39, [.ref 0, .int (nI 0)], [], (0, 0), h)) rfl ?_
        refine sp_ccopy _ rc r8 (by omega) (fun h1 c1 k1 => ?_)
        show ab_W _ _ _ (39, [.ref 0, .int (nI 0)], [], (0, 0), h1)
        refine ab_W.go (mm _) 1 (c' := (40, [.ref 0, .int (nI 0)], [.int (nI 1)], (0, 0), h1)) rfl ?_
        refine ab_W.retI (mm _) (rt := some .int) (v := nI 1) rfl rfl ?_
        exact hp _ (hR.cur c1 (fun i hi => k1 i (by omega))) (fun i hi => k1 i (by omega))
    | 1, _ =>
      rw [show resF σ (nI 1) = _ from ci_f (by decide), show (nI 1).toNatClampNeg = 1 by decide] at hp
      obtain ⟨-, -, ⟨q, r2, q0, q1⟩, ⟨x1, x2, x3, x4, x5, r4⟩, ⟨gF, r5⟩, ⟨z, r6⟩, ⟨g2, r7⟩, r8, r9⟩ := id hR
      refine ⟨rfl, ?_⟩
      show ab_W _ _ _ (0, [.ref 0, .int (nI 1)], [], (0, 0), h)
      refine ab_W.go (mm _) 1 (c' := (1, [.ref 0, .int (nI 1)], [.int (nI 1)], (0, 0), h)) rfl ?_
      refine ab_W.itF (mm _) (p := (nI 1) < 0) (c1 := (9, [.ref 0, .int (nI 1)], [], (0, 0), h)) (c2 := (4, [.ref 0, .int (nI 1)], [], (0, 0), h)) rfl ((by decide)) ?_
      refine ab_W.go (mm _) 2 (c' := (6, [.ref 0, .int (nI 1)], [.int (nI 2), .int (nI 1)], (0, 0), h)) rfl ?_
      refine ab_W.itT (mm _) (p := (nI 1) < (nI 2)) (c1 := (12, [.ref 0, .int (nI 1)], [], (0, 0), h)) (c2 := (9, [.ref 0, .int (nI 1)], [], (0, 0), h)) rfl ((by decide)) ?_
      refine ab_W.go (mm _) 1 (c' := (13, [.ref 0, .int (nI 1)], [.ref 0], (0, 0), h)) rfl ?_
      refine ab_W.o (mm _) (r0) rfl (c' := (16, [.ref 0, .int (nI 1)], [.int (nI (kpN σ.2.2))], (0, 0), h)) rfl ?_
      refine ab_W.go (mm _) 4 (c' := (20, [.ref 0, .int (nI 1)], [.int ((nI (kpN σ.2.2)) &&& ((nI 1) <<< ((nI 1) &&& 31)))], (0, 0), h)) rfl ?_
      refine ab_W.ite (mm _) (p := ((nI (kpN σ.2.2)) &&& ((nI 1) <<< ((nI 1) &&& 31))) = 0) (c1 := (23, [.ref 0, .int (nI 1)], [], (0, 0), h)) (c2 := (26, [.ref 0, .int (nI 1)], [], (0, 0), h)) rfl (fun qk => ?_) (fun qk => ?_)
      · skip
        have qk := (kp_and1 σ.2.2).mp qk
        rw [ci_f (fun z => by rw [qk] at z; cases z)] at hp
        refine ab_W.go (mm _) 1 (c' := (25, [.ref 0, .int (nI 1)], [.int (-(nI 3))], (0, 0), h)) rfl ?_
        refine ab_W.retI (mm _) (rt := some .int) (v := -(nI 3)) rfl rfl ?_
        exact hp h hR (fun _ _ => rfl)
      · skip
        have qk : σ.2.2 1 = true := by
          cases hb : σ.2.2 1 with
          | true => rfl
          | false => exact absurd ((kp_and1 σ.2.2).mpr hb) qk
        rw [ci_t qk] at hp
        refine ab_W.go (mm _) 1 (c' := (27, [.ref 0, .int (nI 1)], [.ref 0], (0, 0), h)) rfl ?_
        refine ab_W.o (mm _) (r0) rfl (c' := (30, [.ref 0, .int (nI 1)], [.ref 1], (0, 0), h)) rfl ?_
        refine ab_W.go (mm _) 1 (c' := (31, [.ref 0, .int (nI 1)], [.ref 0, .ref 1], (0, 0), h)) rfl ?_
        refine ab_W.o (mm _) (r0) rfl (c' := (34, [.ref 0, .int (nI 1)], [.ref 27, .ref 1], (0, 0), h)) rfl ?_
        refine ab_W.go (mm _) 1 (c' := (35, [.ref 0, .int (nI 1)], [.int (nI 1), .ref 27, .ref 1], (0, 0), h)) rfl ?_
        refine ab_W.aref (mm _) (j := 1) (r2) (q1) rfl (by omega) rfl rfl rfl ?_
        show ab_W _ _ _ (36, [.ref 0, .int (nI 1)], [.ref 58, .ref 1], (0, 0), h)
        refine ab_W.callV (mm _) (rc.1) rfl (k := 5) (av := [.ref 1, .ref 58]) (c' := (39, [.ref 0, .int (nI 1)], [], (0, 0), h)) rfl ?_
        refine sp_ccopy _ rc r9 (by omega) (fun h1 c1 k1 => ?_)
        show ab_W _ _ _ (39, [.ref 0, .int (nI 1)], [], (0, 0), h1)
        refine ab_W.go (mm _) 1 (c' := (40, [.ref 0, .int (nI 1)], [.int (nI 1)], (0, 0), h1)) rfl ?_
        refine ab_W.retI (mm _) (rt := some .int) (v := nI 1) rfl rfl ?_
        exact hp _ (hR.cur c1 (fun i hi => k1 i (by omega))) (fun i hi => k1 i (by omega))
    | n + 2, z => exact absurd z (by omega)
end
section
/-! THE REFERENCE: its cells 84 to 99, and its small methods -/
def mObj (hp sz op : Int32) : va_E := .inr (5, [.ref 85, .ref 86, .ref 87, .ref 88, .int hp, .ref 89, .ref 90, .ref 91, .ref 92, .ref 93, .int sz, .int op, .ref 94, .ref 95, .ref 96, .ref 97, .ref 98, .ref 99])
def arrB (h : ab_H) (a n : Nat) (p : Nat → Bool) : Prop := ∃ g, h[a]? = some (.inl (2, n, .inl g)) ∧ ∀ s, s < n → g s = b2i (p s)
def arrL (h : ab_H) (a n : Nat) (N : Nat → Int64) : Prop := ∃ g, h[a]? = some (.inl (1, n, .inr (.inl g))) ∧ ∀ s, s < n → g s = N s
def arrH (h : ab_H) (a n : Nat) (H : Nat → Nat → Int32) : Prop := ∃ g, h[a]? = some (.inl (0, 64 * n, .inl g)) ∧ ∀ s c, s < n → c < 64 → g (64 * s + c) = H s c
def arrS (h : ab_H) (a n : Nat) : Prop := ∃ g, h[a]? = some (.inl (0, n, .inl g))
theorem arrB.kept {h h' : ab_H} {a n : Nat} {p : Nat → Bool} (x : arrB h a n p) (e : h'[a]? = h[a]?) : arrB h' a n p := by
  obtain ⟨g, g1, g2⟩ := x
  exact ⟨g, e.trans g1, g2⟩
theorem arrL.kept {h h' : ab_H} {a n : Nat} {p : Nat → Int64} (x : arrL h a n p) (e : h'[a]? = h[a]?) : arrL h' a n p := by
  obtain ⟨g, g1, g2⟩ := x
  exact ⟨g, e.trans g1, g2⟩
theorem arrH.kept {h h' : ab_H} {a n : Nat} {p : Nat → Nat → Int32} (x : arrH h a n p) (e : h'[a]? = h[a]?) : arrH h' a n p := by
  obtain ⟨g, g1, g2⟩ := x
  exact ⟨g, e.trans g1, g2⟩
theorem arrS.kept {h h' : ab_H} {a n : Nat} (x : arrS h a n) (e : h'[a]? = h[a]?) : arrS h' a n := by
  obtain ⟨g, g1⟩ := x
  exact ⟨g, e.trans g1⟩
theorem upd_at (g : Nat → Int32) (j : Nat) (x : Int32) : upd g j x j = x := by unfold upd; exact if_pos rfl
theorem upd_no (g : Nat → Int32) {j i : Nat} (x : Int32) (h : i ≠ j) : upd g j x i = g i := by unfold upd; exact if_neg h
theorem updL_at (g : Nat → Int64) (j : Nat) (x : Int64) : vp_updL g j x j = x := by unfold vp_updL; exact if_pos rfl
theorem updL_no (g : Nat → Int64) {j i : Nat} (x : Int64) (h : i ≠ j) : vp_updL g j x i = g i := by unfold vp_updL; exact if_neg h
theorem arrB.put {h : ab_H} {a n s : Nat} {p : Nat → Bool} {g : Nat → Int32} {v : Bool} (g1 : h[a]? = some (.inl (2, n, .inl g))) (g2 : ∀ s, s < n → g s = b2i (p s)) : arrB (h.set a (.inl (2, n, .inl (upd g s (b2i v))))) a n (va_up p s v) := by
  refine ⟨_, set_at g1, fun t ht => ?_⟩
  by_cases e : t = s
  · rw [e, upd_at, va_up_self]
  · rw [upd_no _ _ e, va_up_ne _ _ e, g2 t ht]
theorem arrL.put {h : ab_H} {a n s : Nat} {p : Nat → Int64} {g : Nat → Int64} {v : Int64} (g1 : h[a]? = some (.inl (1, n, .inr (.inl g)))) (g2 : ∀ s, s < n → g s = p s) : arrL (h.set a (.inl (1, n, .inr (.inl (vp_updL g s v))))) a n (va_up p s v) := by
  refine ⟨_, set_at g1, fun t ht => ?_⟩
  by_cases e : t = s
  · rw [e, updL_at, va_up_self]
  · rw [updL_no _ _ e, va_up_ne _ _ e, g2 t ht]
/-- the reference's cells -/
def relM (h : ab_H) (σ : Sg) : Prop := (∃ sz op, h[84]? = some (mObj (nI (hn σ.1)) sz op)) ∧ arrB h 85 12 (pr σ.1) ∧ arrL h 86 12 (nm σ.1) ∧ arrL h 87 12 (kn σ.1) ∧ arrH h 88 12 (ht σ.1) ∧ (arrS h 89 64 ∧ arrS h 90 128 ∧ arrS h 91 256 ∧ arrS h 92 16 ∧ arrS h 93 16) ∧ (∃ g, h[94]? = some (.inl (2, 2, .inl g)) ∧ ∀ k, k < 2 → g k = b2i (σ.2.2 k)) ∧ (∃ g, h[95]? = some (.inl (2, 24, .inl g)) ∧ ∀ k s, k < 2 → s < 12 → g (12 * k + s) = b2i (pr (σ.2.1 k) s)) ∧ (∃ g, h[96]? = some (.inl (1, 24, .inr (.inl g))) ∧ ∀ k s, k < 2 → s < 12 → g (12 * k + s) = nm (σ.2.1 k) s) ∧ (∃ g, h[97]? = some (.inl (1, 24, .inr (.inl g))) ∧ ∀ k s, k < 2 → s < 12 → g (12 * k + s) = kn (σ.2.1 k) s) ∧ (∃ g, h[98]? = some (.inl (0, 1536, .inl g)) ∧ ∀ k s c, k < 2 → s < 12 → c < 64 → g (768 * k + (64 * s + c)) = ht (σ.2.1 k) s c) ∧ (∃ g, h[99]? = some (.inl (0, 2, .inl g)) ∧ ∀ k, k < 2 → g k = nI (hn (σ.2.1 k)))
/-- what a step on the present stamps and the passing cells leaves -/
theorem relM.cur {h h' : ab_H} {σ : Sg} {c' : Ci} (hR : relM h σ) (h0 : ∃ sz op, h'[84]? = some (mObj (nI (hn c')) sz op)) (h1 : arrB h' 85 12 (pr c')) (h2 : arrL h' 86 12 (nm c')) (h3 : arrL h' 87 12 (kn c')) (h4 : arrH h' 88 12 (ht c')) (h5 : arrS h' 89 64 ∧ arrS h' 90 128 ∧ arrS h' 91 256 ∧ arrS h' 92 16 ∧ arrS h' 93 16) (hk : ∀ i, 94 ≤ i → h'[i]? = h[i]?) : relM h' (c', σ.2) := by
  obtain ⟨-, -, -, -, -, -, ⟨g4, a4, b4⟩, ⟨g5, a5, b5⟩, ⟨g6, a6, b6⟩, ⟨g7, a7, b7⟩, ⟨g8, a8, b8⟩, ⟨g9, a9, b9⟩⟩ := hR
  exact ⟨h0, h1, h2, h3, h4, h5, ⟨g4, (hk _ (by omega)).trans a4, b4⟩, ⟨g5, (hk _ (by omega)).trans a5, b5⟩, ⟨g6, (hk _ (by omega)).trans a6, b6⟩, ⟨g7, (hk _ (by omega)).trans a7, b7⟩, ⟨g8, (hk _ (by omega)).trans a8, b8⟩, ⟨g9, (hk _ (by omega)).trans a9, b9⟩⟩
theorem sp_misStamp (d : Nat) {h : ab_H} {x hap sz op : Int32} {c : Ci} (h0 : h[84]? = some (mObj hap sz op)) (hB : arrB h 85 12 (pr c)) {post : ab_P} (hp : ∀ v : Int32, (noS c x ∧ v = nI 0) ∨ ((∃ s, s < 12 ∧ x = nI s ∧ pr c s = true) ∧ v = nI 1) → post (some (.int v)) h) : mCC (d + 2) kSpanStampsModel_isStamp [.ref 84, .int x] h post := by
  obtain ⟨g, g1, g2⟩ := hB
  rcases pk_ix x (n := 12) (by decide) with q | q | ⟨j, j1, rfl⟩
  · refine ⟨rfl, ?_⟩
    show ab_W _ _ _ (0, [.ref 84, .int x], [], (0, 0), h)
    refine ab_W.go (mm _) 3 (c' := (4, [.ref 84, .int x], [.int (nI 11), .int (nI 0), .int x], (0, 0), h)) rfl ?_
    refine ab_W.call (mm _) (k := 64) (av := [.int x, .int (nI 0), .int (nI 11)]) (c' := (7, [.ref 84, .int x], [], (0, 0), h)) rfl ?_
    refine min_ _ (fun v hv => ?_)
    rcases hv with ⟨⟨a, b⟩, rfl⟩ | ⟨a, rfl⟩
    · exact absurd q (Int32.not_lt.mpr a)
    · skip
      show ab_W _ _ _ (7, [.ref 84, .int x], [.int (nI 0)], (0, 0), h)
      refine ab_W.itT (mm _) (p := (nI 0) = 0) (c1 := (23, [.ref 84, .int x], [], (0, 0), h)) (c2 := (10, [.ref 84, .int x], [], (0, 0), h)) rfl (rfl) ?_
      refine ab_W.go (mm _) 1 (c' := (24, [.ref 84, .int x], [.int (nI 0)], (0, 0), h)) rfl ?_
      refine ab_W.retI (mm _) (rt := some .boolean) (v := nI 0) rfl rfl ?_
      exact hp _ (Or.inl ⟨Or.inl q, rfl⟩)
  · refine ⟨rfl, ?_⟩
    show ab_W _ _ _ (0, [.ref 84, .int x], [], (0, 0), h)
    refine ab_W.go (mm _) 3 (c' := (4, [.ref 84, .int x], [.int (nI 11), .int (nI 0), .int x], (0, 0), h)) rfl ?_
    refine ab_W.call (mm _) (k := 64) (av := [.int x, .int (nI 0), .int (nI 11)]) (c' := (7, [.ref 84, .int x], [], (0, 0), h)) rfl ?_
    refine min_ _ (fun v hv => ?_)
    rcases hv with ⟨⟨a, b⟩, rfl⟩ | ⟨a, rfl⟩
    · exact absurd (Int32.le_trans q b) (by decide)
    · skip
      show ab_W _ _ _ (7, [.ref 84, .int x], [.int (nI 0)], (0, 0), h)
      refine ab_W.itT (mm _) (p := (nI 0) = 0) (c1 := (23, [.ref 84, .int x], [], (0, 0), h)) (c2 := (10, [.ref 84, .int x], [], (0, 0), h)) rfl (rfl) ?_
      refine ab_W.go (mm _) 1 (c' := (24, [.ref 84, .int x], [.int (nI 0)], (0, 0), h)) rfl ?_
      refine ab_W.retI (mm _) (rt := some .boolean) (v := nI 0) rfl rfl ?_
      exact hp _ (Or.inl ⟨Or.inr (Or.inl q), rfl⟩)
  · refine ⟨rfl, ?_⟩
    show ab_W _ _ _ (0, [.ref 84, .int (nI j)], [], (0, 0), h)
    refine ab_W.go (mm _) 3 (c' := (4, [.ref 84, .int (nI j)], [.int (nI 11), .int (nI 0), .int (nI j)], (0, 0), h)) rfl ?_
    refine ab_W.call (mm _) (k := 64) (av := [.int (nI j), .int (nI 0), .int (nI 11)]) (c' := (7, [.ref 84, .int (nI j)], [], (0, 0), h)) rfl ?_
    refine min_ _ (fun v hv => ?_)
    rcases hv with ⟨⟨a, b⟩, rfl⟩ | ⟨a, rfl⟩
    · skip
      show ab_W _ _ _ (7, [.ref 84, .int (nI j)], [.int (nI 1)], (0, 0), h)
      refine ab_W.itF (mm _) (p := (nI 1) = 0) (c1 := (23, [.ref 84, .int (nI j)], [], (0, 0), h)) (c2 := (10, [.ref 84, .int (nI j)], [], (0, 0), h)) rfl (nI_ne01) ?_
      refine ab_W.go (mm _) 1 (c' := (11, [.ref 84, .int (nI j)], [.ref 84], (0, 0), h)) rfl ?_
      refine ab_W.o (mm _) (h0) rfl (c' := (14, [.ref 84, .int (nI j)], [.ref 85], (0, 0), h)) rfl ?_
      refine ab_W.go (mm _) 1 (c' := (15, [.ref 84, .int (nI j)], [.int (nI j), .ref 85], (0, 0), h)) rfl ?_
      refine ab_W.bald (mm _) (j := j) (g1) rfl (by omega) rfl rfl ?_
      show ab_W _ _ _ (16, [.ref 84, .int (nI j)], [.int (g j)], (0, 0), h)
      refine ab_W.topi (g2 j j1) ?_
      refine ab_W.ite (mm _) (p := (b2i (pr c j)) = 0) (c1 := (23, [.ref 84, .int (nI j)], [], (0, 0), h)) (c2 := (19, [.ref 84, .int (nI j)], [], (0, 0), h)) rfl (fun q => ?_) (fun q => ?_)
      · skip
        refine ab_W.go (mm _) 1 (c' := (24, [.ref 84, .int (nI j)], [.int (nI 0)], (0, 0), h)) rfl ?_
        refine ab_W.retI (mm _) (rt := some .boolean) (v := nI 0) rfl rfl ?_
        exact hp _ (Or.inl ⟨Or.inr (Or.inr ⟨j, j1, rfl, b2i_0.mp q⟩), rfl⟩)
      · skip
        refine ab_W.go (mm _) 2 (c' := (24, [.ref 84, .int (nI j)], [.int (nI 1)], (0, 0), h)) rfl ?_
        refine ab_W.retI (mm _) (rt := some .boolean) (v := nI 1) rfl rfl ?_
        refine hp _ (Or.inr ⟨⟨j, j1, rfl, ?_⟩, rfl⟩)
        cases hb : pr c j with
        | true => rfl
        | false => exact absurd (b2i_0.mpr hb) q
    · exact absurd ⟨Int32.not_lt.mp (nI_pos (by omega)), (nI_leI (by omega) (by omega)).mpr (show j ≤ 11 by omega)⟩ a
theorem cb_le (p : Nat → Bool) : ∀ n, cb p n ≤ n := by
  intro n
  induction n with
  | zero => exact Nat.le_refl _
  | succ n ih =>
    cases e : p n with
    | true => rw [cb_t e]; omega
    | false => rw [cb_f e]; omega
theorem sp_mmany (d : Nat) {h : ab_H} {hap sz op : Int32} {p : Nat → Bool} (h0 : h[84]? = some (mObj hap sz op)) (hB : arrB h 85 12 p) {post : ab_P} (hp : post (some (.int (nI (cb p 12)))) h) : mCC (d + 1) kSpanStampsModel_many [.ref 84] h post := by
  obtain ⟨g, g1, g2⟩ := hB
  have loop : ∀ s, s ≤ 12 → ab_W (ab_st (mT kSpanStampsModel_many) mB mF (mR kSpanStampsModel_many) none) (mCC d) post (4, [.ref 84, .int (nI (cb p s)), .int (nI s)], [], (0, 0), h) := by
    refine down 12 ?_ ?_
    · skip
      refine ab_W.go (mm _) 2 (c' := (7, [.ref 84, .int (nI (cb p 12)), .int (nI 12)], [.int (nI 12), .int (nI 12)], (0, 0), h)) rfl ?_
      refine ab_W.itT (mm _) (p := (nI 12) ≤ (nI 12)) (c1 := (33, [.ref 84, .int (nI (cb p 12)), .int (nI 12)], [], (0, 0), h)) (c2 := (10, [.ref 84, .int (nI (cb p 12)), .int (nI 12)], [], (0, 0), h)) rfl ((by decide)) ?_
      refine ab_W.go (mm _) 1 (c' := (34, [.ref 84, .int (nI (cb p 12)), .int (nI 12)], [.int (nI (cb p 12))], (0, 0), h)) rfl ?_
      refine ab_W.retI (mm _) (rt := some .int) (v := nI (cb p 12)) rfl rfl ?_
      exact hp
    · intro s hs ih
      refine ab_W.go (mm _) 2 (c' := (7, [.ref 84, .int (nI (cb p s)), .int (nI s)], [.int (nI 12), .int (nI s)], (0, 0), h)) rfl ?_
      refine ab_W.itF (mm _) (p := (nI 12) ≤ (nI s)) (c1 := (33, [.ref 84, .int (nI (cb p s)), .int (nI s)], [], (0, 0), h)) (c2 := (10, [.ref 84, .int (nI (cb p s)), .int (nI s)], [], (0, 0), h)) rfl (fun z => absurd ((nI_leI (by omega) (by omega)).mp z) (by omega)) ?_
      refine ab_W.go (mm _) 2 (c' := (12, [.ref 84, .int (nI (cb p s)), .int (nI s)], [.ref 84, .int (nI (cb p s))], (0, 0), h)) rfl ?_
      refine ab_W.o (mm _) (h0) rfl (c' := (15, [.ref 84, .int (nI (cb p s)), .int (nI s)], [.ref 85, .int (nI (cb p s))], (0, 0), h)) rfl ?_
      refine ab_W.go (mm _) 1 (c' := (16, [.ref 84, .int (nI (cb p s)), .int (nI s)], [.int (nI s), .ref 85, .int (nI (cb p s))], (0, 0), h)) rfl ?_
      refine ab_W.bald (mm _) (j := s) (g1) rfl (by omega) rfl rfl ?_
      show ab_W _ _ _ (17, [.ref 84, .int (nI (cb p s)), .int (nI s)], [.int (g s), .int (nI (cb p s))], (0, 0), h)
      refine ab_W.topi (g2 s hs) ?_
      refine ab_W.ite (mm _) (p := (b2i (p s)) = 0) (c1 := (24, [.ref 84, .int (nI (cb p s)), .int (nI s)], [.int (nI (cb p s))], (0, 0), h)) (c2 := (20, [.ref 84, .int (nI (cb p s)), .int (nI s)], [.int (nI (cb p s))], (0, 0), h)) rfl (fun q => ?_) (fun q => ?_)
      · skip
        have q := b2i_0.mp q
        rw [cb_f q] at ih
        refine ab_W.go (mm _) 2 (c' := (26, [.ref 84, .int (nI (cb p s)), .int (nI s)], [.int ((nI (cb p s)) + (nI 0))], (0, 0), h)) rfl ?_
        refine ab_W.topi (nI_add (cb p s) 0) ?_
        refine ab_W.go (mm _) 2 (c' := (30, [.ref 84, .int (nI ((cb p s) + 0)), .int (nI s + nI 1)], [], (0, 0), h)) rfl ?_
        rw [nI_add s 1]
        refine ab_W.go (mm _) 1 (c' := (4, [.ref 84, .int (nI ((cb p s) + 0)), .int (nI (s + 1))], [], (0, 0), h)) rfl ?_
        exact ih
      · skip
        have q : p s = true := by
          cases hb : p s with
          | true => rfl
          | false => exact absurd (b2i_0.mpr hb) q
        rw [cb_t q] at ih
        refine ab_W.go (mm _) 3 (c' := (26, [.ref 84, .int (nI (cb p s)), .int (nI s)], [.int ((nI (cb p s)) + (nI 1))], (0, 0), h)) rfl ?_
        refine ab_W.topi (nI_add (cb p s) 1) ?_
        refine ab_W.go (mm _) 2 (c' := (30, [.ref 84, .int (nI ((cb p s) + 1)), .int (nI s + nI 1)], [], (0, 0), h)) rfl ?_
        rw [nI_add s 1]
        refine ab_W.go (mm _) 1 (c' := (4, [.ref 84, .int (nI ((cb p s) + 1)), .int (nI (s + 1))], [], (0, 0), h)) rfl ?_
        exact ih
  refine ⟨rfl, ?_⟩
  show ab_W _ _ _ (0, [.ref 84, .retAddr 0, .retAddr 0], [], (0, 0), h)
  refine ab_W.go (mm _) 4 (c' := (4, [.ref 84, .int (nI 0), .int (nI 0)], [], (0, 0), h)) rfl ?_
  exact loop 0 (Nat.zero_le _)
def ixD : Nat → Int32
  | 0 => -(nI 1)
  | m + 1 => nI m
theorem ixD_s : ∀ m, m < 12 → nI m + -(nI 1) = ixD m := by decide +kernel
theorem sp_mfree (d : Nat) {h : ab_H} {hap sz op : Int32} {c : Ci} (h0 : h[84]? = some (mObj hap sz op)) (hB : arrB h 85 12 (pr c)) {post : ab_P} (hp : ∀ v : Int32, (∃ t, free1 c t ∧ v = nI t) ∨ ((∀ s, s < 12 → pr c s = true) ∧ v = -(nI 6)) → post (some (.int v)) h) : mCC (d + 1) kSpanStampsModel_free [.ref 84] h post := by
  obtain ⟨g, g1, g2⟩ := hB
  have loop : ∀ m, m ≤ 12 → ∀ v : Int32, ((∃ t, m ≤ t ∧ t < 12 ∧ pr c t = false ∧ (∀ j, m ≤ j → j < t → pr c j = true) ∧ v = nI t) ∨ ((∀ s, m ≤ s → s < 12 → pr c s = true) ∧ v = -(nI 6))) → ab_W (ab_st (mT kSpanStampsModel_free) mB mF (mR kSpanStampsModel_free) none) (mCC d) post (6, [.ref 84, .int v, .int (ixD m)], [], (0, 0), h) := by
    intro m
    induction m with
    | zero =>
      intro _ v hv
      refine ab_W.go (mm _) 1 (c' := (7, [.ref 84, .int v, .int (ixD 0)], [.int (ixD 0)], (0, 0), h)) rfl ?_
      refine ab_W.itT (mm _) (p := (ixD 0) < 0) (c1 := (31, [.ref 84, .int v, .int (ixD 0)], [], (0, 0), h)) (c2 := (10, [.ref 84, .int v, .int (ixD 0)], [], (0, 0), h)) rfl ((by decide)) ?_
      refine ab_W.go (mm _) 1 (c' := (32, [.ref 84, .int v, .int (ixD 0)], [.int v], (0, 0), h)) rfl ?_
      refine ab_W.retI (mm _) (rt := some .int) (v := v) rfl rfl ?_
      refine hp v ?_
      rcases hv with ⟨t, t1, t2, t3, t4, t5⟩ | ⟨t1, t2⟩
      · exact Or.inl ⟨t, ⟨t2, t3, fun j hj => t4 j (Nat.zero_le _) hj⟩, t5⟩
      · exact Or.inr ⟨fun s hs => t1 s (Nat.zero_le _) hs, t2⟩
    | succ m ih =>
      intro hm v hv
      show ab_W _ _ _ (6, [.ref 84, .int v, .int (nI m)], [], (0, 0), h)
      refine ab_W.go (mm _) 1 (c' := (7, [.ref 84, .int v, .int (nI m)], [.int (nI m)], (0, 0), h)) rfl ?_
      refine ab_W.itF (mm _) (p := (nI m) < 0) (c1 := (31, [.ref 84, .int v, .int (nI m)], [], (0, 0), h)) (c2 := (10, [.ref 84, .int v, .int (nI m)], [], (0, 0), h)) rfl (nI_pos (by omega)) ?_
      refine ab_W.go (mm _) 1 (c' := (11, [.ref 84, .int v, .int (nI m)], [.ref 84], (0, 0), h)) rfl ?_
      refine ab_W.o (mm _) (h0) rfl (c' := (14, [.ref 84, .int v, .int (nI m)], [.ref 85], (0, 0), h)) rfl ?_
      refine ab_W.go (mm _) 1 (c' := (15, [.ref 84, .int v, .int (nI m)], [.int (nI m), .ref 85], (0, 0), h)) rfl ?_
      refine ab_W.bald (mm _) (j := m) (g1) rfl (by omega) rfl rfl ?_
      show ab_W _ _ _ (16, [.ref 84, .int v, .int (nI m)], [.int (g m)], (0, 0), h)
      refine ab_W.topi (g2 m (by omega)) ?_
      refine ab_W.ite (mm _) (p := (b2i (pr c m)) = 0) (c1 := (23, [.ref 84, .int v, .int (nI m)], [], (0, 0), h)) (c2 := (19, [.ref 84, .int v, .int (nI m)], [], (0, 0), h)) rfl (fun q => ?_) (fun q => ?_)
      · skip
        have q := b2i_0.mp q
        refine ab_W.go (mm _) 4 (c' := (6, [.ref 84, .int (nI m), .int (nI m + -(nI 1))], [], (0, 0), h)) rfl ?_
        rw [ixD_s m (by omega)]
        exact ih (by omega) _ (Or.inl ⟨m, Nat.le_refl _, by omega, q, fun j j1 j2 => absurd j1 (by omega), rfl⟩)
      · skip
        have q : pr c m = true := by
          cases hb : pr c m with
          | true => rfl
          | false => exact absurd (b2i_0.mpr hb) q
        refine ab_W.go (mm _) 5 (c' := (6, [.ref 84, .int v, .int (nI m + -(nI 1))], [], (0, 0), h)) rfl ?_
        rw [ixD_s m (by omega)]
        refine ih (by omega) _ ?_
        rcases hv with ⟨t, t1, t2, t3, t4, t5⟩ | ⟨t1, t2⟩
        · refine Or.inl ⟨t, by omega, t2, t3, fun j j1 j2 => ?_, t5⟩
          by_cases e : j = m
          · rw [e]; exact q
          · exact t4 j (by omega) j2
        · refine Or.inr ⟨fun j j1 j2 => ?_, t2⟩
          by_cases e : j = m
          · rw [e]; exact q
          · exact t1 j (by omega) j2
  refine ⟨rfl, ?_⟩
  show ab_W _ _ _ (0, [.ref 84, .retAddr 0, .retAddr 0], [], (0, 0), h)
  refine ab_W.go (mm _) 4 (c' := (6, [.ref 84, .int (-(nI 6)), .int (nI 11)], [], (0, 0), h)) rfl ?_
  exact loop 12 (Nat.le_refl _) _ (Or.inr ⟨fun s s1 s2 => absurd s1 (by omega), rfl⟩)
theorem sp_mcopy (d : Nat) {h : ab_H} {hap sz op : Int32} {H : Nat → Nat → Int32} {s t : Nat} (h0 : h[84]? = some (mObj hap sz op)) (hH : arrH h 88 12 H) (hs : s < 12) (ht' : t < 12) (hst : s ≠ t) {post : ab_P} (hp : ∀ h', arrH h' 88 12 (va_up H t (H s)) → (∀ i, i ≠ 88 → h'[i]? = h[i]?) → post none h') : mCC (d + 1) kSpanStampsModel_copyHeights [.ref 84, .int (nI s), .int (nI t)] h post := by
  have loop : ∀ c, c ≤ 64 → ∀ h1, (∀ i, i ≠ 88 → h1[i]? = h[i]?) → (∃ g, h1[88]? = some (.inl (0, 64 * 12, .inl g)) ∧ (∀ v j, v < 12 → j < 64 → v ≠ t → g (64 * v + j) = H v j) ∧ (∀ j, j < c → g (64 * t + j) = H s j)) → ab_W (ab_st (mT kSpanStampsModel_copyHeights) mB mF (mR kSpanStampsModel_copyHeights) none) (mCC d) post (2, [.ref 84, .int (nI s), .int (nI t), .int (nI c)], [], (0, 0), h1) := by
    refine down 64 ?_ ?_
    · intro h1 k1 ⟨g, g1, g2, g3⟩
      refine ab_W.go (mm _) 2 (c' := (5, [.ref 84, .int (nI s), .int (nI t), .int (nI 64)], [.int (nI 64), .int (nI 64)], (0, 0), h1)) rfl ?_
      refine ab_W.itT (mm _) (p := (nI 64) ≤ (nI 64)) (c1 := (36, [.ref 84, .int (nI s), .int (nI t), .int (nI 64)], [], (0, 0), h1)) (c2 := (8, [.ref 84, .int (nI s), .int (nI t), .int (nI 64)], [], (0, 0), h1)) rfl ((by decide)) ?_
      refine ab_W.ret (mm _) (v := none) rfl ?_
      refine hp _ ⟨g, g1, fun v j hv hj => ?_⟩ k1
      by_cases e : v = t
      · rw [e, va_up_self, g3 j hj]
      · rw [va_up_ne _ _ e, g2 v j hv hj e]
    · intro c hc ih h1 k1 ⟨g, g1, g2, g3⟩
      have h0' := (k1 84 (by decide)).trans h0
      refine ab_W.go (mm _) 2 (c' := (5, [.ref 84, .int (nI s), .int (nI t), .int (nI c)], [.int (nI 64), .int (nI c)], (0, 0), h1)) rfl ?_
      refine ab_W.itF (mm _) (p := (nI 64) ≤ (nI c)) (c1 := (36, [.ref 84, .int (nI s), .int (nI t), .int (nI c)], [], (0, 0), h1)) (c2 := (8, [.ref 84, .int (nI s), .int (nI t), .int (nI c)], [], (0, 0), h1)) rfl (fun z => absurd ((nI_leI (by omega) (by omega)).mp z) (by omega)) ?_
      refine ab_W.go (mm _) 1 (c' := (9, [.ref 84, .int (nI s), .int (nI t), .int (nI c)], [.ref 84], (0, 0), h1)) rfl ?_
      refine ab_W.o (mm _) (h0') rfl (c' := (12, [.ref 84, .int (nI s), .int (nI t), .int (nI c)], [.ref 88], (0, 0), h1)) rfl ?_
      refine ab_W.go (mm _) 3 (c' := (16, [.ref 84, .int (nI s), .int (nI t), .int (nI c)], [.int ((nI 64) * (nI t)), .ref 88], (0, 0), h1)) rfl ?_
      refine ab_W.topi (pk_mul 64 t) ?_
      refine ab_W.go (mm _) 2 (c' := (18, [.ref 84, .int (nI s), .int (nI t), .int (nI c)], [.int ((nI (64 * t)) + (nI c)), .ref 88], (0, 0), h1)) rfl ?_
      refine ab_W.topi (nI_add (64 * t) c) ?_
      refine ab_W.go (mm _) 1 (c' := (19, [.ref 84, .int (nI s), .int (nI t), .int (nI c)], [.ref 84, .int (nI ((64 * t) + c)), .ref 88], (0, 0), h1)) rfl ?_
      refine ab_W.o (mm _) (h0') rfl (c' := (22, [.ref 84, .int (nI s), .int (nI t), .int (nI c)], [.ref 88, .int (nI ((64 * t) + c)), .ref 88], (0, 0), h1)) rfl ?_
      refine ab_W.go (mm _) 3 (c' := (26, [.ref 84, .int (nI s), .int (nI t), .int (nI c)], [.int ((nI 64) * (nI s)), .ref 88, .int (nI ((64 * t) + c)), .ref 88], (0, 0), h1)) rfl ?_
      refine ab_W.topi (pk_mul 64 s) ?_
      refine ab_W.go (mm _) 2 (c' := (28, [.ref 84, .int (nI s), .int (nI t), .int (nI c)], [.int ((nI (64 * s)) + (nI c)), .ref 88, .int (nI ((64 * t) + c)), .ref 88], (0, 0), h1)) rfl ?_
      refine ab_W.topi (nI_add (64 * s) c) ?_
      refine ab_W.iald (mm _) (j := 64 * s + c) (g1) (by simp only [nI_add, pk_mul]) (by omega) rfl rfl ?_
      show ab_W _ _ _ (29, [.ref 84, .int (nI s), .int (nI t), .int (nI c)], [.int (g (64 * s + c)), .int (nI ((64 * t) + c)), .ref 88], (0, 0), h1)
      refine ab_W.topi (g2 s c hs hc hst) ?_
      refine ab_W.iast (mm _) (j := 64 * t + c) (g1) (by simp only [nI_add, pk_mul]) (by omega) rfl rfl ?_
      show ab_W _ _ _ (30, [.ref 84, .int (nI s), .int (nI t), .int (nI c)], [], (0, 0), h1.set 88 (.inl (0, 64 * 12, .inl (upd g (64 * t + c) (H s c)))))
      refine ab_W.go (mm _) 1 (c' := (33, [.ref 84, .int (nI s), .int (nI t), .int (nI c + nI 1)], [], (0, 0), h1.set 88 (.inl (0, 64 * 12, .inl (upd g (64 * t + c) (H s c)))))) rfl ?_
      rw [nI_add c 1]
      refine ab_W.go (mm _) 1 (c' := (2, [.ref 84, .int (nI s), .int (nI t), .int (nI (c + 1))], [], (0, 0), h1.set 88 (.inl (0, 64 * 12, .inl (upd g (64 * t + c) (H s c)))))) rfl ?_
      refine ih _ (fun i hi => (set_ne (fun z => hi z.symm)).trans (k1 i hi)) ⟨_, set_at g1, fun v j hv hj hvt => ?_, fun j hj => ?_⟩
      · rw [upd_no _ _ (by omega)]
        exact g2 v j hv hj hvt
      · by_cases e : j = c
        · rw [e, upd_at]
        · rw [upd_no _ _ (by omega)]
          exact g3 j (by omega)
  obtain ⟨g, g1, g2⟩ := hH
  refine ⟨rfl, ?_⟩
  show ab_W _ _ _ (0, [.ref 84, .int (nI s), .int (nI t), .retAddr 0], [], (0, 0), h)
  refine ab_W.go (mm _) 2 (c' := (2, [.ref 84, .int (nI s), .int (nI t), .int (nI 0)], [], (0, 0), h)) rfl ?_
  exact loop 0 (Nat.zero_le _) h (fun _ _ => rfl) ⟨g, g1, fun v j hv hj _ => g2 v j hv hj, fun j hj => absurd hj (Nat.not_lt_zero _)⟩
theorem sp_mpart (d : Nat) {h : ab_H} {hap sz op : Int32} {N : Int64} {P : Nat → Int64} {s t : Nat} (h0 : h[84]? = some (mObj hap sz op)) (hP : arrL h 86 12 P) (hs : s < 12) (ht' : t < 12) (hN : ¬ N = lN 0) (h1 : ¬ cnt N 64 = 1) {post : ab_P} (hp : ∀ h', arrL h' 86 12 (va_up (va_up P s (lowN N)) t (uppN N)) → (∀ i, i ≠ 86 → h'[i]? = h[i]?) → post none h') : mCC (d + 6) kSpanStampsModel_part [.ref 84, .long N, .int (nI s), .int (nI t)] h post := by
  have hlt := lsN_lt hN h1
  obtain ⟨k1, k2, k3, k4⟩ := lsN_ok N
  obtain ⟨g, g1, g2⟩ := hP
  refine ⟨rfl, ?_⟩
  show ab_W _ _ _ (0, [.ref 84, .long N, .retAddr 0, .int (nI s), .int (nI t), .retAddr 0, .retAddr 0], [], (0, 0), h)
  refine ab_W.go (mm _) 2 (c' := (2, [.ref 84, .long N, .retAddr 0, .int (nI s), .int (nI t), .retAddr 0, .retAddr 0], [.long N, .int (nI 2)], (0, 0), h)) rfl ?_
  refine ab_W.call (mm _) (k := 75) (av := [.long N]) (c' := (5, [.ref 84, .long N, .retAddr 0, .int (nI s), .int (nI t), .retAddr 0, .retAddr 0], [.int (nI 2)], (0, 0), h)) rfl ?_
  refine mleastSpan _ ?_
  show ab_W _ _ _ (5, [.ref 84, .long N, .retAddr 0, .int (nI s), .int (nI t), .retAddr 0, .retAddr 0], [.int (nI (lsN N)), .int (nI 2)], (0, 0), h)
  refine ab_W.go (mm _) 1 (c' := (6, [.ref 84, .long N, .retAddr 0, .int (nI s), .int (nI t), .retAddr 0, .retAddr 0], [.int ((nI 2) * (nI (lsN N)))], (0, 0), h)) rfl ?_
  refine ab_W.topi (pk_mul 2 (lsN N)) ?_
  refine ab_W.call (mm _) (k := 73) (av := [.int (nI (2 * (lsN N)))]) (c' := (9, [.ref 84, .long N, .retAddr 0, .int (nI s), .int (nI t), .retAddr 0, .retAddr 0], [], (0, 0), h)) rfl ?_
  refine mcellsOf _ (by omega) (by omega) ?_
  show ab_W _ _ _ (9, [.ref 84, .long N, .retAddr 0, .int (nI s), .int (nI t), .retAddr 0, .retAddr 0], [.long (msk (2 * lsN N))], (0, 0), h)
  refine ab_W.go (mm _) 2 (c' := (12, [.ref 84, .long N, .retAddr 0, .int (nI s), .int (nI t), .long (msk (2 * lsN N)), .retAddr 0], [.ref 84], (0, 0), h)) rfl ?_
  refine ab_W.o (mm _) (h0) rfl (c' := (15, [.ref 84, .long N, .retAddr 0, .int (nI s), .int (nI t), .long (msk (2 * lsN N)), .retAddr 0], [.ref 86], (0, 0), h)) rfl ?_
  refine ab_W.go (mm _) 4 (c' := (20, [.ref 84, .long N, .retAddr 0, .int (nI s), .int (nI t), .long (msk (2 * lsN N)), .retAddr 0], [.long (N &&& (msk (2 * lsN N))), .int (nI s), .ref 86], (0, 0), h)) rfl ?_
  refine ab_W.last (mm _) (j := s) (g1) rfl (by omega) rfl rfl ?_
  show ab_W _ _ _ (21, [.ref 84, .long N, .retAddr 0, .int (nI s), .int (nI t), .long (msk (2 * lsN N)), .retAddr 0], [], (0, 0), h.set 86 (.inl (1, 12, .inr (.inl (vp_updL g s (lowN N))))))
  obtain ⟨h1, e1⟩ : ∃ h1, h1 = h.set 86 (.inl (1, 12, .inr (.inl (vp_updL g s (lowN N))))) := ⟨_, rfl⟩
  obtain ⟨g', g1', g2'⟩ : arrL h1 86 12 (va_up P s (lowN N)) := by rw [e1]; exact arrL.put g1 g2
  have k1 : ∀ i, i ≠ 86 → h1[i]? = h[i]? := fun i hi => by rw [e1]; exact set_ne (fun z => hi z.symm)
  refine ab_W.hp (e1.symm) ?_
  show ab_W _ _ _ (21, [.ref 84, .long N, .retAddr 0, .int (nI s), .int (nI t), .long (msk (2 * lsN N)), .retAddr 0], [], (0, 0), h1)
  refine ab_W.go (mm _) 1 (c' := (22, [.ref 84, .long N, .retAddr 0, .int (nI s), .int (nI t), .long (msk (2 * lsN N)), .retAddr 0], [.ref 84], (0, 0), h1)) rfl ?_
  refine ab_W.o (mm _) ((k1 84 (by decide)).trans h0) rfl (c' := (25, [.ref 84, .long N, .retAddr 0, .int (nI s), .int (nI t), .long (msk (2 * lsN N)), .retAddr 0], [.ref 86], (0, 0), h1)) rfl ?_
  refine ab_W.go (mm _) 6 (c' := (35, [.ref 84, .long N, .retAddr 0, .int (nI s), .int (nI t), .long (msk (2 * lsN N)), .retAddr 0], [.long (N &&& ((msk (2 * lsN N)) ^^^ (-(lN 1)))), .int (nI t), .ref 86], (0, 0), h1)) rfl ?_
  refine ab_W.last (mm _) (j := t) (g1') rfl (by omega) rfl rfl ?_
  show ab_W _ _ _ (36, [.ref 84, .long N, .retAddr 0, .int (nI s), .int (nI t), .long (msk (2 * lsN N)), .retAddr 0], [], (0, 0), h1.set 86 (.inl (1, 12, .inr (.inl (vp_updL g' t (uppN N))))))
  refine ab_W.ret (mm _) (v := none) rfl ?_
  exact hp _ (arrL.put g1' g2') (fun i hi => (set_ne (fun z => hi z.symm)).trans (k1 i hi))
end
section
/-! THE REFERENCE: adding, hearing, comparing -/
theorem sp_isY (d : Nat) {h : ab_H} {hap sz op : Int32} {c : Ci} {s : Nat} (h0 : h[84]? = some (mObj hap sz op)) (hB : arrB h 85 12 (pr c)) (hs : s < 12) (hx : pr c s = true) {post : ab_P} (hp : post (some (.int (nI 1))) h) : mCC (d + 2) kSpanStampsModel_isStamp [.ref 84, .int (nI s)] h post := by
  refine sp_misStamp d h0 hB (fun v hv => ?_)
  rcases hv with ⟨a, -⟩ | ⟨-, rfl⟩
  · have e := stN_no a
    rw [stN_yes hs hx] at e
    cases e
  · exact hp
theorem sp_isN (d : Nat) {h : ab_H} {hap sz op x : Int32} {c : Ci} (h0 : h[84]? = some (mObj hap sz op)) (hB : arrB h 85 12 (pr c)) (hx : noS c x) {post : ab_P} (hp : post (some (.int (nI 0))) h) : mCC (d + 2) kSpanStampsModel_isStamp [.ref 84, .int x] h post := by
  refine sp_misStamp d h0 hB (fun v hv => ?_)
  rcases hv with ⟨-, rfl⟩ | ⟨⟨s, hs, rfl, hy⟩, -⟩
  · exact hp
  · have e := stN_no hx
    rw [stN_yes hs hy] at e
    cases e
theorem sp_mheard (d : Nat) {h : ab_H} {hap sz op : Int32} {H : Nat → Nat → Int32} {K : Nat → Int64} {s t : Nat} (h0 : h[84]? = some (mObj hap sz op)) (hH : arrH h 88 12 H) (hK : arrL h 87 12 K) (hs : s < 12) (ht' : t < 12) (hst : s ≠ t) {post : ab_P} (hp : ∀ h', arrH h' 88 12 (va_up H s (mxH (H s) (H t))) → arrL h' 87 12 (va_up K s (K s ||| K t)) → (∀ i, i ≠ 88 → i ≠ 87 → h'[i]? = h[i]?) → post (some (.int (nI (cn (fun j => H s j < H t j) 64)))) h') : mCC (d + 1) kSpanStampsModel_heard [.ref 84, .int (nI s), .int (nI t)] h post := by
  obtain ⟨gk, k1, k2⟩ := hK
  have loop : ∀ c, c ≤ 64 → ∀ h1, (∀ i, i ≠ 88 → h1[i]? = h[i]?) → (∃ g, h1[88]? = some (.inl (0, 64 * 12, .inl g)) ∧ (∀ v j, v < 12 → j < 64 → v ≠ s → g (64 * v + j) = H v j) ∧ (∀ j, j < c → g (64 * s + j) = mxI (H s j) (H t j)) ∧ (∀ j, c ≤ j → j < 64 → g (64 * s + j) = H s j)) → ab_W (ab_st (mT kSpanStampsModel_heard) mB mF (mR kSpanStampsModel_heard) none) (mCC d) post (5, [.ref 84, .int (nI s), .int (nI t), .int (nI (cn (fun j => H s j < H t j) c)), .int (nI c)], [], (0, 0), h1) := by
    refine down 64 ?_ ?_
    · intro h1 e1 ⟨g, g1, g2, g3, g4⟩
      have h0' := (e1 84 (by decide)).trans h0
      have k1' := (e1 87 (by decide)).trans k1
      refine ab_W.go (mm _) 2 (c' := (9, [.ref 84, .int (nI s), .int (nI t), .int (nI (cn (fun j => H s j < H t j) 64)), .int (nI 64)], [.int (nI 64), .int (nI 64)], (0, 0), h1)) rfl ?_
      refine ab_W.itT (mm _) (p := (nI 64) ≤ (nI 64)) (c1 := (72, [.ref 84, .int (nI s), .int (nI t), .int (nI (cn (fun j => H s j < H t j) 64)), .int (nI 64)], [], (0, 0), h1)) (c2 := (12, [.ref 84, .int (nI s), .int (nI t), .int (nI (cn (fun j => H s j < H t j) 64)), .int (nI 64)], [], (0, 0), h1)) rfl ((by decide)) ?_
      refine ab_W.go (mm _) 1 (c' := (73, [.ref 84, .int (nI s), .int (nI t), .int (nI (cn (fun j => H s j < H t j) 64)), .int (nI 64)], [.ref 84], (0, 0), h1)) rfl ?_
      refine ab_W.o (mm _) (h0') rfl (c' := (76, [.ref 84, .int (nI s), .int (nI t), .int (nI (cn (fun j => H s j < H t j) 64)), .int (nI 64)], [.ref 87], (0, 0), h1)) rfl ?_
      refine ab_W.go (mm _) 2 (c' := (78, [.ref 84, .int (nI s), .int (nI t), .int (nI (cn (fun j => H s j < H t j) 64)), .int (nI 64)], [.int (nI s), .ref 87, .int (nI s), .ref 87], (0, 0), h1)) rfl ?_
      refine ab_W.lald (mm _) (j := s) (k1') rfl (by omega) rfl rfl ?_
      show ab_W _ _ _ (79, [.ref 84, .int (nI s), .int (nI t), .int (nI (cn (fun j => H s j < H t j) 64)), .int (nI 64)], [.long (gk s), .int (nI s), .ref 87], (0, 0), h1)
      refine ab_W.topl (k2 s hs) ?_
      refine ab_W.go (mm _) 1 (c' := (80, [.ref 84, .int (nI s), .int (nI t), .int (nI (cn (fun j => H s j < H t j) 64)), .int (nI 64)], [.ref 84, .long (K s), .int (nI s), .ref 87], (0, 0), h1)) rfl ?_
      refine ab_W.o (mm _) (h0') rfl (c' := (83, [.ref 84, .int (nI s), .int (nI t), .int (nI (cn (fun j => H s j < H t j) 64)), .int (nI 64)], [.ref 87, .long (K s), .int (nI s), .ref 87], (0, 0), h1)) rfl ?_
      refine ab_W.go (mm _) 1 (c' := (84, [.ref 84, .int (nI s), .int (nI t), .int (nI (cn (fun j => H s j < H t j) 64)), .int (nI 64)], [.int (nI t), .ref 87, .long (K s), .int (nI s), .ref 87], (0, 0), h1)) rfl ?_
      refine ab_W.lald (mm _) (j := t) (k1') rfl (by omega) rfl rfl ?_
      show ab_W _ _ _ (85, [.ref 84, .int (nI s), .int (nI t), .int (nI (cn (fun j => H s j < H t j) 64)), .int (nI 64)], [.long (gk t), .long (K s), .int (nI s), .ref 87], (0, 0), h1)
      refine ab_W.topl (k2 t ht') ?_
      refine ab_W.go (mm _) 1 (c' := (86, [.ref 84, .int (nI s), .int (nI t), .int (nI (cn (fun j => H s j < H t j) 64)), .int (nI 64)], [.long ((K s) ||| (K t)), .int (nI s), .ref 87], (0, 0), h1)) rfl ?_
      refine ab_W.last (mm _) (j := s) (k1') rfl (by omega) rfl rfl ?_
      show ab_W _ _ _ (87, [.ref 84, .int (nI s), .int (nI t), .int (nI (cn (fun j => H s j < H t j) 64)), .int (nI 64)], [], (0, 0), h1.set 87 (.inl (1, 12, .inr (.inl (vp_updL gk s (K s ||| K t))))))
      refine ab_W.go (mm _) 1 (c' := (88, [.ref 84, .int (nI s), .int (nI t), .int (nI (cn (fun j => H s j < H t j) 64)), .int (nI 64)], [.int (nI (cn (fun j => H s j < H t j) 64))], (0, 0), h1.set 87 (.inl (1, 12, .inr (.inl (vp_updL gk s (K s ||| K t))))))) rfl ?_
      refine ab_W.retI (mm _) (rt := some .int) (v := nI (cn (fun j => H s j < H t j) 64)) rfl rfl ?_
      refine hp _ ⟨g, (set_ne (by decide)).trans g1, fun v j hv hj => ?_⟩ (arrL.put k1' k2) (fun i i1 i2 => (set_ne (fun z => i2 z.symm)).trans (e1 i i1))
      by_cases e : v = s
      · rw [e, va_up_self, g3 j hj]
        rfl
      · rw [va_up_ne _ _ e, g2 v j hv hj e]
    · intro c hc ih h1 e1 ⟨g, g1, g2, g3, g4⟩
      have h0' := (e1 84 (by decide)).trans h0
      refine ab_W.go (mm _) 2 (c' := (9, [.ref 84, .int (nI s), .int (nI t), .int (nI (cn (fun j => H s j < H t j) c)), .int (nI c)], [.int (nI 64), .int (nI c)], (0, 0), h1)) rfl ?_
      refine ab_W.itF (mm _) (p := (nI 64) ≤ (nI c)) (c1 := (72, [.ref 84, .int (nI s), .int (nI t), .int (nI (cn (fun j => H s j < H t j) c)), .int (nI c)], [], (0, 0), h1)) (c2 := (12, [.ref 84, .int (nI s), .int (nI t), .int (nI (cn (fun j => H s j < H t j) c)), .int (nI c)], [], (0, 0), h1)) rfl (fun z => absurd ((nI_leI (by omega) (by omega)).mp z) (by omega)) ?_
      refine ab_W.go (mm _) 1 (c' := (13, [.ref 84, .int (nI s), .int (nI t), .int (nI (cn (fun j => H s j < H t j) c)), .int (nI c)], [.ref 84], (0, 0), h1)) rfl ?_
      refine ab_W.o (mm _) (h0') rfl (c' := (16, [.ref 84, .int (nI s), .int (nI t), .int (nI (cn (fun j => H s j < H t j) c)), .int (nI c)], [.ref 88], (0, 0), h1)) rfl ?_
      refine ab_W.go (mm _) 3 (c' := (20, [.ref 84, .int (nI s), .int (nI t), .int (nI (cn (fun j => H s j < H t j) c)), .int (nI c)], [.int ((nI 64) * (nI t)), .ref 88], (0, 0), h1)) rfl ?_
      refine ab_W.topi (pk_mul 64 t) ?_
      refine ab_W.go (mm _) 2 (c' := (23, [.ref 84, .int (nI s), .int (nI t), .int (nI (cn (fun j => H s j < H t j) c)), .int (nI c)], [.int ((nI (64 * t)) + (nI c)), .ref 88], (0, 0), h1)) rfl ?_
      refine ab_W.topi (nI_add (64 * t) c) ?_
      refine ab_W.iald (mm _) (j := 64 * t + c) (g1) (by simp only [nI_add, pk_mul]) (by omega) rfl rfl ?_
      show ab_W _ _ _ (24, [.ref 84, .int (nI s), .int (nI t), .int (nI (cn (fun j => H s j < H t j) c)), .int (nI c)], [.int (g (64 * t + c))], (0, 0), h1)
      refine ab_W.topi (g2 t c ht' hc (fun z => hst z.symm)) ?_
      refine ab_W.go (mm _) 1 (c' := (25, [.ref 84, .int (nI s), .int (nI t), .int (nI (cn (fun j => H s j < H t j) c)), .int (nI c)], [.ref 84, .int (H t c)], (0, 0), h1)) rfl ?_
      refine ab_W.o (mm _) (h0') rfl (c' := (28, [.ref 84, .int (nI s), .int (nI t), .int (nI (cn (fun j => H s j < H t j) c)), .int (nI c)], [.ref 88, .int (H t c)], (0, 0), h1)) rfl ?_
      refine ab_W.go (mm _) 3 (c' := (32, [.ref 84, .int (nI s), .int (nI t), .int (nI (cn (fun j => H s j < H t j) c)), .int (nI c)], [.int ((nI 64) * (nI s)), .ref 88, .int (H t c)], (0, 0), h1)) rfl ?_
      refine ab_W.topi (pk_mul 64 s) ?_
      refine ab_W.go (mm _) 2 (c' := (35, [.ref 84, .int (nI s), .int (nI t), .int (nI (cn (fun j => H s j < H t j) c)), .int (nI c)], [.int ((nI (64 * s)) + (nI c)), .ref 88, .int (H t c)], (0, 0), h1)) rfl ?_
      refine ab_W.topi (nI_add (64 * s) c) ?_
      refine ab_W.iald (mm _) (j := 64 * s + c) (g1) (by simp only [nI_add, pk_mul]) (by omega) rfl rfl ?_
      show ab_W _ _ _ (36, [.ref 84, .int (nI s), .int (nI t), .int (nI (cn (fun j => H s j < H t j) c)), .int (nI c)], [.int (g (64 * s + c)), .int (H t c)], (0, 0), h1)
      refine ab_W.topi (g4 c (Nat.le_refl _) hc) ?_
      refine ab_W.ite (mm _) (p := (H t c) ≤ (H s c)) (c1 := (66, [.ref 84, .int (nI s), .int (nI t), .int (nI (cn (fun j => H s j < H t j) c)), .int (nI c)], [], (0, 0), h1)) (c2 := (39, [.ref 84, .int (nI s), .int (nI t), .int (nI (cn (fun j => H s j < H t j) c)), .int (nI c)], [], (0, 0), h1)) rfl (fun q => ?_) (fun q => ?_)
      · skip
        have q' : ¬ H s c < H t c := Int32.not_lt.mpr q
        rw [cn_f (p := fun j => H s j < H t j) q'] at ih
        refine ab_W.go (mm _) 1 (c' := (69, [.ref 84, .int (nI s), .int (nI t), .int (nI (cn (fun j => H s j < H t j) c)), .int (nI c + nI 1)], [], (0, 0), h1)) rfl ?_
        rw [nI_add c 1]
        refine ab_W.go (mm _) 1 (c' := (5, [.ref 84, .int (nI s), .int (nI t), .int (nI (cn (fun j => H s j < H t j) c)), .int (nI (c + 1))], [], (0, 0), h1)) rfl ?_
        refine ih h1 e1 ⟨g, g1, g2, fun j hj => ?_, fun j j1 j2 => g4 j (by omega) j2⟩
        rcases Nat.lt_or_ge j c with z | z
        · exact g3 j z
        · rw [show j = c by omega, g4 c (Nat.le_refl _) hc]
          exact (if_neg q').symm
      · skip
        have q' : H s c < H t c := Int32.not_le.mp q
        rw [cn_t (p := fun j => H s j < H t j) q'] at ih
        refine ab_W.go (mm _) 1 (c' := (40, [.ref 84, .int (nI s), .int (nI t), .int (nI (cn (fun j => H s j < H t j) c)), .int (nI c)], [.ref 84], (0, 0), h1)) rfl ?_
        refine ab_W.o (mm _) (h0') rfl (c' := (43, [.ref 84, .int (nI s), .int (nI t), .int (nI (cn (fun j => H s j < H t j) c)), .int (nI c)], [.ref 88], (0, 0), h1)) rfl ?_
        refine ab_W.go (mm _) 3 (c' := (47, [.ref 84, .int (nI s), .int (nI t), .int (nI (cn (fun j => H s j < H t j) c)), .int (nI c)], [.int ((nI 64) * (nI s)), .ref 88], (0, 0), h1)) rfl ?_
        refine ab_W.topi (pk_mul 64 s) ?_
        refine ab_W.go (mm _) 2 (c' := (50, [.ref 84, .int (nI s), .int (nI t), .int (nI (cn (fun j => H s j < H t j) c)), .int (nI c)], [.int ((nI (64 * s)) + (nI c)), .ref 88], (0, 0), h1)) rfl ?_
        refine ab_W.topi (nI_add (64 * s) c) ?_
        refine ab_W.go (mm _) 1 (c' := (51, [.ref 84, .int (nI s), .int (nI t), .int (nI (cn (fun j => H s j < H t j) c)), .int (nI c)], [.ref 84, .int (nI ((64 * s) + c)), .ref 88], (0, 0), h1)) rfl ?_
        refine ab_W.o (mm _) (h0') rfl (c' := (54, [.ref 84, .int (nI s), .int (nI t), .int (nI (cn (fun j => H s j < H t j) c)), .int (nI c)], [.ref 88, .int (nI ((64 * s) + c)), .ref 88], (0, 0), h1)) rfl ?_
        refine ab_W.go (mm _) 3 (c' := (58, [.ref 84, .int (nI s), .int (nI t), .int (nI (cn (fun j => H s j < H t j) c)), .int (nI c)], [.int ((nI 64) * (nI t)), .ref 88, .int (nI ((64 * s) + c)), .ref 88], (0, 0), h1)) rfl ?_
        refine ab_W.topi (pk_mul 64 t) ?_
        refine ab_W.go (mm _) 2 (c' := (61, [.ref 84, .int (nI s), .int (nI t), .int (nI (cn (fun j => H s j < H t j) c)), .int (nI c)], [.int ((nI (64 * t)) + (nI c)), .ref 88, .int (nI ((64 * s) + c)), .ref 88], (0, 0), h1)) rfl ?_
        refine ab_W.topi (nI_add (64 * t) c) ?_
        refine ab_W.iald (mm _) (j := 64 * t + c) (g1) (by simp only [nI_add, pk_mul]) (by omega) rfl rfl ?_
        show ab_W _ _ _ (62, [.ref 84, .int (nI s), .int (nI t), .int (nI (cn (fun j => H s j < H t j) c)), .int (nI c)], [.int (g (64 * t + c)), .int (nI ((64 * s) + c)), .ref 88], (0, 0), h1)
        refine ab_W.topi (g2 t c ht' hc (fun z => hst z.symm)) ?_
        refine ab_W.iast (mm _) (j := 64 * s + c) (g1) (by simp only [nI_add, pk_mul]) (by omega) rfl rfl ?_
        show ab_W _ _ _ (63, [.ref 84, .int (nI s), .int (nI t), .int (nI (cn (fun j => H s j < H t j) c)), .int (nI c)], [], (0, 0), h1.set 88 (.inl (0, 64 * 12, .inl (upd g (64 * s + c) (H t c)))))
        refine ab_W.go (mm _) 1 (c' := (66, [.ref 84, .int (nI s), .int (nI t), .int (nI (cn (fun j => H s j < H t j) c) + nI 1), .int (nI c)], [], (0, 0), h1.set 88 (.inl (0, 64 * 12, .inl (upd g (64 * s + c) (H t c)))))) rfl ?_
        rw [nI_add (cn (fun j => H s j < H t j) c) 1]
        refine ab_W.go (mm _) 1 (c' := (69, [.ref 84, .int (nI s), .int (nI t), .int (nI ((cn (fun j => H s j < H t j) c) + 1)), .int (nI c + nI 1)], [], (0, 0), h1.set 88 (.inl (0, 64 * 12, .inl (upd g (64 * s + c) (H t c)))))) rfl ?_
        rw [nI_add c 1]
        refine ab_W.go (mm _) 1 (c' := (5, [.ref 84, .int (nI s), .int (nI t), .int (nI ((cn (fun j => H s j < H t j) c) + 1)), .int (nI (c + 1))], [], (0, 0), h1.set 88 (.inl (0, 64 * 12, .inl (upd g (64 * s + c) (H t c)))))) rfl ?_
        refine ih _ (fun i hi => (set_ne (fun z => hi z.symm)).trans (e1 i hi)) ⟨_, set_at g1, fun v j hv hj hvs => ?_, fun j hj => ?_, fun j j1 j2 => ?_⟩
        · rw [upd_no _ _ (by omega)]
          exact g2 v j hv hj hvs
        · rcases Nat.lt_or_ge j c with z | z
          · rw [upd_no _ _ (by omega)]
            exact g3 j z
          · rw [show j = c by omega, upd_at]
            exact (if_pos q').symm
        · rw [upd_no _ _ (by omega)]
          exact g4 j (by omega) j2
  obtain ⟨g, g1, g2⟩ := hH
  refine ⟨rfl, ?_⟩
  show ab_W _ _ _ (0, [.ref 84, .int (nI s), .int (nI t), .retAddr 0, .retAddr 0], [], (0, 0), h)
  refine ab_W.go (mm _) 4 (c' := (5, [.ref 84, .int (nI s), .int (nI t), .int (nI 0), .int (nI 0)], [], (0, 0), h)) rfl ?_
  exact loop 0 (Nat.zero_le _) h (fun _ _ => rfl) ⟨g, g1, fun v j hv hj _ => g2 v j hv hj, fun j hj => absurd hj (Nat.not_lt_zero _), fun j _ hj => g2 s j hs hj⟩
theorem sp_morder (d : Nat) {h : ab_H} {hap sz op : Int32} {H : Nat → Nat → Int32} {s t : Nat} (h0 : h[84]? = some (mObj hap sz op)) (hH : arrH h 88 12 H) (hs : s < 12) (ht' : t < 12) {post : ab_P} (hp : post (some (.int (nI (ordN (H s) (H t))))) h) : mCC (d + 1) kSpanStampsModel_orderOf [.ref 84, .int (nI s), .int (nI t)] h post := by
  obtain ⟨g, g1, g2⟩ := hH
  have loop : ∀ c, c ≤ 64 → ∀ L G : Bool, (L = true ↔ ∃ j, j < c ∧ H s j < H t j) → (G = true ↔ ∃ j, j < c ∧ H t j < H s j) → ab_W (ab_st (mT kSpanStampsModel_orderOf) mB mF (mR kSpanStampsModel_orderOf) none) (mCC d) post (8, [.ref 84, .int (nI s), .int (nI t), .int (b2i L), .int (b2i G), .int (nI c)], [], (0, 0), h) := by
    refine down 64 ?_ ?_
    · intro L G hL hG
      refine ab_W.go (mm _) 2 (c' := (12, [.ref 84, .int (nI s), .int (nI t), .int (b2i L), .int (b2i G), .int (nI 64)], [.int (nI 64), .int (nI 64)], (0, 0), h)) rfl ?_
      refine ab_W.itT (mm _) (p := (nI 64) ≤ (nI 64)) (c1 := (97, [.ref 84, .int (nI s), .int (nI t), .int (b2i L), .int (b2i G), .int (nI 64)], [], (0, 0), h)) (c2 := (15, [.ref 84, .int (nI s), .int (nI t), .int (b2i L), .int (b2i G), .int (nI 64)], [], (0, 0), h)) rfl ((by decide)) ?_
      refine ab_W.go (mm _) 1 (c' := (98, [.ref 84, .int (nI s), .int (nI t), .int (b2i L), .int (b2i G), .int (nI 64)], [.int (b2i L)], (0, 0), h)) rfl ?_
      unfold ordN at hp
      cases L with
      | false =>
        rw [ci_f (fun z => by have := hL.mpr z; cases this)] at hp
        show ab_W _ _ _ (98, [.ref 84, .int (nI s), .int (nI t), .int (nI 0), .int (b2i G), .int (nI 64)], [.int (nI 0)], (0, 0), h)
        refine ab_W.itT (mm _) (p := (nI 0) = 0) (c1 := (114, [.ref 84, .int (nI s), .int (nI t), .int (nI 0), .int (b2i G), .int (nI 64)], [], (0, 0), h)) (c2 := (101, [.ref 84, .int (nI s), .int (nI t), .int (nI 0), .int (b2i G), .int (nI 64)], [], (0, 0), h)) rfl (nI_0) ?_
        refine ab_W.go (mm _) 1 (c' := (116, [.ref 84, .int (nI s), .int (nI t), .int (nI 0), .int (b2i G), .int (nI 64)], [.int (b2i G)], (0, 0), h)) rfl ?_
        cases G with
        | false =>
          rw [ci_f (fun z => by have := hG.mpr z; cases this)] at hp
          show ab_W _ _ _ (116, [.ref 84, .int (nI s), .int (nI t), .int (nI 0), .int (nI 0), .int (nI 64)], [.int (nI 0)], (0, 0), h)
          refine ab_W.itT (mm _) (p := (nI 0) = 0) (c1 := (123, [.ref 84, .int (nI s), .int (nI t), .int (nI 0), .int (nI 0), .int (nI 64)], [], (0, 0), h)) (c2 := (119, [.ref 84, .int (nI s), .int (nI t), .int (nI 0), .int (nI 0), .int (nI 64)], [], (0, 0), h)) rfl (nI_0) ?_
          refine ab_W.go (mm _) 1 (c' := (124, [.ref 84, .int (nI s), .int (nI t), .int (nI 0), .int (nI 0), .int (nI 64)], [.int (nI 0)], (0, 0), h)) rfl ?_
          refine ab_W.retI (mm _) (rt := some .int) (v := nI 0) rfl rfl ?_
          exact hp
        | true =>
          rw [ci_t (hG.mp rfl)] at hp
          show ab_W _ _ _ (116, [.ref 84, .int (nI s), .int (nI t), .int (nI 0), .int (nI 1), .int (nI 64)], [.int (nI 1)], (0, 0), h)
          refine ab_W.itF (mm _) (p := (nI 1) = 0) (c1 := (123, [.ref 84, .int (nI s), .int (nI t), .int (nI 0), .int (nI 1), .int (nI 64)], [], (0, 0), h)) (c2 := (119, [.ref 84, .int (nI s), .int (nI t), .int (nI 0), .int (nI 1), .int (nI 64)], [], (0, 0), h)) rfl (nI_ne01) ?_
          refine ab_W.go (mm _) 2 (c' := (124, [.ref 84, .int (nI s), .int (nI t), .int (nI 0), .int (nI 1), .int (nI 64)], [.int (nI 2)], (0, 0), h)) rfl ?_
          refine ab_W.retI (mm _) (rt := some .int) (v := nI 2) rfl rfl ?_
          exact hp
      | true =>
        rw [ci_t (hL.mp rfl)] at hp
        show ab_W _ _ _ (98, [.ref 84, .int (nI s), .int (nI t), .int (nI 1), .int (b2i G), .int (nI 64)], [.int (nI 1)], (0, 0), h)
        refine ab_W.itF (mm _) (p := (nI 1) = 0) (c1 := (114, [.ref 84, .int (nI s), .int (nI t), .int (nI 1), .int (b2i G), .int (nI 64)], [], (0, 0), h)) (c2 := (101, [.ref 84, .int (nI s), .int (nI t), .int (nI 1), .int (b2i G), .int (nI 64)], [], (0, 0), h)) rfl (nI_ne01) ?_
        refine ab_W.go (mm _) 1 (c' := (103, [.ref 84, .int (nI s), .int (nI t), .int (nI 1), .int (b2i G), .int (nI 64)], [.int (b2i G)], (0, 0), h)) rfl ?_
        cases G with
        | false =>
          rw [ci_f (fun z => by have := hG.mpr z; cases this)] at hp
          show ab_W _ _ _ (103, [.ref 84, .int (nI s), .int (nI t), .int (nI 1), .int (nI 0), .int (nI 64)], [.int (nI 0)], (0, 0), h)
          refine ab_W.itT (mm _) (p := (nI 0) = 0) (c1 := (110, [.ref 84, .int (nI s), .int (nI t), .int (nI 1), .int (nI 0), .int (nI 64)], [], (0, 0), h)) (c2 := (106, [.ref 84, .int (nI s), .int (nI t), .int (nI 1), .int (nI 0), .int (nI 64)], [], (0, 0), h)) rfl (nI_0) ?_
          refine ab_W.go (mm _) 2 (c' := (124, [.ref 84, .int (nI s), .int (nI t), .int (nI 1), .int (nI 0), .int (nI 64)], [.int (nI 1)], (0, 0), h)) rfl ?_
          refine ab_W.retI (mm _) (rt := some .int) (v := nI 1) rfl rfl ?_
          exact hp
        | true =>
          rw [ci_t (hG.mp rfl)] at hp
          show ab_W _ _ _ (103, [.ref 84, .int (nI s), .int (nI t), .int (nI 1), .int (nI 1), .int (nI 64)], [.int (nI 1)], (0, 0), h)
          refine ab_W.itF (mm _) (p := (nI 1) = 0) (c1 := (110, [.ref 84, .int (nI s), .int (nI t), .int (nI 1), .int (nI 1), .int (nI 64)], [], (0, 0), h)) (c2 := (106, [.ref 84, .int (nI s), .int (nI t), .int (nI 1), .int (nI 1), .int (nI 64)], [], (0, 0), h)) rfl (nI_ne01) ?_
          refine ab_W.go (mm _) 2 (c' := (124, [.ref 84, .int (nI s), .int (nI t), .int (nI 1), .int (nI 1), .int (nI 64)], [.int (nI 3)], (0, 0), h)) rfl ?_
          refine ab_W.retI (mm _) (rt := some .int) (v := nI 3) rfl rfl ?_
          exact hp
    · intro c hc ih L G hL hG
      have low : ∀ D : Bool, (D = true ↔ (L = true ∨ H s c < H t c)) → ab_W (ab_st (mT kSpanStampsModel_orderOf) mB mF (mR kSpanStampsModel_orderOf) none) (mCC d) post (52, [.ref 84, .int (nI s), .int (nI t), .int (b2i D), .int (b2i G), .int (nI c)], [], (0, 0), h) := by
        intro D hD
        have hD2 := ex_s hL D hD
        refine ab_W.go (mm _) 1 (c' := (54, [.ref 84, .int (nI s), .int (nI t), .int (b2i D), .int (b2i G), .int (nI c)], [.int (b2i G)], (0, 0), h)) rfl ?_
        cases G with
        | true =>
          show ab_W _ _ _ (54, [.ref 84, .int (nI s), .int (nI t), .int (b2i D), .int (nI 1), .int (nI c)], [.int (nI 1)], (0, 0), h)
          refine ab_W.itF (mm _) (p := (nI 1) = 0) (c1 := (57, [.ref 84, .int (nI s), .int (nI t), .int (b2i D), .int (nI 1), .int (nI c)], [], (0, 0), h)) (c2 := (84, [.ref 84, .int (nI s), .int (nI t), .int (b2i D), .int (nI 1), .int (nI c)], [], (0, 0), h)) rfl (nI_ne01) ?_
          refine ab_W.go (mm _) 4 (c' := (94, [.ref 84, .int (nI s), .int (nI t), .int (b2i D), .int (nI 1), .int (nI c + nI 1)], [], (0, 0), h)) rfl ?_
          rw [nI_add c 1]
          refine ab_W.go (mm _) 1 (c' := (8, [.ref 84, .int (nI s), .int (nI t), .int (b2i D), .int (nI 1), .int (nI (c + 1))], [], (0, 0), h)) rfl ?_
          exact ih D true hD2 (ex_s hG true ⟨fun _ => Or.inl rfl, fun _ => rfl⟩)
        | false =>
          show ab_W _ _ _ (54, [.ref 84, .int (nI s), .int (nI t), .int (b2i D), .int (nI 0), .int (nI c)], [.int (nI 0)], (0, 0), h)
          refine ab_W.itT (mm _) (p := (nI 0) = 0) (c1 := (57, [.ref 84, .int (nI s), .int (nI t), .int (b2i D), .int (nI 0), .int (nI c)], [], (0, 0), h)) (c2 := (84, [.ref 84, .int (nI s), .int (nI t), .int (b2i D), .int (nI 0), .int (nI c)], [], (0, 0), h)) rfl (nI_0) ?_
          refine ab_W.go (mm _) 1 (c' := (58, [.ref 84, .int (nI s), .int (nI t), .int (b2i D), .int (nI 0), .int (nI c)], [.ref 84], (0, 0), h)) rfl ?_
          refine ab_W.o (mm _) (h0) rfl (c' := (61, [.ref 84, .int (nI s), .int (nI t), .int (b2i D), .int (nI 0), .int (nI c)], [.ref 88], (0, 0), h)) rfl ?_
          refine ab_W.go (mm _) 3 (c' := (65, [.ref 84, .int (nI s), .int (nI t), .int (b2i D), .int (nI 0), .int (nI c)], [.int ((nI 64) * (nI s)), .ref 88], (0, 0), h)) rfl ?_
          refine ab_W.topi (pk_mul 64 s) ?_
          refine ab_W.go (mm _) 2 (c' := (68, [.ref 84, .int (nI s), .int (nI t), .int (b2i D), .int (nI 0), .int (nI c)], [.int ((nI (64 * s)) + (nI c)), .ref 88], (0, 0), h)) rfl ?_
          refine ab_W.topi (nI_add (64 * s) c) ?_
          refine ab_W.iald (mm _) (j := 64 * s + c) (g1) (by simp only [nI_add, pk_mul]) (by omega) rfl rfl ?_
          show ab_W _ _ _ (69, [.ref 84, .int (nI s), .int (nI t), .int (b2i D), .int (nI 0), .int (nI c)], [.int (g (64 * s + c))], (0, 0), h)
          refine ab_W.topi (g2 s c hs hc) ?_
          refine ab_W.go (mm _) 1 (c' := (70, [.ref 84, .int (nI s), .int (nI t), .int (b2i D), .int (nI 0), .int (nI c)], [.ref 84, .int (H s c)], (0, 0), h)) rfl ?_
          refine ab_W.o (mm _) (h0) rfl (c' := (73, [.ref 84, .int (nI s), .int (nI t), .int (b2i D), .int (nI 0), .int (nI c)], [.ref 88, .int (H s c)], (0, 0), h)) rfl ?_
          refine ab_W.go (mm _) 3 (c' := (77, [.ref 84, .int (nI s), .int (nI t), .int (b2i D), .int (nI 0), .int (nI c)], [.int ((nI 64) * (nI t)), .ref 88, .int (H s c)], (0, 0), h)) rfl ?_
          refine ab_W.topi (pk_mul 64 t) ?_
          refine ab_W.go (mm _) 2 (c' := (80, [.ref 84, .int (nI s), .int (nI t), .int (b2i D), .int (nI 0), .int (nI c)], [.int ((nI (64 * t)) + (nI c)), .ref 88, .int (H s c)], (0, 0), h)) rfl ?_
          refine ab_W.topi (nI_add (64 * t) c) ?_
          refine ab_W.iald (mm _) (j := 64 * t + c) (g1) (by simp only [nI_add, pk_mul]) (by omega) rfl rfl ?_
          show ab_W _ _ _ (81, [.ref 84, .int (nI s), .int (nI t), .int (b2i D), .int (nI 0), .int (nI c)], [.int (g (64 * t + c)), .int (H s c)], (0, 0), h)
          refine ab_W.topi (g2 t c ht' hc) ?_
          refine ab_W.ite (mm _) (p := (H s c) ≤ (H t c)) (c1 := (88, [.ref 84, .int (nI s), .int (nI t), .int (b2i D), .int (nI 0), .int (nI c)], [], (0, 0), h)) (c2 := (84, [.ref 84, .int (nI s), .int (nI t), .int (b2i D), .int (nI 0), .int (nI c)], [], (0, 0), h)) rfl (fun q => ?_) (fun q => ?_)
          · skip
            refine ab_W.go (mm _) 3 (c' := (94, [.ref 84, .int (nI s), .int (nI t), .int (b2i D), .int (nI 0), .int (nI c + nI 1)], [], (0, 0), h)) rfl ?_
            rw [nI_add c 1]
            refine ab_W.go (mm _) 1 (c' := (8, [.ref 84, .int (nI s), .int (nI t), .int (b2i D), .int (nI 0), .int (nI (c + 1))], [], (0, 0), h)) rfl ?_
            exact ih D false hD2 (ex_s hG false ⟨fun z => (by cases z), fun z => z.elim (fun y => by cases y) (fun y => absurd y (Int32.not_lt.mpr q))⟩)
          · skip
            refine ab_W.go (mm _) 4 (c' := (94, [.ref 84, .int (nI s), .int (nI t), .int (b2i D), .int (nI 1), .int (nI c + nI 1)], [], (0, 0), h)) rfl ?_
            rw [nI_add c 1]
            refine ab_W.go (mm _) 1 (c' := (8, [.ref 84, .int (nI s), .int (nI t), .int (b2i D), .int (nI 1), .int (nI (c + 1))], [], (0, 0), h)) rfl ?_
            exact ih D true hD2 (ex_s hG true ⟨fun _ => Or.inr (Int32.not_le.mp q), fun _ => rfl⟩)
      refine ab_W.go (mm _) 2 (c' := (12, [.ref 84, .int (nI s), .int (nI t), .int (b2i L), .int (b2i G), .int (nI c)], [.int (nI 64), .int (nI c)], (0, 0), h)) rfl ?_
      refine ab_W.itF (mm _) (p := (nI 64) ≤ (nI c)) (c1 := (97, [.ref 84, .int (nI s), .int (nI t), .int (b2i L), .int (b2i G), .int (nI c)], [], (0, 0), h)) (c2 := (15, [.ref 84, .int (nI s), .int (nI t), .int (b2i L), .int (b2i G), .int (nI c)], [], (0, 0), h)) rfl (fun z => absurd ((nI_leI (by omega) (by omega)).mp z) (by omega)) ?_
      refine ab_W.go (mm _) 1 (c' := (16, [.ref 84, .int (nI s), .int (nI t), .int (b2i L), .int (b2i G), .int (nI c)], [.int (b2i L)], (0, 0), h)) rfl ?_
      cases L with
      | true =>
        show ab_W _ _ _ (16, [.ref 84, .int (nI s), .int (nI t), .int (nI 1), .int (b2i G), .int (nI c)], [.int (nI 1)], (0, 0), h)
        refine ab_W.itF (mm _) (p := (nI 1) = 0) (c1 := (19, [.ref 84, .int (nI s), .int (nI t), .int (nI 1), .int (b2i G), .int (nI c)], [], (0, 0), h)) (c2 := (46, [.ref 84, .int (nI s), .int (nI t), .int (nI 1), .int (b2i G), .int (nI c)], [], (0, 0), h)) rfl (nI_ne01) ?_
        refine ab_W.go (mm _) 3 (c' := (52, [.ref 84, .int (nI s), .int (nI t), .int (nI 1), .int (b2i G), .int (nI c)], [], (0, 0), h)) rfl ?_
        exact low true ⟨fun _ => Or.inl rfl, fun _ => rfl⟩
      | false =>
        show ab_W _ _ _ (16, [.ref 84, .int (nI s), .int (nI t), .int (nI 0), .int (b2i G), .int (nI c)], [.int (nI 0)], (0, 0), h)
        refine ab_W.itT (mm _) (p := (nI 0) = 0) (c1 := (19, [.ref 84, .int (nI s), .int (nI t), .int (nI 0), .int (b2i G), .int (nI c)], [], (0, 0), h)) (c2 := (46, [.ref 84, .int (nI s), .int (nI t), .int (nI 0), .int (b2i G), .int (nI c)], [], (0, 0), h)) rfl (nI_0) ?_
        refine ab_W.go (mm _) 1 (c' := (20, [.ref 84, .int (nI s), .int (nI t), .int (nI 0), .int (b2i G), .int (nI c)], [.ref 84], (0, 0), h)) rfl ?_
        refine ab_W.o (mm _) (h0) rfl (c' := (23, [.ref 84, .int (nI s), .int (nI t), .int (nI 0), .int (b2i G), .int (nI c)], [.ref 88], (0, 0), h)) rfl ?_
        refine ab_W.go (mm _) 3 (c' := (27, [.ref 84, .int (nI s), .int (nI t), .int (nI 0), .int (b2i G), .int (nI c)], [.int ((nI 64) * (nI s)), .ref 88], (0, 0), h)) rfl ?_
        refine ab_W.topi (pk_mul 64 s) ?_
        refine ab_W.go (mm _) 2 (c' := (30, [.ref 84, .int (nI s), .int (nI t), .int (nI 0), .int (b2i G), .int (nI c)], [.int ((nI (64 * s)) + (nI c)), .ref 88], (0, 0), h)) rfl ?_
        refine ab_W.topi (nI_add (64 * s) c) ?_
        refine ab_W.iald (mm _) (j := 64 * s + c) (g1) (by simp only [nI_add, pk_mul]) (by omega) rfl rfl ?_
        show ab_W _ _ _ (31, [.ref 84, .int (nI s), .int (nI t), .int (nI 0), .int (b2i G), .int (nI c)], [.int (g (64 * s + c))], (0, 0), h)
        refine ab_W.topi (g2 s c hs hc) ?_
        refine ab_W.go (mm _) 1 (c' := (32, [.ref 84, .int (nI s), .int (nI t), .int (nI 0), .int (b2i G), .int (nI c)], [.ref 84, .int (H s c)], (0, 0), h)) rfl ?_
        refine ab_W.o (mm _) (h0) rfl (c' := (35, [.ref 84, .int (nI s), .int (nI t), .int (nI 0), .int (b2i G), .int (nI c)], [.ref 88, .int (H s c)], (0, 0), h)) rfl ?_
        refine ab_W.go (mm _) 3 (c' := (39, [.ref 84, .int (nI s), .int (nI t), .int (nI 0), .int (b2i G), .int (nI c)], [.int ((nI 64) * (nI t)), .ref 88, .int (H s c)], (0, 0), h)) rfl ?_
        refine ab_W.topi (pk_mul 64 t) ?_
        refine ab_W.go (mm _) 2 (c' := (42, [.ref 84, .int (nI s), .int (nI t), .int (nI 0), .int (b2i G), .int (nI c)], [.int ((nI (64 * t)) + (nI c)), .ref 88, .int (H s c)], (0, 0), h)) rfl ?_
        refine ab_W.topi (nI_add (64 * t) c) ?_
        refine ab_W.iald (mm _) (j := 64 * t + c) (g1) (by simp only [nI_add, pk_mul]) (by omega) rfl rfl ?_
        show ab_W _ _ _ (43, [.ref 84, .int (nI s), .int (nI t), .int (nI 0), .int (b2i G), .int (nI c)], [.int (g (64 * t + c)), .int (H s c)], (0, 0), h)
        refine ab_W.topi (g2 t c ht' hc) ?_
        refine ab_W.ite (mm _) (p := (H t c) ≤ (H s c)) (c1 := (50, [.ref 84, .int (nI s), .int (nI t), .int (nI 0), .int (b2i G), .int (nI c)], [], (0, 0), h)) (c2 := (46, [.ref 84, .int (nI s), .int (nI t), .int (nI 0), .int (b2i G), .int (nI c)], [], (0, 0), h)) rfl (fun q => ?_) (fun q => ?_)
        · skip
          refine ab_W.go (mm _) 2 (c' := (52, [.ref 84, .int (nI s), .int (nI t), .int (nI 0), .int (b2i G), .int (nI c)], [], (0, 0), h)) rfl ?_
          exact low false ⟨fun z => (by cases z), fun z => z.elim (fun y => by cases y) (fun y => absurd y (Int32.not_lt.mpr q))⟩
        · skip
          refine ab_W.go (mm _) 3 (c' := (52, [.ref 84, .int (nI s), .int (nI t), .int (nI 1), .int (b2i G), .int (nI c)], [], (0, 0), h)) rfl ?_
          exact low true ⟨fun _ => Or.inr (Int32.not_le.mp q), fun _ => rfl⟩
  refine ⟨rfl, ?_⟩
  show ab_W _ _ _ (0, [.ref 84, .int (nI s), .int (nI t), .retAddr 0, .retAddr 0, .retAddr 0], [], (0, 0), h)
  refine ab_W.go (mm _) 6 (c' := (8, [.ref 84, .int (nI s), .int (nI t), .int (nI 0), .int (nI 0), .int (nI 0)], [], (0, 0), h)) rfl ?_
  exact loop 0 (Nat.zero_le _) false false ⟨fun z => (by cases z), fun ⟨j, z, _⟩ => absurd z (Nat.not_lt_zero _)⟩ ⟨fun z => (by cases z), fun ⟨j, z, _⟩ => absurd z (Nat.not_lt_zero _)⟩
theorem sp_madd (d : Nat) {h : ab_H} {hap sz op : Int32} {c : Ci} {s t : Nat} (h0 : h[84]? = some (mObj hap sz op)) (hB : arrB h 85 12 (pr c)) (hN : arrL h 86 12 (nm c)) (hK : arrL h 87 12 (kn c)) (hH : arrH h 88 12 (ht c)) (hs : s < 12) (hx : pr c s = true) (hf : free1 c t) {post : ab_P} (hp : ∀ h', arrB h' 85 12 (va_up (pr c) t true) → arrL h' 86 12 (va_up (nm c) t (lN 0)) → arrL h' 87 12 (va_up (kn c) t (kn c s)) → arrH h' 88 12 (va_up (ht c) t (ht c s)) → (∀ i, i < 85 ∨ 88 < i → h'[i]? = h[i]?) → post (some (.int (nI t))) h') : mCC (d + 2) kSpanStampsModel_add [.ref 84, .int (nI s)] h post := by
  have hne : s ≠ t := fun z => by rw [z, hf.2.1] at hx; cases hx
  obtain ⟨gB, b1, b2⟩ := id hB
  obtain ⟨gN, n1, n2⟩ := id hN
  obtain ⟨gK, k1, k2⟩ := id hK
  have ht' := hf.1
  refine ⟨rfl, ?_⟩
  show ab_W _ _ _ (0, [.ref 84, .int (nI s), .retAddr 0], [], (0, 0), h)
  refine ab_W.go (mm _) 1 (c' := (1, [.ref 84, .int (nI s), .retAddr 0], [.ref 84], (0, 0), h)) rfl ?_
  refine ab_W.callV (mm _) (h0) rfl (k := 69) (av := [.ref 84]) (c' := (4, [.ref 84, .int (nI s), .retAddr 0], [], (0, 0), h)) rfl ?_
  refine sp_mfree _ h0 hB (fun v hv => ?_)
  have ev : v = nI t := by
    rcases hv with ⟨t', f', rfl⟩ | ⟨al, -⟩
    · rw [free1_one f' hf]
    · have := al t hf.1
      rw [hf.2.1] at this
      cases this
  subst ev
  show ab_W _ _ _ (4, [.ref 84, .int (nI s), .retAddr 0], [.int (nI t)], (0, 0), h)
  refine ab_W.go (mm _) 2 (c' := (6, [.ref 84, .int (nI s), .int (nI t)], [.int (nI t)], (0, 0), h)) rfl ?_
  refine ab_W.itF (mm _) (p := (nI t) < 0) (c1 := (41, [.ref 84, .int (nI s), .int (nI t)], [], (0, 0), h)) (c2 := (9, [.ref 84, .int (nI s), .int (nI t)], [], (0, 0), h)) rfl (nI_pos (by omega)) ?_
  refine ab_W.go (mm _) 1 (c' := (10, [.ref 84, .int (nI s), .int (nI t)], [.ref 84], (0, 0), h)) rfl ?_
  refine ab_W.o (mm _) (h0) rfl (c' := (13, [.ref 84, .int (nI s), .int (nI t)], [.ref 85], (0, 0), h)) rfl ?_
  refine ab_W.go (mm _) 2 (c' := (15, [.ref 84, .int (nI s), .int (nI t)], [.int (nI 1), .int (nI t), .ref 85], (0, 0), h)) rfl ?_
  refine ab_W.bast (mm _) (j := t) (b1) rfl (by omega) rfl (by decide) rfl ?_
  show ab_W _ _ _ (16, [.ref 84, .int (nI s), .int (nI t)], [], (0, 0), h.set 85 (.inl (2, 12, .inl (upd gB t (nI 1)))))
  obtain ⟨h1, e1⟩ : ∃ h1, h1 = h.set 85 (.inl (2, 12, .inl (upd gB t (nI 1)))) := ⟨_, rfl⟩
  have q1 : ∀ i, i ≠ 85 → h1[i]? = h[i]? := fun i hi => by rw [e1]; exact set_ne (fun z => hi z.symm)
  have B1 : arrB h1 85 12 (va_up (pr c) t true) := by rw [e1]; exact arrB.put (v := true) b1 b2
  refine ab_W.hp (e1.symm) ?_
  show ab_W _ _ _ (16, [.ref 84, .int (nI s), .int (nI t)], [], (0, 0), h1)
  refine ab_W.go (mm _) 1 (c' := (17, [.ref 84, .int (nI s), .int (nI t)], [.ref 84], (0, 0), h1)) rfl ?_
  refine ab_W.o (mm _) ((q1 84 (by decide)).trans h0) rfl (c' := (20, [.ref 84, .int (nI s), .int (nI t)], [.ref 86], (0, 0), h1)) rfl ?_
  refine ab_W.go (mm _) 2 (c' := (22, [.ref 84, .int (nI s), .int (nI t)], [.long (lN 0), .int (nI t), .ref 86], (0, 0), h1)) rfl ?_
  refine ab_W.last (mm _) (j := t) ((q1 86 (by decide)).trans n1) rfl (by omega) rfl rfl ?_
  show ab_W _ _ _ (23, [.ref 84, .int (nI s), .int (nI t)], [], (0, 0), h1.set 86 (.inl (1, 12, .inr (.inl (vp_updL gN t (lN 0))))))
  obtain ⟨h2, e2⟩ : ∃ h2, h2 = h1.set 86 (.inl (1, 12, .inr (.inl (vp_updL gN t (lN 0))))) := ⟨_, rfl⟩
  have q2 : ∀ i, i ≠ 86 → h2[i]? = h1[i]? := fun i hi => by rw [e2]; exact set_ne (fun z => hi z.symm)
  have N2 : arrL h2 86 12 (va_up (nm c) t (lN 0)) := by rw [e2]; exact arrL.put ((q1 86 (by decide)).trans n1) n2
  have r2 : ∀ i, i ≠ 85 → i ≠ 86 → h2[i]? = h[i]? := fun i i1 i2 => (q2 i i2).trans (q1 i i1)
  refine ab_W.hp (e2.symm) ?_
  show ab_W _ _ _ (23, [.ref 84, .int (nI s), .int (nI t)], [], (0, 0), h2)
  refine ab_W.go (mm _) 1 (c' := (24, [.ref 84, .int (nI s), .int (nI t)], [.ref 84], (0, 0), h2)) rfl ?_
  refine ab_W.o (mm _) ((r2 84 (by decide) (by decide)).trans h0) rfl (c' := (27, [.ref 84, .int (nI s), .int (nI t)], [.ref 87], (0, 0), h2)) rfl ?_
  refine ab_W.go (mm _) 2 (c' := (29, [.ref 84, .int (nI s), .int (nI t)], [.ref 84, .int (nI t), .ref 87], (0, 0), h2)) rfl ?_
  refine ab_W.o (mm _) ((r2 84 (by decide) (by decide)).trans h0) rfl (c' := (32, [.ref 84, .int (nI s), .int (nI t)], [.ref 87, .int (nI t), .ref 87], (0, 0), h2)) rfl ?_
  refine ab_W.go (mm _) 1 (c' := (33, [.ref 84, .int (nI s), .int (nI t)], [.int (nI s), .ref 87, .int (nI t), .ref 87], (0, 0), h2)) rfl ?_
  refine ab_W.lald (mm _) (j := s) ((r2 87 (by decide) (by decide)).trans k1) rfl (by omega) rfl rfl ?_
  show ab_W _ _ _ (34, [.ref 84, .int (nI s), .int (nI t)], [.long (gK s), .int (nI t), .ref 87], (0, 0), h2)
  refine ab_W.topl (k2 s hs) ?_
  refine ab_W.last (mm _) (j := t) ((r2 87 (by decide) (by decide)).trans k1) rfl (by omega) rfl rfl ?_
  show ab_W _ _ _ (35, [.ref 84, .int (nI s), .int (nI t)], [], (0, 0), h2.set 87 (.inl (1, 12, .inr (.inl (vp_updL gK t (kn c s))))))
  obtain ⟨h3, e3⟩ : ∃ h3, h3 = h2.set 87 (.inl (1, 12, .inr (.inl (vp_updL gK t (kn c s))))) := ⟨_, rfl⟩
  have q3 : ∀ i, i ≠ 87 → h3[i]? = h2[i]? := fun i hi => by rw [e3]; exact set_ne (fun z => hi z.symm)
  have K3 : arrL h3 87 12 (va_up (kn c) t (kn c s)) := by rw [e3]; exact arrL.put ((r2 87 (by decide) (by decide)).trans k1) k2
  refine ab_W.hp (e3.symm) ?_
  show ab_W _ _ _ (35, [.ref 84, .int (nI s), .int (nI t)], [], (0, 0), h3)
  have r3 : ∀ i, i ≠ 85 → i ≠ 86 → i ≠ 87 → h3[i]? = h[i]? := fun i i1 i2 i3 => (q3 i i3).trans (r2 i i1 i2)
  have h03 := (r3 84 (by decide) (by decide) (by decide)).trans h0
  refine ab_W.go (mm _) 3 (c' := (38, [.ref 84, .int (nI s), .int (nI t)], [.int (nI t), .int (nI s), .ref 84], (0, 0), h3)) rfl ?_
  refine ab_W.callV (mm _) (h03) rfl (k := 76) (av := [.ref 84, .int (nI s), .int (nI t)]) (c' := (41, [.ref 84, .int (nI s), .int (nI t)], [], (0, 0), h3)) rfl ?_
  refine sp_mcopy _ h03 (hH.kept (r3 88 (by decide) (by decide) (by decide))) hs ht' hne (fun h4 H4 q4 => ?_)
  show ab_W _ _ _ (41, [.ref 84, .int (nI s), .int (nI t)], [], (0, 0), h4)
  refine ab_W.go (mm _) 1 (c' := (42, [.ref 84, .int (nI s), .int (nI t)], [.int (nI t)], (0, 0), h4)) rfl ?_
  refine ab_W.retI (mm _) (rt := some .int) (v := nI t) rfl rfl ?_
  exact hp _ ((B1.kept ((q3 85 (by decide)).trans (q2 85 (by decide)))).kept (q4 85 (by decide))) ((N2.kept (q3 86 (by decide))).kept (q4 86 (by decide))) (K3.kept (q4 87 (by decide))) H4 (fun i hi => (q4 i (by omega)).trans (r3 i (by omega) (by omega) (by omega)))
theorem sp_maddN (d : Nat) {h : ab_H} {hap sz op x : Int32} {c : Ci} (h0 : h[84]? = some (mObj hap sz op)) (hB : arrB h 85 12 (pr c)) (hf : ∀ s, s < 12 → pr c s = true) {post : ab_P} (hp : post (some (.int (-(nI 6)))) h) : mCC (d + 2) kSpanStampsModel_add [.ref 84, .int x] h post := by
  refine ⟨rfl, ?_⟩
  show ab_W _ _ _ (0, [.ref 84, .int x, .retAddr 0], [], (0, 0), h)
  refine ab_W.go (mm _) 1 (c' := (1, [.ref 84, .int x, .retAddr 0], [.ref 84], (0, 0), h)) rfl ?_
  refine ab_W.callV (mm _) (h0) rfl (k := 69) (av := [.ref 84]) (c' := (4, [.ref 84, .int x, .retAddr 0], [], (0, 0), h)) rfl ?_
  refine sp_mfree _ h0 hB (fun v hv => ?_)
  have ev : v = -(nI 6) := by
    rcases hv with ⟨t', f', rfl⟩ | ⟨-, e⟩
    · have := hf t' f'.1
      rw [f'.2.1] at this
      cases this
    · exact e
  subst ev
  show ab_W _ _ _ (4, [.ref 84, .int x, .retAddr 0], [.int (-(nI 6))], (0, 0), h)
  refine ab_W.go (mm _) 2 (c' := (6, [.ref 84, .int x, .int (-(nI 6))], [.int (-(nI 6))], (0, 0), h)) rfl ?_
  refine ab_W.itT (mm _) (p := (-(nI 6)) < 0) (c1 := (41, [.ref 84, .int x, .int (-(nI 6))], [], (0, 0), h)) (c2 := (9, [.ref 84, .int x, .int (-(nI 6))], [], (0, 0), h)) rfl ((by decide)) ?_
  refine ab_W.go (mm _) 1 (c' := (42, [.ref 84, .int x, .int (-(nI 6))], [.int (-(nI 6))], (0, 0), h)) rfl ?_
  refine ab_W.retI (mm _) (rt := some .int) (v := -(nI 6)) rfl rfl ?_
  exact hp
end
