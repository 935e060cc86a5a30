/-! the heap after the constructors -/
noncomputable def hS1 : ab_H := [.inr (4, mF 4)]
noncomputable def e1 : Option (Option Value × ab_H) := ab_ev 600 39 kSpanStamps_init (0, ab_lv (mL kSpanStamps_init) [.ref 0], [], mB kSpanStamps_init, hS1)
noncomputable def hC : ab_H := (e1.getD (none, [])).2
noncomputable def hS2 : ab_H := hC ++ [.inr (5, mF 5)]
noncomputable def e2 : Option (Option Value × ab_H) := ab_ev 600 39 kSpanStampsModel_init (0, ab_lv (mL kSpanStampsModel_init) [.ref 84], [], mB kSpanStampsModel_init, hS2)
noncomputable def hM : ab_H := (e2.getD (none, [])).2
def lvL : List Value := [.retAddr 1, .ref 0, .retAddr 0, .retAddr 0]
def ck_len (h : ab_H) (n : Nat) : Bool := Nat.beq h.length n
theorem ck_len.ok {h : ab_H} {n : Nat} (e : ck_len h n = true) : h.length = n := Nat.eq_of_beq_eq_true e
noncomputable def ck_1 : Bool := (e1.isSome && (e1.getD (none, [])).1.isNone) && (ck_len hC 84 && (ab_clo lvL [] hC && (ab_clo lvL [.ref 84] hS2 && ((e2.isSome && (e2.getD (none, [])).1.isNone) && (ck_C hM && ck_M hM)))))
theorem ck_1_ok : ck_1 = true := by decide +kernel
theorem opt_ok {α β : Type} {o : Option (Option α × β)} {d : Option α × β} (h : (o.isSome && (o.getD d).1.isNone) = true) : o = some (none, (o.getD d).2) := by
  rw [Bool.and_eq_true] at h
  cases o with
  | none => cases h.1
  | some y =>
    obtain ⟨v, b⟩ := y
    cases v with
    | none => rfl
    | some v => cases h.2
theorem start_ok : e1 = some (none, hC) ∧ hC.length = 84 ∧ ab_clo lvL [] hC = true ∧ ab_clo lvL [.ref 84] hS2 = true ∧ e2 = some (none, hM) ∧ relC hM σ0 ∧ relM hM σ0 := by
  have h := ck_1_ok
  unfold ck_1 at h
  rw [Bool.and_eq_true, Bool.and_eq_true (ck_len hC 84), Bool.and_eq_true (ab_clo lvL [] hC), Bool.and_eq_true (ab_clo lvL [.ref 84] hS2), Bool.and_eq_true (e2.isSome && _), Bool.and_eq_true (ck_C hM)] at h
  obtain ⟨h1, h2, h3, h4, h5, h6, h7⟩ := h
  exact ⟨opt_ok h1, ck_len.ok h2, h3, h4, opt_ok h5, ck_C.ok h6, ck_M.ok h7⟩
