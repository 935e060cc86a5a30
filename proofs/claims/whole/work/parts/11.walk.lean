/-! rows for walking a method's code on the abstract machine -/
theorem mm (d : Nat) : ab_mono (mCC d) := ab_CC.mono mT mB mF mR mL d
section ABW
variable {F : ab_S → ab_R} {C : ab_C} {post : ab_P} {c : ab_S}
theorem ab_W.itT (hC : ab_mono C) {c1 c2 : ab_S} {p : Prop} [Decidable p] (e : F c = if p then some (.inl c1) else some (.inl c2)) (hp : p) (w1 : ab_W F C post c1) : ab_W F C post c := ab_W.ite hC e (fun _ => w1) (fun q => absurd hp q)
theorem ab_W.itF (hC : ab_mono C) {c1 c2 : ab_S} {p : Prop} [Decidable p] (e : F c = if p then some (.inl c1) else some (.inl c2)) (hp : ¬ p) (w1 : ab_W F C post c2) : ab_W F C post c := ab_W.ite hC e (fun q => absurd q hp) (fun _ => w1)
theorem ab_W.topi {pc : Nat} {lv st : List Value} {b : Nat × Nat} {h : ab_H} {x y : Int32} (e : x = y) (w : ab_W F C post (pc, lv, .int y :: st, b, h)) : ab_W F C post (pc, lv, .int x :: st, b, h) := by rw [e]; exact w
theorem ab_W.topl {pc : Nat} {lv st : List Value} {b : Nat × Nat} {h : ab_H} {x y : Int64} (e : x = y) (w : ab_W F C post (pc, lv, .long y :: st, b, h)) : ab_W F C post (pc, lv, .long x :: st, b, h) := by rw [e]; exact w
theorem ab_W.hp {pc : Nat} {lv st : List Value} {b : Nat × Nat} {h h' : ab_H} (e : h = h') (w : ab_W F C post (pc, lv, st, b, h')) : ab_W F C post (pc, lv, st, b, h) := by rw [e]; exact w
theorem ab_W.o (hC : ab_mono C) {h : ab_H} {a ci : Nat} {fs : List Value} {f : Nat → List Value → ab_R} {c' : ab_S} (hh : h[a]? = some (.inr (ci, fs))) (e : F c = ab_o h a f) (e2 : f ci fs = some (.inl c')) (w : ab_W F C post c') : ab_W F C post c := by
  refine ab_W.fold hC ?_
  rw [e]
  unfold ab_o
  rw [hh]
  show ab_rs _ _ _ _ (f ci fs)
  rw [e2]
  exact w
theorem ab_in_nI {i : Int32} {j n : Nat} (hi : i = nI j) (hj : j < n) (hn : Nat.ble n 2147483647 = true) : ab_in i n = true ∧ i.toNatClampNeg = j := by
  have hn := Nat.le_of_ble_eq_true hn
  have hc : (nI j).toNatClampNeg = j := nI_clamp (by omega)
  subst hi
  refine ⟨?_, hc⟩
  unfold ab_in
  rw [hc, Bool.and_eq_true, Bool.not_eq_true', decide_eq_false_iff_not]
  exact ⟨nI_pos (by omega), Nat.ble_eq_true_of_le hj⟩
variable {h : ab_H} {a n j nx : Nat} {i : Int32} {lv r : List Value} {b : Nat × Nat}
theorem ab_W.iald (hC : ab_mono C) {g : Nat → Int32} (hh : h[a]? = some (.inl (0, n, .inl g))) (hi : i = nI j) (hj : j < n) (hn : Nat.ble n 2147483647 = true) (e : F c = ab_ai h a fun t n g => ab_gd (Nat.beq t 0 && ab_in i n) (ab_nx nx lv (.int (g i.toNatClampNeg) :: r) b h)) (w : ab_W F C post (nx, lv, .int (g j) :: r, b, h)) : ab_W F C post c := by
  obtain ⟨h1, h2⟩ := ab_in_nI hi hj hn
  refine ab_W.fold hC ?_
  rw [e]
  unfold ab_ai
  rw [hh]
  show ab_rs _ _ _ _ (ab_gd (true && ab_in i n) (ab_nx nx lv (.int (g i.toNatClampNeg) :: r) b h))
  rw [h1, h2]
  exact w
theorem ab_W.bald (hC : ab_mono C) {g : Nat → Int32} (hh : h[a]? = some (.inl (2, n, .inl g))) (hi : i = nI j) (hj : j < n) (hn : Nat.ble n 2147483647 = true) (e : F c = ab_ai h a fun t n g => ab_gd (Nat.beq t 2 && ab_in i n) (ab_nx nx lv (.int (g i.toNatClampNeg) :: r) b h)) (w : ab_W F C post (nx, lv, .int (g j) :: r, b, h)) : ab_W F C post c := by
  obtain ⟨h1, h2⟩ := ab_in_nI hi hj hn
  refine ab_W.fold hC ?_
  rw [e]
  unfold ab_ai
  rw [hh]
  show ab_rs _ _ _ _ (ab_gd (true && ab_in i n) (ab_nx nx lv (.int (g i.toNatClampNeg) :: r) b h))
  rw [h1, h2]
  exact w
theorem ab_W.lald (hC : ab_mono C) {g : Nat → Int64} (hh : h[a]? = some (.inl (1, n, .inr (.inl g)))) (hi : i = nI j) (hj : j < n) (hn : Nat.ble n 2147483647 = true) (e : F c = ab_al h a fun t n g => ab_gd (Nat.beq t 1 && ab_in i n) (ab_nx nx lv (.long (g i.toNatClampNeg) :: r) b h)) (w : ab_W F C post (nx, lv, .long (g j) :: r, b, h)) : ab_W F C post c := by
  obtain ⟨h1, h2⟩ := ab_in_nI hi hj hn
  refine ab_W.fold hC ?_
  rw [e]
  unfold ab_al
  rw [hh]
  show ab_rs _ _ _ _ (ab_gd (true && ab_in i n) (ab_nx nx lv (.long (g i.toNatClampNeg) :: r) b h))
  rw [h1, h2]
  exact w
theorem ab_W.aald (hC : ab_mono C) {t : Nat} {g : Nat → Option Nat} (hh : h[a]? = some (.inl (t, n, .inr (.inr (.inr (.inr g)))))) (hi : i = nI j) (hj : j < n) (hn : Nat.ble n 2147483647 = true) (ht : (Nat.beq t 3 || Nat.beq t 4) = true) (e : F c = ab_aq h a fun t n g => ab_gd ((Nat.beq t 3 || Nat.beq t 4) && ab_in i n) (ab_nx nx lv (va_rf (g i.toNatClampNeg) :: r) b h)) (w : ab_W F C post (nx, lv, va_rf (g j) :: r, b, h)) : ab_W F C post c := by
  obtain ⟨h1, h2⟩ := ab_in_nI hi hj hn
  refine ab_W.fold hC ?_
  rw [e]
  unfold ab_aq
  rw [hh]
  show ab_rs _ _ _ _ (ab_gd ((Nat.beq t 3 || Nat.beq t 4) && ab_in i n) (ab_nx nx lv (va_rf (g i.toNatClampNeg) :: r) b h))
  rw [ht, h1, h2]
  exact w
theorem ab_W.iast (hC : ab_mono C) {g : Nat → Int32} {x : Int32} (hh : h[a]? = some (.inl (0, n, .inl g))) (hi : i = nI j) (hj : j < n) (hn : Nat.ble n 2147483647 = true) (e : F c = ab_ai h a fun t n g => ab_gd (Nat.beq t 0 && ab_in i n) (ab_nx nx lv r b (h.set a (.inl (t, n, .inl (upd g i.toNatClampNeg x)))))) (w : ab_W F C post (nx, lv, r, b, h.set a (.inl (0, n, .inl (upd g j x))))) : ab_W F C post c := by
  obtain ⟨h1, h2⟩ := ab_in_nI hi hj hn
  refine ab_W.fold hC ?_
  rw [e]
  unfold ab_ai
  rw [hh]
  show ab_rs _ _ _ _ (ab_gd (true && ab_in i n) (ab_nx nx lv r b (h.set a (.inl (0, n, .inl (upd g i.toNatClampNeg x))))))
  rw [h1, h2]
  exact w
theorem ab_W.bast (hC : ab_mono C) {g : Nat → Int32} {x : Int32} (hh : h[a]? = some (.inl (2, n, .inl g))) (hi : i = nI j) (hj : j < n) (hn : Nat.ble n 2147483647 = true) (hx : (x == 0 || x == 1) = true) (e : F c = ab_ai h a fun t n g => ab_gd (Nat.beq t 2 && ((x == 0 || x == 1) && ab_in i n)) (ab_nx nx lv r b (h.set a (.inl (t, n, .inl (upd g i.toNatClampNeg x)))))) (w : ab_W F C post (nx, lv, r, b, h.set a (.inl (2, n, .inl (upd g j x))))) : ab_W F C post c := by
  obtain ⟨h1, h2⟩ := ab_in_nI hi hj hn
  refine ab_W.fold hC ?_
  rw [e]
  unfold ab_ai
  rw [hh]
  show ab_rs _ _ _ _ (ab_gd (true && ((x == 0 || x == 1) && ab_in i n)) (ab_nx nx lv r b (h.set a (.inl (2, n, .inl (upd g i.toNatClampNeg x))))))
  rw [h1, h2, hx]
  exact w
theorem ab_W.last (hC : ab_mono C) {g : Nat → Int64} {x : Int64} (hh : h[a]? = some (.inl (1, n, .inr (.inl g)))) (hi : i = nI j) (hj : j < n) (hn : Nat.ble n 2147483647 = true) (e : F c = ab_al h a fun t n g => ab_gd (Nat.beq t 1 && ab_in i n) (ab_nx nx lv r b (h.set a (.inl (t, n, .inr (.inl (vp_updL g i.toNatClampNeg x))))))) (w : ab_W F C post (nx, lv, r, b, h.set a (.inl (1, n, .inr (.inl (vp_updL g j x)))))) : ab_W F C post c := by
  obtain ⟨h1, h2⟩ := ab_in_nI hi hj hn
  refine ab_W.fold hC ?_
  rw [e]
  unfold ab_al
  rw [hh]
  show ab_rs _ _ _ _ (ab_gd (true && ab_in i n) (ab_nx nx lv r b (h.set a (.inl (1, n, .inr (.inl (vp_updL g i.toNatClampNeg x)))))))
  rw [h1, h2]
  exact w
theorem ab_W.retI (hC : ab_mono C) {rt : Option FieldType} {v : Int32} (e : F c = ab_gd (ab_nr rt v) (some (.inr (.inr (some (.int v)))))) (hb : ab_nr rt v = true) (w : post (some (.int v)) c.2.2.2.2) : ab_W F C post c := by
  refine ab_W.fold hC ?_
  rw [e, hb]
  exact w
end ABW
