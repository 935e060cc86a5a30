/-! THE REFERENCE: the row that is told -/
/-- what was told stands in cell 91 -/
def toldP (h : ab_H) (L : List Int32) : Prop := ∃ g, h[91]? = some (.inl (0, 256, .inl g)) ∧ ∀ i, i < L.length → L[i]? = some (g i)
theorem sp_mtell (d : Nat) {h : ab_H} {hap op v : Int32} {L : List Int32} (h0 : h[84]? = some (mObj hap (nI L.length) op)) (hT : toldP h L) (hL : L.length < 256) {post : ab_P} (hp : ∀ h', h'[84]? = some (mObj hap (nI (L ++ [v]).length) op) → toldP h' (L ++ [v]) → (∀ i, i ≠ 84 → i ≠ 91 → h'[i]? = h[i]?) → post none h') : mCC (d + 1) kSpanStampsModel_tell [.ref 84, .int v] h post := by
  obtain ⟨g, g1, g2⟩ := hT
  refine ⟨rfl, ?_⟩
  show ab_W _ _ _ (0, [.ref 84, .int v], [], (0, 0), h)
  refine ab_W.go (mm _) 1 (c' := (1, [.ref 84, .int v], [.ref 84], (0, 0), h)) rfl ?_
  refine ab_W.o (mm _) (h0) rfl (c' := (4, [.ref 84, .int v], [.ref 91], (0, 0), h)) rfl ?_
  refine ab_W.go (mm _) 1 (c' := (5, [.ref 84, .int v], [.ref 84, .ref 91], (0, 0), h)) rfl ?_
  refine ab_W.o (mm _) (h0) rfl (c' := (8, [.ref 84, .int v], [.int (nI L.length), .ref 91], (0, 0), h)) rfl ?_
  refine ab_W.go (mm _) 1 (c' := (9, [.ref 84, .int v], [.int v, .int (nI L.length), .ref 91], (0, 0), h)) rfl ?_
  refine ab_W.iast (mm _) (j := L.length) (g1) rfl (by omega) rfl rfl ?_
  show ab_W _ _ _ (10, [.ref 84, .int v], [], (0, 0), h.set 91 (.inl (0, 256, .inl (upd g L.length v))))
  obtain ⟨h1, e1⟩ : ∃ h1, h1 = h.set 91 (.inl (0, 256, .inl (upd g L.length v))) := ⟨_, rfl⟩
  have k1 : ∀ i, i ≠ 91 → h1[i]? = h[i]? := fun i hi => by rw [e1]; exact set_ne (fun z => hi z.symm)
  have g1' : h1[91]? = some (.inl (0, 256, .inl (upd g L.length v))) := by rw [e1]; exact set_at g1
  have h01 := (k1 84 (by decide)).trans h0
  refine ab_W.hp (e1.symm) ?_
  show ab_W _ _ _ (10, [.ref 84, .int v], [], (0, 0), h1)
  refine ab_W.go (mm _) 2 (c' := (12, [.ref 84, .int v], [.ref 84, .ref 84], (0, 0), h1)) rfl ?_
  refine ab_W.o (mm _) (h01) rfl (c' := (15, [.ref 84, .int v], [.int (nI L.length), .ref 84], (0, 0), h1)) rfl ?_
  refine ab_W.go (mm _) 2 (c' := (17, [.ref 84, .int v], [.int ((nI L.length) + (nI 1)), .ref 84], (0, 0), h1)) rfl ?_
  refine ab_W.topi (nI_add L.length 1) ?_
  refine ab_W.o (mm _) (h01) rfl (c' := (20, [.ref 84, .int v], [], (0, 0), h1.set 84 (mObj hap (nI (L.length + 1)) op))) rfl ?_
  refine ab_W.ret (mm _) (v := none) rfl ?_
  refine hp _ (by rw [List.length_append]; exact set_at h01) ⟨_, (set_ne (by decide)).trans g1', fun i hi => ?_⟩ (fun i i1 i2 => (set_ne (fun z => i1 z.symm)).trans (k1 i i2))
  rw [List.length_append] at hi
  rcases Nat.lt_or_ge i L.length with z | z
  · rw [List.getElem?_append_left z, upd_no _ _ (by omega)]
    exact g2 i z
  · have e : i = L.length := by
      have : [v].length = 1 := rfl
      omega
    subst e
    rw [List.getElem?_append_right (Nat.le_refl _), upd_at]
    simp
theorem sp_mtold (d : Nat) {h : ab_H} {hap op x : Int32} {L : List Int32} (h0 : h[84]? = some (mObj hap (nI L.length) op)) (hT : toldP h L) (hL : L.length ≤ 256) (hx : ¬ x < -(nI 1)) {post : ab_P} (hp : post (some (.int (tlF L x))) h) : mCC (d + 1) kSpanStampsModel_told [.ref 84, .int x] h post := by
  obtain ⟨g, g1, g2⟩ := hT
  unfold tlF at hp
  refine ⟨rfl, ?_⟩
  show ab_W _ _ _ (0, [.ref 84, .int x], [], (0, 0), h)
  refine ab_W.go (mm _) 2 (c' := (2, [.ref 84, .int x], [.int (-(nI 1)), .int x], (0, 0), h)) rfl ?_
  refine ab_W.ite (mm _) (p := x = (-(nI 1))) (c1 := (5, [.ref 84, .int x], [], (0, 0), h)) (c2 := (12, [.ref 84, .int x], [], (0, 0), h)) rfl (fun q => ?_) (fun q => ?_)
  · skip
    rw [if_pos q] at hp
    refine ab_W.go (mm _) 1 (c' := (6, [.ref 84, .int x], [.ref 84], (0, 0), h)) rfl ?_
    refine ab_W.o (mm _) (h0) rfl (c' := (9, [.ref 84, .int x], [.int (nI L.length)], (0, 0), h)) rfl ?_
    refine ab_W.go (mm _) 1 (c' := (31, [.ref 84, .int x], [.int (nI L.length)], (0, 0), h)) rfl ?_
    refine ab_W.retI (mm _) (rt := some .int) (v := nI L.length) rfl rfl ?_
    exact hp
  · skip
    rw [if_neg q] at hp
    have x0 : ¬ x < 0 := fun z => q (neg1 z (Int32.not_lt.mp hx))
    refine ab_W.go (mm _) 2 (c' := (14, [.ref 84, .int x], [.ref 84, .int x], (0, 0), h)) rfl ?_
    refine ab_W.o (mm _) (h0) rfl (c' := (17, [.ref 84, .int x], [.int (nI L.length), .int x], (0, 0), h)) rfl ?_
    refine ab_W.ite (mm _) (p := (nI L.length) ≤ x) (c1 := (29, [.ref 84, .int x], [], (0, 0), h)) (c2 := (20, [.ref 84, .int x], [], (0, 0), h)) rfl (fun q1 => ?_) (fun q1 => ?_)
    · skip
      rw [if_neg (fun z => absurd z.2 (Int32.not_lt.mpr q1))] at hp
      refine ab_W.go (mm _) 1 (c' := (31, [.ref 84, .int x], [.int (-(nI 6))], (0, 0), h)) rfl ?_
      refine ab_W.retI (mm _) (rt := some .int) (v := -(nI 6)) rfl rfl ?_
      exact hp
    · skip
      have q1 : x < nI L.length := Int32.not_le.mp q1
      rcases pk_ix x (n := L.length) (by omega) with y | y | ⟨j, j1, rfl⟩
      · exact absurd y x0
      · exact absurd q1 (Int32.not_lt.mpr y)
      · rw [if_pos ⟨x0, q1⟩, nI_clamp (by omega)] at hp
        have ej : L.getD j 0 = g j := by rw [List.getD_eq_getElem?_getD, g2 j j1]; rfl
        rw [ej] at hp
        refine ab_W.go (mm _) 1 (c' := (21, [.ref 84, .int (nI j)], [.ref 84], (0, 0), h)) rfl ?_
        refine ab_W.o (mm _) (h0) rfl (c' := (24, [.ref 84, .int (nI j)], [.ref 91], (0, 0), h)) rfl ?_
        refine ab_W.go (mm _) 1 (c' := (25, [.ref 84, .int (nI j)], [.int (nI j), .ref 91], (0, 0), h)) rfl ?_
        refine ab_W.iald (mm _) (j := j) (g1) rfl (by omega) rfl rfl ?_
        show ab_W _ _ _ (26, [.ref 84, .int (nI j)], [.int (g j)], (0, 0), h)
        refine ab_W.go (mm _) 1 (c' := (31, [.ref 84, .int (nI j)], [.int (g j)], (0, 0), h)) rfl ?_
        refine ab_W.retI (mm _) (rt := some .int) (v := g j) rfl rfl ?_
        exact hp
