/-! THE REFERENCE: the spans that wait -/
def waitP (h : ab_H) (S : List (Nat × Int32)) : Prop := ∃ g2 g3, h[92]? = some (.inl (0, 16, .inl g2)) ∧ h[93]? = some (.inl (0, 16, .inl g3)) ∧ ∀ i k b, S[i]? = some (k, b) → g2 i = nI k ∧ g3 i = b
theorem sp_mawait (d : Nat) {h : ab_H} {hap sz b : Int32} {k : Nat} {S : List (Nat × Int32)} (h0 : h[84]? = some (mObj hap sz (nI S.length))) (hT : waitP h S) (hL : S.length < 16) {post : ab_P} (hp : ∀ h', h'[84]? = some (mObj hap sz (nI (S ++ [(k, b)]).length)) → waitP h' (S ++ [(k, b)]) → (∀ i, i ≠ 84 → i ≠ 92 → i ≠ 93 → h'[i]? = h[i]?) → post none h') : mCC (d + 1) kSpanStampsModel_await [.ref 84, .int (nI k), .int b] h post := by
  obtain ⟨g2, g3, a2, a3, a4⟩ := hT
  refine ⟨rfl, ?_⟩
  show ab_W _ _ _ (0, [.ref 84, .int (nI k), .int b], [], (0, 0), h)
  refine ab_W.go (mm _) 1 (c' := (1, [.ref 84, .int (nI k), .int b], [.ref 84], (0, 0), h)) rfl ?_
  refine ab_W.o (mm _) (h0) rfl (c' := (4, [.ref 84, .int (nI k), .int b], [.ref 92], (0, 0), h)) rfl ?_
  refine ab_W.go (mm _) 1 (c' := (5, [.ref 84, .int (nI k), .int b], [.ref 84, .ref 92], (0, 0), h)) rfl ?_
  refine ab_W.o (mm _) (h0) rfl (c' := (8, [.ref 84, .int (nI k), .int b], [.int (nI S.length), .ref 92], (0, 0), h)) rfl ?_
  refine ab_W.go (mm _) 1 (c' := (9, [.ref 84, .int (nI k), .int b], [.int (nI k), .int (nI S.length), .ref 92], (0, 0), h)) rfl ?_
  refine ab_W.iast (mm _) (j := S.length) (a2) rfl (by omega) rfl rfl ?_
  show ab_W _ _ _ (10, [.ref 84, .int (nI k), .int b], [], (0, 0), h.set 92 (.inl (0, 16, .inl (upd g2 S.length (nI k)))))
  obtain ⟨h1, e1⟩ : ∃ h1, h1 = h.set 92 (.inl (0, 16, .inl (upd g2 S.length (nI k)))) := ⟨_, rfl⟩
  have k1 : ∀ i, i ≠ 92 → h1[i]? = h[i]? := fun i hi => by rw [e1]; exact set_ne (fun z => hi z.symm)
  have a2' : h1[92]? = some (.inl (0, 16, .inl (upd g2 S.length (nI k)))) := by rw [e1]; exact set_at a2
  have h01 := (k1 84 (by decide)).trans h0
  have a3' := (k1 93 (by decide)).trans a3
  refine ab_W.hp (e1.symm) ?_
  show ab_W _ _ _ (10, [.ref 84, .int (nI k), .int b], [], (0, 0), h1)
  refine ab_W.go (mm _) 1 (c' := (11, [.ref 84, .int (nI k), .int b], [.ref 84], (0, 0), h1)) rfl ?_
  refine ab_W.o (mm _) (h01) rfl (c' := (14, [.ref 84, .int (nI k), .int b], [.ref 93], (0, 0), h1)) rfl ?_
  refine ab_W.go (mm _) 1 (c' := (15, [.ref 84, .int (nI k), .int b], [.ref 84, .ref 93], (0, 0), h1)) rfl ?_
  refine ab_W.o (mm _) (h01) rfl (c' := (18, [.ref 84, .int (nI k), .int b], [.int (nI S.length), .ref 93], (0, 0), h1)) rfl ?_
  refine ab_W.go (mm _) 1 (c' := (19, [.ref 84, .int (nI k), .int b], [.int b, .int (nI S.length), .ref 93], (0, 0), h1)) rfl ?_
  refine ab_W.iast (mm _) (j := S.length) (a3') rfl (by omega) rfl rfl ?_
  show ab_W _ _ _ (20, [.ref 84, .int (nI k), .int b], [], (0, 0), h1.set 93 (.inl (0, 16, .inl (upd g3 S.length b))))
  obtain ⟨h2, e2⟩ : ∃ h2, h2 = h1.set 93 (.inl (0, 16, .inl (upd g3 S.length b))) := ⟨_, rfl⟩
  have k2 : ∀ i, i ≠ 93 → h2[i]? = h1[i]? := fun i hi => by rw [e2]; exact set_ne (fun z => hi z.symm)
  have a3'' : h2[93]? = some (.inl (0, 16, .inl (upd g3 S.length b))) := by rw [e2]; exact set_at a3'
  have h02 := (k2 84 (by decide)).trans h01
  refine ab_W.hp (e2.symm) ?_
  show ab_W _ _ _ (20, [.ref 84, .int (nI k), .int b], [], (0, 0), h2)
  refine ab_W.go (mm _) 2 (c' := (22, [.ref 84, .int (nI k), .int b], [.ref 84, .ref 84], (0, 0), h2)) rfl ?_
  refine ab_W.o (mm _) (h02) rfl (c' := (25, [.ref 84, .int (nI k), .int b], [.int (nI S.length), .ref 84], (0, 0), h2)) rfl ?_
  refine ab_W.go (mm _) 2 (c' := (27, [.ref 84, .int (nI k), .int b], [.int ((nI S.length) + (nI 1)), .ref 84], (0, 0), h2)) rfl ?_
  refine ab_W.topi (nI_add S.length 1) ?_
  refine ab_W.o (mm _) (h02) rfl (c' := (30, [.ref 84, .int (nI k), .int b], [], (0, 0), h2.set 84 (mObj hap sz (nI (S.length + 1))))) rfl ?_
  refine ab_W.ret (mm _) (v := none) rfl ?_
  refine hp _ (by rw [List.length_append]; exact set_at h02) ⟨_, _, (set_ne (by decide)).trans ((k2 92 (by decide)).trans a2'), (set_ne (by decide)).trans a3'', fun i k' b' hi => ?_⟩ (fun i i1 i2 i3 => (set_ne (fun z => i1 z.symm)).trans ((k2 i i3).trans (k1 i i2)))
  rcases Nat.lt_or_ge i S.length with z | z
  · rw [List.getElem?_append_left z] at hi
    rw [upd_no _ _ (by omega), upd_no _ _ (by omega)]
    exact a4 i k' b' hi
  · rw [List.getElem?_append_right z] at hi
    have e : i - S.length = 0 := by
      rcases Nat.eq_zero_or_pos (i - S.length) with y | y
      · exact y
      · rw [List.getElem?_eq_none (by simp; omega)] at hi
        cases hi
    rw [e] at hi
    have e' : i = S.length := by omega
    subst e'
    rw [upd_at, upd_at]
    cases hi
    exact ⟨rfl, rfl⟩
