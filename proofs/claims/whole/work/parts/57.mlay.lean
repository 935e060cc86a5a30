/-! THE REFERENCE: names and trees are laid -/
theorem toldP.kept {h h' : ab_H} {L : List Int32} (x : toldP h L) (e : h'[91]? = h[91]?) : toldP h' L := by
  obtain ⟨g, g1, g2⟩ := x
  exact ⟨g, e.trans g1, g2⟩
theorem waitP.kept {h h' : ab_H} {S : List (Nat × Int32)} (x : waitP h S) (e2 : h'[92]? = h[92]?) (e3 : h'[93]? = h[93]?) : waitP h' S := by
  obtain ⟨g2, g3, a2, a3, a4⟩ := x
  exact ⟨g2, g3, e2.trans a2, e3.trans a3, a4⟩
theorem waitP.pop {h : ab_H} {S : List (Nat × Int32)} {k : Nat} {b : Int32} (x : waitP h (S ++ [(k, b)])) : waitP h S ∧ ∃ g2 g3, h[92]? = some (.inl (0, 16, .inl g2)) ∧ h[93]? = some (.inl (0, 16, .inl g3)) ∧ g2 S.length = nI k ∧ g3 S.length = b := by
  obtain ⟨g2, g3, a2, a3, a4⟩ := x
  have e : (S ++ [(k, b)])[S.length]? = some (k, b) := by
    rw [List.getElem?_append_right (Nat.le_refl _), Nat.sub_self]
    rfl
  refine ⟨⟨g2, g3, a2, a3, fun i k' b' hi => ?_⟩, g2, g3, a2, a3, (a4 _ _ _ e).1, (a4 _ _ _ e).2⟩
  have hl : i < S.length := (List.getElem?_eq_some_iff.mp hi).1
  exact a4 i k' b' (by rw [List.getElem?_append_left hl]; exact hi)
def layP (h : ab_H) (hap : Int32) (L : List Int32) (S : List (Nat × Int32)) : Prop := h[84]? = some (mObj hap (nI L.length) (nI S.length)) ∧ toldP h L ∧ waitP h S
def lkept (h h0 : ab_H) : Prop := ∀ i, i ≠ 84 → i ≠ 91 → i ≠ 92 → i ≠ 93 → h[i]? = h0[i]?
theorem len1 {α : Type} (S : List α) (a : α) : (S ++ [a]).length = S.length + 1 := by rw [List.length_append]; rfl
theorem lies_leaf {N : Int64} {k : Nat} (h1 : 1 ≤ k) (hk : k < 128) (hd : dep k = 6) (h : hits N k) : lies N k := by
  have h64 : 64 ≤ k := (sp_deep k hk h1).mp (by omega)
  obtain ⟨s1, s2⟩ := sp_leaf k hk h64
  obtain ⟨j, j1, j2⟩ := (hits_iff h1 hk).mp h
  refine (lies_iff h1 hk).mpr (fun i hi => ?_)
  unfold inK at hi j1
  rw [s2] at hi j1
  have e : i = j := by omega
  rw [e]
  exact j2
theorem alk_leaf {f : Nat → Int32} {k : Nat} (h1 : 1 ≤ k) (hk : k < 128) (hd : dep k = 6) : alk f k := by
  have h64 : 64 ≤ k := (sp_deep k hk h1).mp (by omega)
  obtain ⟨s1, s2⟩ := sp_leaf k hk h64
  intro j hj
  unfold inK at hj
  rw [s2] at hj
  have e : j = beg k := by omega
  rw [e]
abbrev lnW (d : Nat) (N : Int64) (post : ab_P) (x3 x4 x5 : Value) (h : ab_H) : Prop := ab_W (ab_st (mT kSpanStampsModel_layName) mB mF (mR kSpanStampsModel_layName) none) (mCC (d + 5)) post (16, [.ref 84, .long N, .retAddr 0, x3, x4, x5], [], (0, 0), h)
/-- one span that waits -/
theorem layN_step (d : Nat) {N : Int64} {post : ab_P} {h : ab_H} {hap : Int32} {k : Nat} {L : List Int32} {S : List (Nat × Int32)} {x3 x4 x5 : Value} {b : Int32} (h1 : 1 ≤ k) (hk : k < 128) (hl : layP h hap L (S ++ [(k, b)])) (hL : L.length < 256) (hS : S.length + 2 ≤ 16)
    (c0 : ¬ hits N k → ∀ h' y3 y4 y5, layP h' hap (L ++ [nI 0]) S → lkept h' h → lnW d N post y3 y4 y5 h')
    (c1 : hits N k → lies N k → ∀ h' y3 y4 y5, layP h' hap (L ++ [nI 1]) S → lkept h' h → lnW d N post y3 y4 y5 h')
    (c2 : hits N k → ¬ lies N k → ∀ h' y3 y4 y5, layP h' hap (L ++ [nI 2]) (S ++ [(2 * k + 1, nI 0)] ++ [(2 * k, nI 0)]) → lkept h' h → lnW d N post y3 y4 y5 h') : lnW d N post x3 x4 x5 h := by
  obtain ⟨z0, zT, zW⟩ := hl
  rw [len1] at z0
  obtain ⟨w1, g2, g3, a2, a3, a4, a5⟩ := zW.pop
  refine ab_W.go (mm _) 1 (c' := (17, [.ref 84, .long N, .retAddr 0, x3, x4, x5], [.ref 84], (0, 0), h)) rfl ?_
  refine ab_W.o (mm _) (z0) rfl (c' := (20, [.ref 84, .long N, .retAddr 0, x3, x4, x5], [.int (nI (S.length + 1))], (0, 0), h)) rfl ?_
  refine ab_W.itF (mm _) (p := (nI (S.length + 1)) ≤ 0) (c1 := (122, [.ref 84, .long N, .retAddr 0, x3, x4, x5], [], (0, 0), h)) (c2 := (23, [.ref 84, .long N, .retAddr 0, x3, x4, x5], [], (0, 0), h)) rfl (nI_nle (by omega) (by omega)) ?_
  refine ab_W.go (mm _) 2 (c' := (25, [.ref 84, .long N, .retAddr 0, x3, x4, x5], [.ref 84, .ref 84], (0, 0), h)) rfl ?_
  refine ab_W.o (mm _) (z0) rfl (c' := (28, [.ref 84, .long N, .retAddr 0, x3, x4, x5], [.int (nI (S.length + 1)), .ref 84], (0, 0), h)) rfl ?_
  refine ab_W.go (mm _) 2 (c' := (30, [.ref 84, .long N, .retAddr 0, x3, x4, x5], [.int ((nI (S.length + 1)) - (nI 1)), .ref 84], (0, 0), h)) rfl ?_
  refine ab_W.topi (nI_pred S.length) ?_
  refine ab_W.o (mm _) (z0) rfl (c' := (33, [.ref 84, .long N, .retAddr 0, x3, x4, x5], [], (0, 0), h.set 84 (mObj hap (nI L.length) (nI S.length)))) rfl ?_
  obtain ⟨h1', e1⟩ : ∃ h1', h1' = h.set 84 (mObj hap (nI L.length) (nI S.length)) := ⟨_, rfl⟩
  have k1 : ∀ i, i ≠ 84 → h1'[i]? = h[i]? := fun i hi => by rw [e1]; exact set_ne (fun z => hi z.symm)
  have z1 : h1'[84]? = some (mObj hap (nI L.length) (nI S.length)) := by rw [e1]; exact set_at z0
  have zT1 := zT.kept (k1 91 (by decide))
  have w1' := w1.kept (k1 92 (by decide)) (k1 93 (by decide))
  refine ab_W.hp (e1.symm) ?_
  show ab_W _ _ _ (33, [.ref 84, .long N, .retAddr 0, x3, x4, x5], [], (0, 0), h1')
  refine ab_W.go (mm _) 1 (c' := (34, [.ref 84, .long N, .retAddr 0, x3, x4, x5], [.ref 84], (0, 0), h1')) rfl ?_
  refine ab_W.o (mm _) (z1) rfl (c' := (37, [.ref 84, .long N, .retAddr 0, x3, x4, x5], [.ref 92], (0, 0), h1')) rfl ?_
  refine ab_W.go (mm _) 1 (c' := (38, [.ref 84, .long N, .retAddr 0, x3, x4, x5], [.ref 84, .ref 92], (0, 0), h1')) rfl ?_
  refine ab_W.o (mm _) (z1) rfl (c' := (41, [.ref 84, .long N, .retAddr 0, x3, x4, x5], [.int (nI S.length), .ref 92], (0, 0), h1')) rfl ?_
  refine ab_W.iald (mm _) (j := S.length) ((k1 92 (by decide)).trans a2) rfl (by omega) rfl rfl ?_
  show ab_W _ _ _ (42, [.ref 84, .long N, .retAddr 0, x3, x4, x5], [.int (g2 S.length)], (0, 0), h1')
  refine ab_W.topi (a4) ?_
  refine ab_W.go (mm _) 2 (c' := (44, [.ref 84, .long N, .retAddr 0, .int (nI k), x4, x5], [.int (nI k)], (0, 0), h1')) rfl ?_
  refine ab_W.call (mm _) (k := 73) (av := [.int (nI k)]) (c' := (47, [.ref 84, .long N, .retAddr 0, .int (nI k), x4, x5], [], (0, 0), h1')) rfl ?_
  refine mcellsOf _ h1 hk ?_
  show ab_W _ _ _ (47, [.ref 84, .long N, .retAddr 0, .int (nI k), x4, x5], [.long (msk k)], (0, 0), h1')
  refine ab_W.go (mm _) 4 (c' := (51, [.ref 84, .long N, .retAddr 0, .int (nI k), x4, x5], [.int (lg_cmp ((msk k) &&& N) (lN 0))], (0, 0), h1')) rfl ?_
  refine ab_W.ite (mm _) (p := (lg_cmp ((msk k) &&& N) (lN 0)) = 0) (c1 := (54, [.ref 84, .long N, .retAddr 0, .int (nI k), x4, x5], [], (0, 0), h1')) (c2 := (58, [.ref 84, .long N, .retAddr 0, .int (nI k), x4, x5], [], (0, 0), h1')) rfl (fun q => ?_) (fun q => ?_)
  · skip
    have q : ¬ hits N k := fun z => z ((lg_cmp0 _ _).mp q)
    refine ab_W.go (mm _) 5 (c' := (63, [.ref 84, .long N, .retAddr 0, .int (nI k), .int (nI 1), x5], [.long N, .int (nI k)], (0, 0), h1')) rfl ?_
    refine ab_W.call (mm _) (k := 74) (av := [.int (nI k), .long N]) (c' := (66, [.ref 84, .long N, .retAddr 0, .int (nI k), .int (nI 1), x5], [], (0, 0), h1')) rfl ?_
    refine mliesIn _ h1 hk (fun v hv => ?_)
    show ab_W _ _ _ (66, [.ref 84, .long N, .retAddr 0, .int (nI k), .int (nI 1), x5], [.int v], (0, 0), h1')
    refine ab_W.go (mm _) 3 (c' := (71, [.ref 84, .long N, .retAddr 0, .int (nI k), .int (nI 1), .int v], [.int (nI 1), .ref 84], (0, 0), h1')) rfl ?_
    refine ab_W.itF (mm _) (p := (nI 1) = 0) (c1 := (78, [.ref 84, .long N, .retAddr 0, .int (nI k), .int (nI 1), .int v], [.ref 84], (0, 0), h1')) (c2 := (74, [.ref 84, .long N, .retAddr 0, .int (nI k), .int (nI 1), .int v], [.ref 84], (0, 0), h1')) rfl (nI_ne01) ?_
    refine ab_W.go (mm _) 2 (c' := (88, [.ref 84, .long N, .retAddr 0, .int (nI k), .int (nI 1), .int v], [.int (nI 0), .ref 84], (0, 0), h1')) rfl ?_
    refine ab_W.callV (mm _) (z1) rfl (k := 104) (av := [.ref 84, .int (nI 0)]) (c' := (91, [.ref 84, .long N, .retAddr 0, .int (nI k), .int (nI 1), .int v], [], (0, 0), h1')) rfl ?_
    refine sp_mtell _ z1 zT1 hL (fun h2 z2 zT2 kk2 => ?_)
    show ab_W _ _ _ (91, [.ref 84, .long N, .retAddr 0, .int (nI k), .int (nI 1), .int v], [], (0, 0), h2)
    refine ab_W.go (mm _) 1 (c' := (93, [.ref 84, .long N, .retAddr 0, .int (nI k), .int (nI 1), .int v], [.int (nI 1)], (0, 0), h2)) rfl ?_
    refine ab_W.itF (mm _) (p := (nI 1) = 0) (c1 := (96, [.ref 84, .long N, .retAddr 0, .int (nI k), .int (nI 1), .int v], [], (0, 0), h2)) (c2 := (119, [.ref 84, .long N, .retAddr 0, .int (nI k), .int (nI 1), .int v], [], (0, 0), h2)) rfl (nI_ne01) ?_
    refine ab_W.go (mm _) 1 (c' := (16, [.ref 84, .long N, .retAddr 0, .int (nI k), .int (nI 1), .int v], [], (0, 0), h2)) rfl ?_
    exact c0 q h2 _ _ _ ⟨z2, zT2, w1'.kept (kk2 92 (by decide) (by decide)) (kk2 93 (by decide) (by decide))⟩ (fun i i1 i2 i3 i4 => (kk2 i i1 i2).trans (k1 i i1))
  · skip
    have q : hits N k := fun z => q ((lg_cmp0 _ _).mpr z)
    refine ab_W.go (mm _) 4 (c' := (63, [.ref 84, .long N, .retAddr 0, .int (nI k), .int (nI 0), x5], [.long N, .int (nI k)], (0, 0), h1')) rfl ?_
    refine ab_W.call (mm _) (k := 74) (av := [.int (nI k), .long N]) (c' := (66, [.ref 84, .long N, .retAddr 0, .int (nI k), .int (nI 0), x5], [], (0, 0), h1')) rfl ?_
    refine mliesIn _ h1 hk (fun v hv => ?_)
    rcases hv with ⟨q2, rfl⟩ | ⟨q2, rfl⟩
    · skip
      show ab_W _ _ _ (66, [.ref 84, .long N, .retAddr 0, .int (nI k), .int (nI 0), x5], [.int (nI 1)], (0, 0), h1')
      refine ab_W.go (mm _) 3 (c' := (71, [.ref 84, .long N, .retAddr 0, .int (nI k), .int (nI 0), .int (nI 1)], [.int (nI 0), .ref 84], (0, 0), h1')) rfl ?_
      refine ab_W.itT (mm _) (p := (nI 0) = 0) (c1 := (78, [.ref 84, .long N, .retAddr 0, .int (nI k), .int (nI 0), .int (nI 1)], [.ref 84], (0, 0), h1')) (c2 := (74, [.ref 84, .long N, .retAddr 0, .int (nI k), .int (nI 0), .int (nI 1)], [.ref 84], (0, 0), h1')) rfl (nI_0) ?_
      refine ab_W.go (mm _) 1 (c' := (80, [.ref 84, .long N, .retAddr 0, .int (nI k), .int (nI 0), .int (nI 1)], [.int (nI 1), .ref 84], (0, 0), h1')) rfl ?_
      refine ab_W.itF (mm _) (p := (nI 1) = 0) (c1 := (87, [.ref 84, .long N, .retAddr 0, .int (nI k), .int (nI 0), .int (nI 1)], [.ref 84], (0, 0), h1')) (c2 := (83, [.ref 84, .long N, .retAddr 0, .int (nI k), .int (nI 0), .int (nI 1)], [.ref 84], (0, 0), h1')) rfl (nI_ne01) ?_
      refine ab_W.go (mm _) 2 (c' := (88, [.ref 84, .long N, .retAddr 0, .int (nI k), .int (nI 0), .int (nI 1)], [.int (nI 1), .ref 84], (0, 0), h1')) rfl ?_
      refine ab_W.callV (mm _) (z1) rfl (k := 104) (av := [.ref 84, .int (nI 1)]) (c' := (91, [.ref 84, .long N, .retAddr 0, .int (nI k), .int (nI 0), .int (nI 1)], [], (0, 0), h1')) rfl ?_
      refine sp_mtell _ z1 zT1 hL (fun h2 z2 zT2 kk2 => ?_)
      show ab_W _ _ _ (91, [.ref 84, .long N, .retAddr 0, .int (nI k), .int (nI 0), .int (nI 1)], [], (0, 0), h2)
      refine ab_W.go (mm _) 1 (c' := (93, [.ref 84, .long N, .retAddr 0, .int (nI k), .int (nI 0), .int (nI 1)], [.int (nI 0)], (0, 0), h2)) rfl ?_
      refine ab_W.itT (mm _) (p := (nI 0) = 0) (c1 := (96, [.ref 84, .long N, .retAddr 0, .int (nI k), .int (nI 0), .int (nI 1)], [], (0, 0), h2)) (c2 := (119, [.ref 84, .long N, .retAddr 0, .int (nI k), .int (nI 0), .int (nI 1)], [], (0, 0), h2)) rfl (nI_0) ?_
      refine ab_W.go (mm _) 1 (c' := (98, [.ref 84, .long N, .retAddr 0, .int (nI k), .int (nI 0), .int (nI 1)], [.int (nI 1)], (0, 0), h2)) rfl ?_
      refine ab_W.itF (mm _) (p := (nI 1) = 0) (c1 := (101, [.ref 84, .long N, .retAddr 0, .int (nI k), .int (nI 0), .int (nI 1)], [], (0, 0), h2)) (c2 := (119, [.ref 84, .long N, .retAddr 0, .int (nI k), .int (nI 0), .int (nI 1)], [], (0, 0), h2)) rfl (nI_ne01) ?_
      refine ab_W.go (mm _) 1 (c' := (16, [.ref 84, .long N, .retAddr 0, .int (nI k), .int (nI 0), .int (nI 1)], [], (0, 0), h2)) rfl ?_
      exact c1 q q2 h2 _ _ _ ⟨z2, zT2, w1'.kept (kk2 92 (by decide) (by decide)) (kk2 93 (by decide) (by decide))⟩ (fun i i1 i2 i3 i4 => (kk2 i i1 i2).trans (k1 i i1))
    · skip
      show ab_W _ _ _ (66, [.ref 84, .long N, .retAddr 0, .int (nI k), .int (nI 0), x5], [.int (nI 0)], (0, 0), h1')
      refine ab_W.go (mm _) 3 (c' := (71, [.ref 84, .long N, .retAddr 0, .int (nI k), .int (nI 0), .int (nI 0)], [.int (nI 0), .ref 84], (0, 0), h1')) rfl ?_
      refine ab_W.itT (mm _) (p := (nI 0) = 0) (c1 := (78, [.ref 84, .long N, .retAddr 0, .int (nI k), .int (nI 0), .int (nI 0)], [.ref 84], (0, 0), h1')) (c2 := (74, [.ref 84, .long N, .retAddr 0, .int (nI k), .int (nI 0), .int (nI 0)], [.ref 84], (0, 0), h1')) rfl (nI_0) ?_
      refine ab_W.go (mm _) 1 (c' := (80, [.ref 84, .long N, .retAddr 0, .int (nI k), .int (nI 0), .int (nI 0)], [.int (nI 0), .ref 84], (0, 0), h1')) rfl ?_
      refine ab_W.itT (mm _) (p := (nI 0) = 0) (c1 := (87, [.ref 84, .long N, .retAddr 0, .int (nI k), .int (nI 0), .int (nI 0)], [.ref 84], (0, 0), h1')) (c2 := (83, [.ref 84, .long N, .retAddr 0, .int (nI k), .int (nI 0), .int (nI 0)], [.ref 84], (0, 0), h1')) rfl (nI_0) ?_
      refine ab_W.go (mm _) 1 (c' := (88, [.ref 84, .long N, .retAddr 0, .int (nI k), .int (nI 0), .int (nI 0)], [.int (nI 2), .ref 84], (0, 0), h1')) rfl ?_
      refine ab_W.callV (mm _) (z1) rfl (k := 104) (av := [.ref 84, .int (nI 2)]) (c' := (91, [.ref 84, .long N, .retAddr 0, .int (nI k), .int (nI 0), .int (nI 0)], [], (0, 0), h1')) rfl ?_
      refine sp_mtell _ z1 zT1 hL (fun h2 z2 zT2 kk2 => ?_)
      have w2 := w1'.kept (kk2 92 (by decide) (by decide)) (kk2 93 (by decide) (by decide))
      show ab_W _ _ _ (91, [.ref 84, .long N, .retAddr 0, .int (nI k), .int (nI 0), .int (nI 0)], [], (0, 0), h2)
      refine ab_W.go (mm _) 1 (c' := (93, [.ref 84, .long N, .retAddr 0, .int (nI k), .int (nI 0), .int (nI 0)], [.int (nI 0)], (0, 0), h2)) rfl ?_
      refine ab_W.itT (mm _) (p := (nI 0) = 0) (c1 := (96, [.ref 84, .long N, .retAddr 0, .int (nI k), .int (nI 0), .int (nI 0)], [], (0, 0), h2)) (c2 := (119, [.ref 84, .long N, .retAddr 0, .int (nI k), .int (nI 0), .int (nI 0)], [], (0, 0), h2)) rfl (nI_0) ?_
      refine ab_W.go (mm _) 1 (c' := (98, [.ref 84, .long N, .retAddr 0, .int (nI k), .int (nI 0), .int (nI 0)], [.int (nI 0)], (0, 0), h2)) rfl ?_
      refine ab_W.itT (mm _) (p := (nI 0) = 0) (c1 := (101, [.ref 84, .long N, .retAddr 0, .int (nI k), .int (nI 0), .int (nI 0)], [], (0, 0), h2)) (c2 := (119, [.ref 84, .long N, .retAddr 0, .int (nI k), .int (nI 0), .int (nI 0)], [], (0, 0), h2)) rfl (nI_0) ?_
      refine ab_W.go (mm _) 4 (c' := (105, [.ref 84, .long N, .retAddr 0, .int (nI k), .int (nI 0), .int (nI 0)], [.int ((nI 2) * (nI k)), .ref 84], (0, 0), h2)) rfl ?_
      refine ab_W.topi (pk_mul 2 k) ?_
      refine ab_W.go (mm _) 2 (c' := (107, [.ref 84, .long N, .retAddr 0, .int (nI k), .int (nI 0), .int (nI 0)], [.int ((nI (2 * k)) + (nI 1)), .ref 84], (0, 0), h2)) rfl ?_
      refine ab_W.topi (nI_add (2 * k) 1) ?_
      refine ab_W.go (mm _) 1 (c' := (108, [.ref 84, .long N, .retAddr 0, .int (nI k), .int (nI 0), .int (nI 0)], [.int (nI 0), .int (nI ((2 * k) + 1)), .ref 84], (0, 0), h2)) rfl ?_
      refine ab_W.callV (mm _) (z2) rfl (k := 105) (av := [.ref 84, .int (nI ((2 * k) + 1)), .int (nI 0)]) (c' := (111, [.ref 84, .long N, .retAddr 0, .int (nI k), .int (nI 0), .int (nI 0)], [], (0, 0), h2)) rfl ?_
      refine sp_mawait _ z2 w2 (by omega) (fun h3 z3 w3 kk3 => ?_)
      show ab_W _ _ _ (111, [.ref 84, .long N, .retAddr 0, .int (nI k), .int (nI 0), .int (nI 0)], [], (0, 0), h3)
      refine ab_W.go (mm _) 4 (c' := (115, [.ref 84, .long N, .retAddr 0, .int (nI k), .int (nI 0), .int (nI 0)], [.int ((nI 2) * (nI k)), .ref 84], (0, 0), h3)) rfl ?_
      refine ab_W.topi (pk_mul 2 k) ?_
      refine ab_W.go (mm _) 1 (c' := (116, [.ref 84, .long N, .retAddr 0, .int (nI k), .int (nI 0), .int (nI 0)], [.int (nI 0), .int (nI (2 * k)), .ref 84], (0, 0), h3)) rfl ?_
      refine ab_W.callV (mm _) (z3) rfl (k := 105) (av := [.ref 84, .int (nI (2 * k)), .int (nI 0)]) (c' := (119, [.ref 84, .long N, .retAddr 0, .int (nI k), .int (nI 0), .int (nI 0)], [], (0, 0), h3)) rfl ?_
      refine sp_mawait _ z3 w3 (by rw [len1]; omega) (fun h4 z4 w4 kk4 => ?_)
      show ab_W _ _ _ (119, [.ref 84, .long N, .retAddr 0, .int (nI k), .int (nI 0), .int (nI 0)], [], (0, 0), h4)
      refine ab_W.go (mm _) 1 (c' := (16, [.ref 84, .long N, .retAddr 0, .int (nI k), .int (nI 0), .int (nI 0)], [], (0, 0), h4)) rfl ?_
      exact c2 q q2 h4 _ _ _ ⟨z4, (zT2.kept (kk3 91 (by decide) (by decide) (by decide))).kept (kk4 91 (by decide) (by decide) (by decide)), w4⟩ (fun i i1 i2 i3 i4 => (kk4 i i1 i3 i4).trans ((kk3 i i1 i3 i4).trans ((kk2 i i1 i2).trans (k1 i i1))))
theorem lkept.trans {h h' h'' : ab_H} (a : lkept h'' h') (b : lkept h' h) : lkept h'' h := fun i i1 i2 i3 i4 => (a i i1 i2 i3 i4).trans (b i i1 i2 i3 i4)
theorem layN_all (d : Nat) {N : Int64} {post : ab_P} {hap : Int32} : ∀ (n k : Nat), 1 ≤ k → k < 128 → dep k + n = 6 → ∀ (h : ab_H) (L : List Int32) (S : List (Nat × Int32)) (x3 x4 x5 : Value) (b : Int32), layP h hap L (S ++ [(k, b)]) → L.length + (nT N n k).length ≤ 256 → S.length + n + 2 ≤ 16 → (∀ h' y3 y4 y5, layP h' hap (L ++ nT N n k) S → lkept h' h → lnW d N post y3 y4 y5 h') → lnW d N post x3 x4 x5 h := by
  intro n
  induction n with
  | zero =>
    intro k h1 hk hd h L S x3 x4 x5 b hl hL hS hc
    by_cases q : hits N k
    · have e : nT N 0 k = [nI 1] := ci_f (fun z => z q)
      rw [e] at hc hL
      exact layN_step d h1 hk hl (by simp at hL; omega) (by omega) (fun z => absurd q z) (fun _ _ => hc) (fun _ z => absurd (lies_leaf h1 hk (by omega) q) z)
    · have e : nT N 0 k = [nI 0] := ci_t q
      rw [e] at hc hL
      exact layN_step d h1 hk hl (by simp at hL; omega) (by omega) (fun _ => hc) (fun z => absurd z q) (fun z => absurd z q)
  | succ n ih =>
    intro k h1 hk hd h L S x3 x4 x5 b hl hL hS hc
    have hk64 := dep_lt h1 hk hd
    obtain ⟨e1, e2, -⟩ := sp_half k hk64 h1
    by_cases q : hits N k
    · by_cases q2 : lies N k
      · have e : nT N (n + 1) k = [nI 1] := (ci_f (fun z => z q)).trans (ci_t q2)
        rw [e] at hc hL
        exact layN_step d h1 hk hl (by simp at hL; omega) (by omega) (fun z => absurd q z) (fun _ _ => hc) (fun _ z => absurd q2 z)
      · have e : nT N (n + 1) k = nI 2 :: (nT N n (2 * k) ++ nT N n (2 * k + 1)) := (ci_f (fun z => z q)).trans (ci_f q2)
        rw [e] at hc hL
        rw [List.length_cons, List.length_append] at hL
        refine layN_step d h1 hk hl (by omega) (by omega) (fun z => absurd q z) (fun _ z => absurd z q2) (fun _ _ h2 y3 y4 y5 l2 kk2 => ?_)
        refine ih (2 * k) (by omega) (by omega) (by omega) h2 _ _ y3 y4 y5 _ l2 (by rw [len1]; omega) (by rw [len1]; omega) (fun h3 y3 y4 y5 l3 kk3 => ?_)
        refine ih (2 * k + 1) (by omega) (by omega) (by omega) h3 _ _ y3 y4 y5 _ l3 (by rw [List.length_append, len1]; omega) (by omega) (fun h4 y3 y4 y5 l4 kk4 => ?_)
        refine hc h4 y3 y4 y5 ?_ (kk4.trans (kk3.trans kk2))
        rw [show L ++ nI 2 :: (nT N n (2 * k) ++ nT N n (2 * k + 1)) = L ++ [nI 2] ++ nT N n (2 * k) ++ nT N n (2 * k + 1) by simp]
        exact l4
    · have e : nT N (n + 1) k = [nI 0] := ci_t q
      rw [e] at hc hL
      exact layN_step d h1 hk hl (by simp at hL; omega) (by omega) (fun _ => hc) (fun z => absurd z q) (fun z => absurd z q)
theorem sp_mlayName (d : Nat) {N : Int64} {h : ab_H} {hap sz op : Int32} (h0 : h[84]? = some (mObj hap sz op)) (s3 : arrS h 91 256) (s4 : arrS h 92 16) (s5 : arrS h 93 16) {post : ab_P} (hp : ∀ h', layP h' hap (nT N 6 1) [] → lkept h' h → post none h') : mCC (d + 6) kSpanStampsModel_layName [.ref 84, .long N] h post := by
  refine ⟨rfl, ?_⟩
  show ab_W _ _ _ (0, [.ref 84, .long N, .retAddr 0, .retAddr 0, .retAddr 0, .retAddr 0], [], (0, 0), h)
  refine ab_W.go (mm _) 2 (c' := (2, [.ref 84, .long N, .retAddr 0, .retAddr 0, .retAddr 0, .retAddr 0], [.int (nI 0), .ref 84], (0, 0), h)) rfl ?_
  refine ab_W.o (mm _) (h0) rfl (c' := (5, [.ref 84, .long N, .retAddr 0, .retAddr 0, .retAddr 0, .retAddr 0], [], (0, 0), h.set 84 (mObj hap (nI 0) op))) rfl ?_
  obtain ⟨h1, e1⟩ : ∃ h1, h1 = h.set 84 (mObj hap (nI 0) op) := ⟨_, rfl⟩
  have k1 : ∀ i, i ≠ 84 → h1[i]? = h[i]? := fun i hi => by rw [e1]; exact set_ne (fun z => hi z.symm)
  have z1 : h1[84]? = some (mObj hap (nI 0) op) := by rw [e1]; exact set_at h0
  refine ab_W.hp (e1.symm) ?_
  show ab_W _ _ _ (5, [.ref 84, .long N, .retAddr 0, .retAddr 0, .retAddr 0, .retAddr 0], [], (0, 0), h1)
  refine ab_W.go (mm _) 2 (c' := (7, [.ref 84, .long N, .retAddr 0, .retAddr 0, .retAddr 0, .retAddr 0], [.int (nI 0), .ref 84], (0, 0), h1)) rfl ?_
  refine ab_W.o (mm _) (z1) rfl (c' := (10, [.ref 84, .long N, .retAddr 0, .retAddr 0, .retAddr 0, .retAddr 0], [], (0, 0), h1.set 84 (mObj hap (nI 0) (nI 0)))) rfl ?_
  obtain ⟨h2, e2⟩ : ∃ h2, h2 = h1.set 84 (mObj hap (nI 0) (nI 0)) := ⟨_, rfl⟩
  have k2 : ∀ i, i ≠ 84 → h2[i]? = h[i]? := fun i hi => by rw [e2]; exact (set_ne (fun z => hi z.symm)).trans (k1 i hi)
  have z2 : h2[84]? = some (mObj hap (nI ([] : List Int32).length) (nI ([] : List (Nat × Int32)).length)) := by rw [e2]; exact set_at z1
  refine ab_W.hp (e2.symm) ?_
  show ab_W _ _ _ (10, [.ref 84, .long N, .retAddr 0, .retAddr 0, .retAddr 0, .retAddr 0], [], (0, 0), h2)
  have t2 : toldP h2 [] := by
    obtain ⟨g, g1⟩ := s3
    exact ⟨g, (k2 91 (by decide)).trans g1, fun i hi => absurd hi (Nat.not_lt_zero _)⟩
  have w2 : waitP h2 [] := by
    obtain ⟨g, g1⟩ := s4
    obtain ⟨g', g1'⟩ := s5
    exact ⟨g, g', (k2 92 (by decide)).trans g1, (k2 93 (by decide)).trans g1', fun i k b hi => by simp at hi⟩
  refine ab_W.go (mm _) 3 (c' := (13, [.ref 84, .long N, .retAddr 0, .retAddr 0, .retAddr 0, .retAddr 0], [.int (nI 0), .int (nI 1), .ref 84], (0, 0), h2)) rfl ?_
  refine ab_W.callV (mm _) (z2) rfl (k := 105) (av := [.ref 84, .int (nI 1), .int (nI 0)]) (c' := (16, [.ref 84, .long N, .retAddr 0, .retAddr 0, .retAddr 0, .retAddr 0], [], (0, 0), h2)) rfl ?_
  refine sp_mawait _ z2 w2 (by decide) (fun h3 z3 w3 kk3 => ?_)
  refine layN_all d 6 1 (by decide) (by decide) (by decide) h3 [] [] _ _ _ _ ⟨z3, t2.kept (kk3 91 (by decide) (by decide) (by decide)), w3⟩ ?_ (by decide) (fun h4 y3 y4 y5 l4 kk4 => ?_)
  · have := nT_len N 6 1
    have e : (2 : Nat) ^ (6 + 1) = 128 := by decide
    rw [e] at this
    show 0 + _ ≤ 256
    omega
  · have z4 : h4[84]? = some (mObj hap (nI (nT N 6 1).length) (nI 0)) := l4.1
    refine ab_W.go (mm _) 1 (c' := (17, [.ref 84, .long N, .retAddr 0, y3, y4, y5], [.ref 84], (0, 0), h4)) rfl ?_
    refine ab_W.o (mm _) (z4) rfl (c' := (20, [.ref 84, .long N, .retAddr 0, y3, y4, y5], [.int (nI 0)], (0, 0), h4)) rfl ?_
    refine ab_W.itT (mm _) (p := (nI 0) ≤ 0) (c1 := (122, [.ref 84, .long N, .retAddr 0, y3, y4, y5], [], (0, 0), h4)) (c2 := (23, [.ref 84, .long N, .retAddr 0, y3, y4, y5], [], (0, 0), h4)) rfl ((by decide)) ?_
    refine ab_W.ret (mm _) (v := none) rfl ?_
    exact hp h4 l4 (fun i i1 i2 i3 i4 => (kk4 i i1 i2 i3 i4).trans ((kk3 i i1 i3 i4).trans (k2 i i1)))
