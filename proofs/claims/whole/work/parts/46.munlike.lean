/-! THE REFERENCE: unlike and count -/
theorem sp_mfirst (d : Nat) {h : ab_H} {hap sz op : Int32} {c : Ci} {s : Nat} (W : Bool) (E : Nat → Prop) (hE : ∀ t, t < 12 → (E t ↔ (W = true ∧ nm c t = nm c s) ∨ (W = false ∧ ordN (ht c t) (ht c s) = 0))) (h0 : h[84]? = some (mObj hap sz op)) (hB : arrB h 85 12 (pr c)) (hN : arrL h 86 12 (nm c)) (hH : arrH h 88 12 (ht c)) (hs : s < 12) {post : ab_P} (hp : ∀ v : Bool, (v = true ↔ ¬ ∃ t, t < s ∧ pr c t = true ∧ E t) → post (some (.int (b2i v))) h) : mCC (d + 2) kSpanStampsModel_isFirst [.ref 84, .int (nI s), .int (b2i W)] h post := by
  obtain ⟨g, g1, g2⟩ := hB
  obtain ⟨gN, n1, n2⟩ := hN
  have loop : ∀ m, m ≤ s → ∀ v : Bool, (v = true ↔ ¬ ∃ t, t < m ∧ pr c t = true ∧ E t) → ab_W (ab_st (mT kSpanStampsModel_isFirst) mB mF (mR kSpanStampsModel_isFirst) none) (mCC (d + 1)) post (5, [.ref 84, .int (nI s), .int (b2i W), .int (b2i v), .int (nI m)], [], (0, 0), h) := by
    refine down s ?_ ?_
    · intro v hv
      refine ab_W.go (mm _) 2 (c' := (8, [.ref 84, .int (nI s), .int (b2i W), .int (b2i v), .int (nI s)], [.int (nI s), .int (nI s)], (0, 0), h)) rfl ?_
      refine ab_W.itT (mm _) (p := (nI s) ≤ (nI s)) (c1 := (71, [.ref 84, .int (nI s), .int (b2i W), .int (b2i v), .int (nI s)], [], (0, 0), h)) (c2 := (11, [.ref 84, .int (nI s), .int (b2i W), .int (b2i v), .int (nI s)], [], (0, 0), h)) rfl (Int32.le_refl _) ?_
      refine ab_W.go (mm _) 1 (c' := (72, [.ref 84, .int (nI s), .int (b2i W), .int (b2i v), .int (nI s)], [.int (b2i v)], (0, 0), h)) rfl ?_
      refine ab_W.retI (mm _) (rt := some .boolean) (v := b2i v) rfl (b2i_ft v) ?_
      exact hp v hv
    · intro m hm ih v hv
      have keep : ¬ (pr c m = true ∧ E m) → (v = true ↔ ¬ ∃ t, t < m + 1 ∧ pr c t = true ∧ E t) := by
        intro n
        rw [hv]
        constructor
        · rintro a ⟨t, t1, t2⟩
          by_cases e : t = m
          · rw [e] at t2; exact n t2
          · exact a ⟨t, by omega, t2⟩
        · rintro a ⟨t, t1, t2⟩
          exact a ⟨t, by omega, t2⟩
      refine ab_W.go (mm _) 2 (c' := (8, [.ref 84, .int (nI s), .int (b2i W), .int (b2i v), .int (nI m)], [.int (nI s), .int (nI m)], (0, 0), h)) rfl ?_
      refine ab_W.itF (mm _) (p := (nI s) ≤ (nI m)) (c1 := (71, [.ref 84, .int (nI s), .int (b2i W), .int (b2i v), .int (nI m)], [], (0, 0), h)) (c2 := (11, [.ref 84, .int (nI s), .int (b2i W), .int (b2i v), .int (nI m)], [], (0, 0), h)) rfl (fun z => absurd ((nI_leI (by omega) (by omega)).mp z) (by omega)) ?_
      refine ab_W.go (mm _) 1 (c' := (12, [.ref 84, .int (nI s), .int (b2i W), .int (b2i v), .int (nI m)], [.int (b2i v)], (0, 0), h)) rfl ?_
      cases v with
      | false =>
        show ab_W _ _ _ (12, [.ref 84, .int (nI s), .int (b2i W), .int (nI 0), .int (nI m)], [.int (nI 0)], (0, 0), h)
        refine ab_W.itT (mm _) (p := (nI 0) = 0) (c1 := (63, [.ref 84, .int (nI s), .int (b2i W), .int (nI 0), .int (nI m)], [], (0, 0), h)) (c2 := (15, [.ref 84, .int (nI s), .int (b2i W), .int (nI 0), .int (nI m)], [], (0, 0), h)) rfl (nI_0) ?_
        refine ab_W.go (mm _) 3 (c' := (68, [.ref 84, .int (nI s), .int (b2i W), .int (nI 0), .int (nI m + nI 1)], [], (0, 0), h)) rfl ?_
        rw [nI_add m 1]
        refine ab_W.go (mm _) 1 (c' := (5, [.ref 84, .int (nI s), .int (b2i W), .int (nI 0), .int (nI (m + 1))], [], (0, 0), h)) rfl ?_
        refine ih false ⟨fun z => (by cases z), fun z => absurd hv.mpr (fun y => ?_)⟩
        have : false = true := y (fun ⟨t, t1, t2⟩ => z ⟨t, by omega, t2⟩)
        cases this
      | true =>
        show ab_W _ _ _ (12, [.ref 84, .int (nI s), .int (b2i W), .int (nI 1), .int (nI m)], [.int (nI 1)], (0, 0), h)
        refine ab_W.itF (mm _) (p := (nI 1) = 0) (c1 := (63, [.ref 84, .int (nI s), .int (b2i W), .int (nI 1), .int (nI m)], [], (0, 0), h)) (c2 := (15, [.ref 84, .int (nI s), .int (b2i W), .int (nI 1), .int (nI m)], [], (0, 0), h)) rfl (nI_ne01) ?_
        refine ab_W.go (mm _) 1 (c' := (16, [.ref 84, .int (nI s), .int (b2i W), .int (nI 1), .int (nI m)], [.ref 84], (0, 0), h)) rfl ?_
        refine ab_W.o (mm _) (h0) rfl (c' := (19, [.ref 84, .int (nI s), .int (b2i W), .int (nI 1), .int (nI m)], [.ref 85], (0, 0), h)) rfl ?_
        refine ab_W.go (mm _) 1 (c' := (21, [.ref 84, .int (nI s), .int (b2i W), .int (nI 1), .int (nI m)], [.int (nI m), .ref 85], (0, 0), h)) rfl ?_
        refine ab_W.bald (mm _) (j := m) (g1) rfl (by omega) rfl rfl ?_
        show ab_W _ _ _ (22, [.ref 84, .int (nI s), .int (b2i W), .int (nI 1), .int (nI m)], [.int (g m)], (0, 0), h)
        refine ab_W.topi (g2 m (by omega)) ?_
        refine ab_W.ite (mm _) (p := (b2i (pr c m)) = 0) (c1 := (59, [.ref 84, .int (nI s), .int (b2i W), .int (nI 1), .int (nI m)], [], (0, 0), h)) (c2 := (25, [.ref 84, .int (nI s), .int (b2i W), .int (nI 1), .int (nI m)], [], (0, 0), h)) rfl (fun q => ?_) (fun q => ?_)
        · skip
          have q := b2i_0.mp q
          refine ab_W.go (mm _) 4 (c' := (68, [.ref 84, .int (nI s), .int (b2i W), .int (nI 1), .int (nI m + nI 1)], [], (0, 0), h)) rfl ?_
          rw [nI_add m 1]
          refine ab_W.go (mm _) 1 (c' := (5, [.ref 84, .int (nI s), .int (b2i W), .int (nI 1), .int (nI (m + 1))], [], (0, 0), h)) rfl ?_
          exact ih true (keep (fun z => by rw [q] at z; cases z.1))
        · skip
          have q : pr c m = true := by
            cases hb : pr c m with
            | true => rfl
            | false => exact absurd (b2i_0.mpr hb) q
          have hEm := hE m (by omega)
          refine ab_W.go (mm _) 1 (c' := (26, [.ref 84, .int (nI s), .int (b2i W), .int (nI 1), .int (nI m)], [.int (b2i W)], (0, 0), h)) rfl ?_
          cases W with
          | true =>
            show ab_W _ _ _ (26, [.ref 84, .int (nI s), .int (nI 1), .int (nI 1), .int (nI m)], [.int (nI 1)], (0, 0), h)
            refine ab_W.itF (mm _) (p := (nI 1) = 0) (c1 := (49, [.ref 84, .int (nI s), .int (nI 1), .int (nI 1), .int (nI m)], [], (0, 0), h)) (c2 := (29, [.ref 84, .int (nI s), .int (nI 1), .int (nI 1), .int (nI m)], [], (0, 0), h)) rfl (nI_ne01) ?_
            refine ab_W.go (mm _) 1 (c' := (30, [.ref 84, .int (nI s), .int (nI 1), .int (nI 1), .int (nI m)], [.ref 84], (0, 0), h)) rfl ?_
            refine ab_W.o (mm _) (h0) rfl (c' := (33, [.ref 84, .int (nI s), .int (nI 1), .int (nI 1), .int (nI m)], [.ref 86], (0, 0), h)) rfl ?_
            refine ab_W.go (mm _) 1 (c' := (35, [.ref 84, .int (nI s), .int (nI 1), .int (nI 1), .int (nI m)], [.int (nI m), .ref 86], (0, 0), h)) rfl ?_
            refine ab_W.lald (mm _) (j := m) (n1) rfl (by omega) rfl rfl ?_
            show ab_W _ _ _ (36, [.ref 84, .int (nI s), .int (nI 1), .int (nI 1), .int (nI m)], [.long (gN m)], (0, 0), h)
            refine ab_W.topl (n2 m (by omega)) ?_
            refine ab_W.go (mm _) 1 (c' := (37, [.ref 84, .int (nI s), .int (nI 1), .int (nI 1), .int (nI m)], [.ref 84, .long (nm c m)], (0, 0), h)) rfl ?_
            refine ab_W.o (mm _) (h0) rfl (c' := (40, [.ref 84, .int (nI s), .int (nI 1), .int (nI 1), .int (nI m)], [.ref 86, .long (nm c m)], (0, 0), h)) rfl ?_
            refine ab_W.go (mm _) 1 (c' := (41, [.ref 84, .int (nI s), .int (nI 1), .int (nI 1), .int (nI m)], [.int (nI s), .ref 86, .long (nm c m)], (0, 0), h)) rfl ?_
            refine ab_W.lald (mm _) (j := s) (n1) rfl (by omega) rfl rfl ?_
            show ab_W _ _ _ (42, [.ref 84, .int (nI s), .int (nI 1), .int (nI 1), .int (nI m)], [.long (gN s), .long (nm c m)], (0, 0), h)
            refine ab_W.topl (n2 s hs) ?_
            refine ab_W.go (mm _) 1 (c' := (43, [.ref 84, .int (nI s), .int (nI 1), .int (nI 1), .int (nI m)], [.int (lg_cmp (nm c m) (nm c s))], (0, 0), h)) rfl ?_
            refine ab_W.ite (mm _) (p := (lg_cmp (nm c m) (nm c s)) = 0) (c1 := (46, [.ref 84, .int (nI s), .int (nI 1), .int (nI 1), .int (nI m)], [], (0, 0), h)) (c2 := (59, [.ref 84, .int (nI s), .int (nI 1), .int (nI 1), .int (nI m)], [], (0, 0), h)) rfl (fun q2 => ?_) (fun q2 => ?_)
            · skip
              have q2 := (lg_cmp0 _ _).mp q2
              refine ab_W.go (mm _) 4 (c' := (68, [.ref 84, .int (nI s), .int (nI 1), .int (nI 0), .int (nI m + nI 1)], [], (0, 0), h)) rfl ?_
              rw [nI_add m 1]
              refine ab_W.go (mm _) 1 (c' := (5, [.ref 84, .int (nI s), .int (nI 1), .int (nI 0), .int (nI (m + 1))], [], (0, 0), h)) rfl ?_
              exact ih false ⟨fun z => (by cases z), fun z => absurd ⟨m, by omega, q, hEm.mpr (Or.inl ⟨rfl, q2⟩)⟩ z⟩
            · skip
              have q2 : ¬ nm c m = nm c s := fun z => q2 ((lg_cmp0 _ _).mpr z)
              refine ab_W.go (mm _) 4 (c' := (68, [.ref 84, .int (nI s), .int (nI 1), .int (nI 1), .int (nI m + nI 1)], [], (0, 0), h)) rfl ?_
              rw [nI_add m 1]
              refine ab_W.go (mm _) 1 (c' := (5, [.ref 84, .int (nI s), .int (nI 1), .int (nI 1), .int (nI (m + 1))], [], (0, 0), h)) rfl ?_
              exact ih true (keep (fun z => (hEm.mp z.2).elim (fun y => q2 y.2) (fun y => by cases y.1)))
          | false =>
            show ab_W _ _ _ (26, [.ref 84, .int (nI s), .int (nI 0), .int (nI 1), .int (nI m)], [.int (nI 0)], (0, 0), h)
            refine ab_W.itT (mm _) (p := (nI 0) = 0) (c1 := (49, [.ref 84, .int (nI s), .int (nI 0), .int (nI 1), .int (nI m)], [], (0, 0), h)) (c2 := (29, [.ref 84, .int (nI s), .int (nI 0), .int (nI 1), .int (nI m)], [], (0, 0), h)) rfl (nI_0) ?_
            refine ab_W.go (mm _) 3 (c' := (53, [.ref 84, .int (nI s), .int (nI 0), .int (nI 1), .int (nI m)], [.int (nI m), .int (nI s), .ref 84], (0, 0), h)) rfl ?_
            refine ab_W.callV (mm _) (h0) rfl (k := 99) (av := [.ref 84, .int (nI s), .int (nI m)]) (c' := (56, [.ref 84, .int (nI s), .int (nI 0), .int (nI 1), .int (nI m)], [], (0, 0), h)) rfl ?_
            refine sp_morder _ h0 hH hs (by omega) ?_
            show ab_W _ _ _ (56, [.ref 84, .int (nI s), .int (nI 0), .int (nI 1), .int (nI m)], [.int (nI (ordN (ht c s) (ht c m)))], (0, 0), h)
            have l4 := ord_lt (ht c s) (ht c m)
            refine ab_W.ite (mm _) (p := (nI (ordN (ht c s) (ht c m))) = 0) (c1 := (63, [.ref 84, .int (nI s), .int (nI 0), .int (nI 1), .int (nI m)], [], (0, 0), h)) (c2 := (59, [.ref 84, .int (nI s), .int (nI 0), .int (nI 1), .int (nI m)], [], (0, 0), h)) rfl (fun q2 => ?_) (fun q2 => ?_)
            · skip
              have q2 : ordN (ht c s) (ht c m) = 0 := (nI_eq (by omega) (by omega)).mp (q2.trans nI_0.symm)
              refine ab_W.go (mm _) 3 (c' := (68, [.ref 84, .int (nI s), .int (nI 0), .int (nI 0), .int (nI m + nI 1)], [], (0, 0), h)) rfl ?_
              rw [nI_add m 1]
              refine ab_W.go (mm _) 1 (c' := (5, [.ref 84, .int (nI s), .int (nI 0), .int (nI 0), .int (nI (m + 1))], [], (0, 0), h)) rfl ?_
              exact ih false ⟨fun z => (by cases z), fun z => absurd ⟨m, by omega, q, hEm.mpr (Or.inr ⟨rfl, ord_sym.mp q2⟩)⟩ z⟩
            · skip
              have q2 : ¬ ordN (ht c s) (ht c m) = 0 := fun z => q2 (by rw [z]; exact nI_0)
              refine ab_W.go (mm _) 4 (c' := (68, [.ref 84, .int (nI s), .int (nI 0), .int (nI 1), .int (nI m + nI 1)], [], (0, 0), h)) rfl ?_
              rw [nI_add m 1]
              refine ab_W.go (mm _) 1 (c' := (5, [.ref 84, .int (nI s), .int (nI 0), .int (nI 1), .int (nI (m + 1))], [], (0, 0), h)) rfl ?_
              exact ih true (keep (fun z => (hEm.mp z.2).elim (fun y => by cases y.1) (fun y => q2 (ord_sym.mp y.2))))
  refine ⟨rfl, ?_⟩
  show ab_W _ _ _ (0, [.ref 84, .int (nI s), .int (b2i W), .retAddr 0, .retAddr 0], [], (0, 0), h)
  refine ab_W.go (mm _) 4 (c' := (5, [.ref 84, .int (nI s), .int (b2i W), .int (nI 1), .int (nI 0)], [], (0, 0), h)) rfl ?_
  exact loop 0 (Nat.zero_le _) true ⟨fun _ ⟨t, z, _⟩ => absurd z (Nat.not_lt_zero _), fun _ => rfl⟩
theorem sp_m_unlike (d : Nat) {h : ab_H} {σ : Sg} {y : Int32} (hR : relM h σ) {post : ab_P} (hp : okM h post (unF σ.1 y) σ) : mCC (d + 3) kSpanStampsModel_unlike [.ref 84, .int y] h post := by
  obtain ⟨⟨sz, op, h0⟩, hB, hN, hK, hH, -⟩ := id hR
  obtain ⟨gB, b1, b2⟩ := id hB
  refine ⟨rfl, ?_⟩
  show ab_W _ _ _ (0, [.ref 84, .int y, .retAddr 0, .retAddr 0], [], (0, 0), h)
  refine ab_W.go (mm _) 3 (c' := (3, [.ref 84, .int y, .retAddr 0, .retAddr 0], [.int (nI 2), .int (nI 0), .int y], (0, 0), h)) rfl ?_
  refine ab_W.call (mm _) (k := 64) (av := [.int y, .int (nI 0), .int (nI 2)]) (c' := (6, [.ref 84, .int y, .retAddr 0, .retAddr 0], [], (0, 0), h)) rfl ?_
  refine min_ _ (fun v hv => ?_)
  rcases pk_ix y (n := 3) (by decide) with q | q | ⟨j, j1, rfl⟩
  · rw [show unF σ.1 y = _ from (ci_f (nI_lt0 q (by decide))).trans ((ci_f (nI_lt0 q (by decide))).trans (ci_f (nI_lt0 q (by decide))))] at hp
    have ev : v = nI 0 := hv.elim (fun z => absurd q (Int32.not_lt.mpr z.1.1)) (fun z => z.2)
    subst ev
    show ab_W _ _ _ (6, [.ref 84, .int y, .retAddr 0, .retAddr 0], [.int (nI 0)], (0, 0), h)
    refine ab_W.itT (mm _) (p := (nI 0) = 0) (c1 := (9, [.ref 84, .int y, .retAddr 0, .retAddr 0], [], (0, 0), h)) (c2 := (12, [.ref 84, .int y, .retAddr 0, .retAddr 0], [], (0, 0), h)) rfl (nI_0) ?_
    refine ab_W.go (mm _) 1 (c' := (11, [.ref 84, .int y, .retAddr 0, .retAddr 0], [.int (-(nI 2))], (0, 0), h)) rfl ?_
    refine ab_W.retI (mm _) (rt := some .int) (v := -(nI 2)) rfl rfl ?_
    exact hp h hR (fun _ _ => rfl)
  · rw [show unF σ.1 y = _ from (ci_f (nI_geN q (by decide) (by decide))).trans ((ci_f (nI_geN q (by decide) (by decide))).trans (ci_f (nI_geN q (by decide) (by decide))))] at hp
    have ev : v = nI 0 := hv.elim (fun z => absurd (Int32.le_trans q z.1.2) (by decide)) (fun z => z.2)
    subst ev
    show ab_W _ _ _ (6, [.ref 84, .int y, .retAddr 0, .retAddr 0], [.int (nI 0)], (0, 0), h)
    refine ab_W.itT (mm _) (p := (nI 0) = 0) (c1 := (9, [.ref 84, .int y, .retAddr 0, .retAddr 0], [], (0, 0), h)) (c2 := (12, [.ref 84, .int y, .retAddr 0, .retAddr 0], [], (0, 0), h)) rfl (nI_0) ?_
    refine ab_W.go (mm _) 1 (c' := (11, [.ref 84, .int y, .retAddr 0, .retAddr 0], [.int (-(nI 2))], (0, 0), h)) rfl ?_
    refine ab_W.retI (mm _) (rt := some .int) (v := -(nI 2)) rfl rfl ?_
    exact hp h hR (fun _ _ => rfl)
  · have ev : v = nI 1 := hv.elim (fun z => z.2) (fun z => absurd ⟨Int32.not_lt.mp (nI_pos (by omega)), (nI_leI (by omega) (by omega)).mpr (show j ≤ 2 by omega)⟩ z.1)
    subst ev
    obtain ⟨P, hP, hP2, hP3⟩ : ∃ P : Nat → Prop, okM h post (nI (cn (fun s => pr σ.1 s = true ∧ P s) 12)) σ ∧ (j = 2 → ∀ s, s < 12 → (P s ↔ ¬ ∃ t, t < 12 ∧ pr σ.1 t = true ∧ ordN (ht σ.1 s) (ht σ.1 t) = 1)) ∧ (j ≠ 2 → ∀ s, s < 12 → ∃ E : Nat → Prop, (∀ t, t < 12 → (E t ↔ (decide (j = 1) = true ∧ nm σ.1 t = nm σ.1 s) ∨ (decide (j = 1) = false ∧ ordN (ht σ.1 t) (ht σ.1 s) = 0))) ∧ (P s ↔ ¬ ∃ t, t < s ∧ pr σ.1 t = true ∧ E t)) := by
      match j, j1 with
      | 0, _ =>
        rw [show unF σ.1 (nI 0) = _ from ci_t rfl] at hp
        exact ⟨_, hp, fun z => (by cases z), fun _ s _ => ⟨fun t => ordN (ht σ.1 t) (ht σ.1 s) = 0, fun t _ => ⟨fun z => Or.inr ⟨rfl, z⟩, fun z => z.elim (fun y => by cases y.1) (fun y => y.2)⟩, Iff.rfl⟩⟩
      | 1, _ =>
        rw [show unF σ.1 (nI 1) = _ from (ci_f (by decide)).trans (ci_t rfl)] at hp
        exact ⟨_, hp, fun z => (by cases z), fun _ s _ => ⟨fun t => nm σ.1 t = nm σ.1 s, fun t _ => ⟨fun z => Or.inl ⟨rfl, z⟩, fun z => z.elim (fun y => y.2) (fun y => by cases y.1)⟩, Iff.rfl⟩⟩
      | 2, _ =>
        rw [show unF σ.1 (nI 2) = _ from (ci_f (by decide)).trans ((ci_f (by decide)).trans (ci_t rfl))] at hp
        exact ⟨_, hp, fun _ s _ => Iff.rfl, fun z => absurd rfl z⟩
      | n + 3, z => exact absurd z (by omega)
    have loop : ∀ s, s ≤ 12 → ab_W (ab_st (mT kSpanStampsModel_unlike) mB mF (mR kSpanStampsModel_unlike) none) (mCC (d + 2)) post (16, [.ref 84, .int (nI j), .int (nI (cn (fun s => pr σ.1 s = true ∧ P s) s)), .int (nI s)], [], (0, 0), h) := by
      refine down 12 ?_ ?_
      · skip
        refine ab_W.go (mm _) 2 (c' := (19, [.ref 84, .int (nI j), .int (nI (cn (fun s => pr σ.1 s = true ∧ P s) 12)), .int (nI 12)], [.int (nI 12), .int (nI 12)], (0, 0), h)) rfl ?_
        refine ab_W.itT (mm _) (p := (nI 12) ≤ (nI 12)) (c1 := (79, [.ref 84, .int (nI j), .int (nI (cn (fun s => pr σ.1 s = true ∧ P s) 12)), .int (nI 12)], [], (0, 0), h)) (c2 := (22, [.ref 84, .int (nI j), .int (nI (cn (fun s => pr σ.1 s = true ∧ P s) 12)), .int (nI 12)], [], (0, 0), h)) rfl ((by decide)) ?_
        refine ab_W.go (mm _) 1 (c' := (80, [.ref 84, .int (nI j), .int (nI (cn (fun s => pr σ.1 s = true ∧ P s) 12)), .int (nI 12)], [.int (nI (cn (fun s => pr σ.1 s = true ∧ P s) 12))], (0, 0), h)) rfl ?_
        refine ab_W.retI (mm _) (rt := some .int) (v := nI (cn (fun s => pr σ.1 s = true ∧ P s) 12)) rfl rfl ?_
        exact hP h hR (fun _ _ => rfl)
      · intro s hs ih
        have no : ¬ (pr σ.1 s = true ∧ P s) → ab_W (ab_st (mT kSpanStampsModel_unlike) mB mF (mR kSpanStampsModel_unlike) none) (mCC (d + 2)) post (70, [.ref 84, .int (nI j), .int (nI (cn (fun s => pr σ.1 s = true ∧ P s) s)), .int (nI s)], [.int (nI (cn (fun s => pr σ.1 s = true ∧ P s) s))], (0, 0), h) := by
          intro n
          rw [cn_f (p := fun s => pr σ.1 s = true ∧ P s) n] at ih
          refine ab_W.go (mm _) 2 (c' := (72, [.ref 84, .int (nI j), .int (nI (cn (fun s => pr σ.1 s = true ∧ P s) s)), .int (nI s)], [.int ((nI (cn (fun s => pr σ.1 s = true ∧ P s) s)) + (nI 0))], (0, 0), h)) rfl ?_
          refine ab_W.topi (nI_add (cn (fun s => pr σ.1 s = true ∧ P s) s) 0) ?_
          refine ab_W.go (mm _) 2 (c' := (76, [.ref 84, .int (nI j), .int (nI ((cn (fun s => pr σ.1 s = true ∧ P s) s) + 0)), .int (nI s + nI 1)], [], (0, 0), h)) rfl ?_
          rw [nI_add s 1]
          refine ab_W.go (mm _) 1 (c' := (16, [.ref 84, .int (nI j), .int (nI ((cn (fun s => pr σ.1 s = true ∧ P s) s) + 0)), .int (nI (s + 1))], [], (0, 0), h)) rfl ?_
          exact ih
        have yes : pr σ.1 s = true ∧ P s → ab_W (ab_st (mT kSpanStampsModel_unlike) mB mF (mR kSpanStampsModel_unlike) none) (mCC (d + 2)) post (66, [.ref 84, .int (nI j), .int (nI (cn (fun s => pr σ.1 s = true ∧ P s) s)), .int (nI s)], [.int (nI (cn (fun s => pr σ.1 s = true ∧ P s) s))], (0, 0), h) := by
          intro n
          rw [cn_t (p := fun s => pr σ.1 s = true ∧ P s) n] at ih
          refine ab_W.go (mm _) 3 (c' := (72, [.ref 84, .int (nI j), .int (nI (cn (fun s => pr σ.1 s = true ∧ P s) s)), .int (nI s)], [.int ((nI (cn (fun s => pr σ.1 s = true ∧ P s) s)) + (nI 1))], (0, 0), h)) rfl ?_
          refine ab_W.topi (nI_add (cn (fun s => pr σ.1 s = true ∧ P s) s) 1) ?_
          refine ab_W.go (mm _) 2 (c' := (76, [.ref 84, .int (nI j), .int (nI ((cn (fun s => pr σ.1 s = true ∧ P s) s) + 1)), .int (nI s + nI 1)], [], (0, 0), h)) rfl ?_
          rw [nI_add s 1]
          refine ab_W.go (mm _) 1 (c' := (16, [.ref 84, .int (nI j), .int (nI ((cn (fun s => pr σ.1 s = true ∧ P s) s) + 1)), .int (nI (s + 1))], [], (0, 0), h)) rfl ?_
          exact ih
        refine ab_W.go (mm _) 2 (c' := (19, [.ref 84, .int (nI j), .int (nI (cn (fun s => pr σ.1 s = true ∧ P s) s)), .int (nI s)], [.int (nI 12), .int (nI s)], (0, 0), h)) rfl ?_
        refine ab_W.itF (mm _) (p := (nI 12) ≤ (nI s)) (c1 := (79, [.ref 84, .int (nI j), .int (nI (cn (fun s => pr σ.1 s = true ∧ P s) s)), .int (nI s)], [], (0, 0), h)) (c2 := (22, [.ref 84, .int (nI j), .int (nI (cn (fun s => pr σ.1 s = true ∧ P s) s)), .int (nI s)], [], (0, 0), h)) rfl (fun z => absurd ((nI_leI (by omega) (by omega)).mp z) (by omega)) ?_
        refine ab_W.go (mm _) 2 (c' := (24, [.ref 84, .int (nI j), .int (nI (cn (fun s => pr σ.1 s = true ∧ P s) s)), .int (nI s)], [.ref 84, .int (nI (cn (fun s => pr σ.1 s = true ∧ P s) s))], (0, 0), h)) rfl ?_
        refine ab_W.o (mm _) (h0) rfl (c' := (27, [.ref 84, .int (nI j), .int (nI (cn (fun s => pr σ.1 s = true ∧ P s) s)), .int (nI s)], [.ref 85, .int (nI (cn (fun s => pr σ.1 s = true ∧ P s) s))], (0, 0), h)) rfl ?_
        refine ab_W.go (mm _) 1 (c' := (28, [.ref 84, .int (nI j), .int (nI (cn (fun s => pr σ.1 s = true ∧ P s) s)), .int (nI s)], [.int (nI s), .ref 85, .int (nI (cn (fun s => pr σ.1 s = true ∧ P s) s))], (0, 0), h)) rfl ?_
        refine ab_W.bald (mm _) (j := s) (b1) rfl (by omega) rfl rfl ?_
        show ab_W _ _ _ (29, [.ref 84, .int (nI j), .int (nI (cn (fun s => pr σ.1 s = true ∧ P s) s)), .int (nI s)], [.int (gB s), .int (nI (cn (fun s => pr σ.1 s = true ∧ P s) s))], (0, 0), h)
        refine ab_W.topi (b2 s hs) ?_
        refine ab_W.ite (mm _) (p := (b2i (pr σ.1 s)) = 0) (c1 := (70, [.ref 84, .int (nI j), .int (nI (cn (fun s => pr σ.1 s = true ∧ P s) s)), .int (nI s)], [.int (nI (cn (fun s => pr σ.1 s = true ∧ P s) s))], (0, 0), h)) (c2 := (32, [.ref 84, .int (nI j), .int (nI (cn (fun s => pr σ.1 s = true ∧ P s) s)), .int (nI s)], [.int (nI (cn (fun s => pr σ.1 s = true ∧ P s) s))], (0, 0), h)) rfl (fun q => ?_) (fun q => ?_)
        · skip
          exact no (fun z => by rw [b2i_0.mp q] at z; cases z.1)
        · skip
          have q : pr σ.1 s = true := by
            cases hb : pr σ.1 s with
            | true => rfl
            | false => exact absurd (b2i_0.mpr hb) q
          refine ab_W.go (mm _) 2 (c' := (34, [.ref 84, .int (nI j), .int (nI (cn (fun s => pr σ.1 s = true ∧ P s) s)), .int (nI s)], [.int (nI 2), .int (nI j), .int (nI (cn (fun s => pr σ.1 s = true ∧ P s) s))], (0, 0), h)) rfl ?_
          refine ab_W.ite (mm _) (p := (nI j) = (nI 2)) (c1 := (37, [.ref 84, .int (nI j), .int (nI (cn (fun s => pr σ.1 s = true ∧ P s) s)), .int (nI s)], [.int (nI (cn (fun s => pr σ.1 s = true ∧ P s) s))], (0, 0), h)) (c2 := (48, [.ref 84, .int (nI j), .int (nI (cn (fun s => pr σ.1 s = true ∧ P s) s)), .int (nI s)], [.int (nI (cn (fun s => pr σ.1 s = true ∧ P s) s))], (0, 0), h)) rfl (fun q2 => ?_) (fun q2 => ?_)
          · skip
            have q2 : j = 2 := (nI_eq (by omega) (by omega)).mp q2
            refine ab_W.go (mm _) 2 (c' := (39, [.ref 84, .int (nI j), .int (nI (cn (fun s => pr σ.1 s = true ∧ P s) s)), .int (nI s)], [.int (nI s), .ref 84, .int (nI (cn (fun s => pr σ.1 s = true ∧ P s) s))], (0, 0), h)) rfl ?_
            refine ab_W.callV (mm _) (h0) rfl (k := 115) (av := [.ref 84, .int (nI s)]) (c' := (42, [.ref 84, .int (nI j), .int (nI (cn (fun s => pr σ.1 s = true ∧ P s) s)), .int (nI s)], [.int (nI (cn (fun s => pr σ.1 s = true ∧ P s) s))], (0, 0), h)) rfl ?_
            refine sp_mbefNone d h0 hB hH hs (fun v hv => ?_)
            rw [← hP2 q2 s hs] at hv
            cases v with
            | false =>
              show ab_W _ _ _ (42, [.ref 84, .int (nI j), .int (nI (cn (fun s => pr σ.1 s = true ∧ P s) s)), .int (nI s)], [.int (nI 0), .int (nI (cn (fun s => pr σ.1 s = true ∧ P s) s))], (0, 0), h)
              refine ab_W.itT (mm _) (p := (nI 0) = 0) (c1 := (70, [.ref 84, .int (nI j), .int (nI (cn (fun s => pr σ.1 s = true ∧ P s) s)), .int (nI s)], [.int (nI (cn (fun s => pr σ.1 s = true ∧ P s) s))], (0, 0), h)) (c2 := (45, [.ref 84, .int (nI j), .int (nI (cn (fun s => pr σ.1 s = true ∧ P s) s)), .int (nI s)], [.int (nI (cn (fun s => pr σ.1 s = true ∧ P s) s))], (0, 0), h)) rfl (nI_0) ?_
              exact no (fun z => by have := hv.mpr z.2; cases this)
            | true =>
              show ab_W _ _ _ (42, [.ref 84, .int (nI j), .int (nI (cn (fun s => pr σ.1 s = true ∧ P s) s)), .int (nI s)], [.int (nI 1), .int (nI (cn (fun s => pr σ.1 s = true ∧ P s) s))], (0, 0), h)
              refine ab_W.itF (mm _) (p := (nI 1) = 0) (c1 := (70, [.ref 84, .int (nI j), .int (nI (cn (fun s => pr σ.1 s = true ∧ P s) s)), .int (nI s)], [.int (nI (cn (fun s => pr σ.1 s = true ∧ P s) s))], (0, 0), h)) (c2 := (45, [.ref 84, .int (nI j), .int (nI (cn (fun s => pr σ.1 s = true ∧ P s) s)), .int (nI s)], [.int (nI (cn (fun s => pr σ.1 s = true ∧ P s) s))], (0, 0), h)) rfl (nI_ne01) ?_
              refine ab_W.go (mm _) 1 (c' := (66, [.ref 84, .int (nI j), .int (nI (cn (fun s => pr σ.1 s = true ∧ P s) s)), .int (nI s)], [.int (nI (cn (fun s => pr σ.1 s = true ∧ P s) s))], (0, 0), h)) rfl ?_
              exact yes ⟨q, hv.mp rfl⟩
          · skip
            have q2 : j ≠ 2 := fun z => q2 (by rw [z])
            obtain ⟨E, E1, E2⟩ := hP3 q2 s hs
            have fin : ab_W (ab_st (mT kSpanStampsModel_unlike) mB mF (mR kSpanStampsModel_unlike) none) (mCC (d + 2)) post (60, [.ref 84, .int (nI j), .int (nI (cn (fun s => pr σ.1 s = true ∧ P s) s)), .int (nI s)], [.int (b2i (decide (j = 1))), .int (nI s), .ref 84, .int (nI (cn (fun s => pr σ.1 s = true ∧ P s) s))], (0, 0), h) := by
              refine ab_W.callV (mm _) (h0) rfl (k := 114) (av := [.ref 84, .int (nI s), .int (b2i (decide (j = 1)))]) (c' := (63, [.ref 84, .int (nI j), .int (nI (cn (fun s => pr σ.1 s = true ∧ P s) s)), .int (nI s)], [.int (nI (cn (fun s => pr σ.1 s = true ∧ P s) s))], (0, 0), h)) rfl ?_
              refine sp_mfirst d (decide (j = 1)) E E1 h0 hB hN hH hs (fun v hv => ?_)
              rw [← E2] at hv
              cases v with
              | false =>
                show ab_W _ _ _ (63, [.ref 84, .int (nI j), .int (nI (cn (fun s => pr σ.1 s = true ∧ P s) s)), .int (nI s)], [.int (nI 0), .int (nI (cn (fun s => pr σ.1 s = true ∧ P s) s))], (0, 0), h)
                refine ab_W.itT (mm _) (p := (nI 0) = 0) (c1 := (70, [.ref 84, .int (nI j), .int (nI (cn (fun s => pr σ.1 s = true ∧ P s) s)), .int (nI s)], [.int (nI (cn (fun s => pr σ.1 s = true ∧ P s) s))], (0, 0), h)) (c2 := (66, [.ref 84, .int (nI j), .int (nI (cn (fun s => pr σ.1 s = true ∧ P s) s)), .int (nI s)], [.int (nI (cn (fun s => pr σ.1 s = true ∧ P s) s))], (0, 0), h)) rfl (nI_0) ?_
                exact no (fun z => by have := hv.mpr z.2; cases this)
              | true =>
                show ab_W _ _ _ (63, [.ref 84, .int (nI j), .int (nI (cn (fun s => pr σ.1 s = true ∧ P s) s)), .int (nI s)], [.int (nI 1), .int (nI (cn (fun s => pr σ.1 s = true ∧ P s) s))], (0, 0), h)
                refine ab_W.itF (mm _) (p := (nI 1) = 0) (c1 := (70, [.ref 84, .int (nI j), .int (nI (cn (fun s => pr σ.1 s = true ∧ P s) s)), .int (nI s)], [.int (nI (cn (fun s => pr σ.1 s = true ∧ P s) s))], (0, 0), h)) (c2 := (66, [.ref 84, .int (nI j), .int (nI (cn (fun s => pr σ.1 s = true ∧ P s) s)), .int (nI s)], [.int (nI (cn (fun s => pr σ.1 s = true ∧ P s) s))], (0, 0), h)) rfl (nI_ne01) ?_
                exact yes ⟨q, hv.mp rfl⟩
            refine ab_W.go (mm _) 4 (c' := (52, [.ref 84, .int (nI j), .int (nI (cn (fun s => pr σ.1 s = true ∧ P s) s)), .int (nI s)], [.int (nI 1), .int (nI j), .int (nI s), .ref 84, .int (nI (cn (fun s => pr σ.1 s = true ∧ P s) s))], (0, 0), h)) rfl ?_
            refine ab_W.ite (mm _) (p := (nI j) = (nI 1)) (c1 := (55, [.ref 84, .int (nI j), .int (nI (cn (fun s => pr σ.1 s = true ∧ P s) s)), .int (nI s)], [.int (nI s), .ref 84, .int (nI (cn (fun s => pr σ.1 s = true ∧ P s) s))], (0, 0), h)) (c2 := (59, [.ref 84, .int (nI j), .int (nI (cn (fun s => pr σ.1 s = true ∧ P s) s)), .int (nI s)], [.int (nI s), .ref 84, .int (nI (cn (fun s => pr σ.1 s = true ∧ P s) s))], (0, 0), h)) rfl (fun q3 => ?_) (fun q3 => ?_)
            · skip
              have q3 : j = 1 := (nI_eq (by omega) (by omega)).mp q3
              rw [decide_eq_true q3] at fin
              refine ab_W.go (mm _) 2 (c' := (60, [.ref 84, .int (nI j), .int (nI (cn (fun s => pr σ.1 s = true ∧ P s) s)), .int (nI s)], [.int (nI 1), .int (nI s), .ref 84, .int (nI (cn (fun s => pr σ.1 s = true ∧ P s) s))], (0, 0), h)) rfl ?_
              exact fin
            · skip
              have q3 : ¬ j = 1 := fun z => q3 (by rw [z])
              rw [decide_eq_false q3] at fin
              refine ab_W.go (mm _) 1 (c' := (60, [.ref 84, .int (nI j), .int (nI (cn (fun s => pr σ.1 s = true ∧ P s) s)), .int (nI s)], [.int (nI 0), .int (nI s), .ref 84, .int (nI (cn (fun s => pr σ.1 s = true ∧ P s) s))], (0, 0), h)) rfl ?_
              exact fin
    show ab_W _ _ _ (6, [.ref 84, .int (nI j), .retAddr 0, .retAddr 0], [.int (nI 1)], (0, 0), h)
    refine ab_W.itF (mm _) (p := (nI 1) = 0) (c1 := (9, [.ref 84, .int (nI j), .retAddr 0, .retAddr 0], [], (0, 0), h)) (c2 := (12, [.ref 84, .int (nI j), .retAddr 0, .retAddr 0], [], (0, 0), h)) rfl (nI_ne01) ?_
    refine ab_W.go (mm _) 4 (c' := (16, [.ref 84, .int (nI j), .int (nI 0), .int (nI 0)], [], (0, 0), h)) rfl ?_
    exact loop 0 (Nat.zero_le _)
theorem sp_m_count (d : Nat) {h : ab_H} {σ : Sg} {y : Int32} (hR : relM h σ) {post : ab_P} (hp : okM h post (cntF σ y) σ) : mCC (d + 2) kSpanStampsModel_count [.ref 84, .int y] h post := by
  obtain ⟨⟨sz, op, h0⟩, hB, -, -, -, -, ⟨gI, i1, i2⟩, -⟩ := id hR
  rcases pk_ix y (n := 4) (by decide) with q | q | ⟨j, j1, rfl⟩
  · rw [show cntF σ y = _ from (ci_f (nI_lt0 q (by decide))).trans ((ci_f (nI_lt0 q (by decide))).trans ((ci_f (nI_lt0 q (by decide))).trans (ci_f (nI_lt0 q (by decide)))))] at hp
    refine ⟨rfl, ?_⟩
    show ab_W _ _ _ (0, [.ref 84, .int y], [], (0, 0), h)
    refine ab_W.go (mm _) 1 (c' := (1, [.ref 84, .int y], [.int y], (0, 0), h)) rfl ?_
    refine ab_W.swd (mm _) rfl (sw_lo q) ?_
    show ab_W _ _ _ (77, [.ref 84, .int y], [], (0, 0), h)
    refine ab_W.go (mm _) 1 (c' := (79, [.ref 84, .int y], [.int (-(nI 2))], (0, 0), h)) rfl ?_
    refine ab_W.retI (mm _) (rt := some .int) (v := -(nI 2)) rfl rfl ?_
    exact hp h hR (fun _ _ => rfl)
  · rw [show cntF σ y = _ from (ci_f (nI_geN q (by decide) (by decide))).trans ((ci_f (nI_geN q (by decide) (by decide))).trans ((ci_f (nI_geN q (by decide) (by decide))).trans (ci_f (nI_geN q (by decide) (by decide)))))] at hp
    refine ⟨rfl, ?_⟩
    show ab_W _ _ _ (0, [.ref 84, .int y], [], (0, 0), h)
    refine ab_W.go (mm _) 1 (c' := (1, [.ref 84, .int y], [.int y], (0, 0), h)) rfl ?_
    refine ab_W.swd (mm _) rfl (sw_hi q (by decide)) ?_
    show ab_W _ _ _ (77, [.ref 84, .int y], [], (0, 0), h)
    refine ab_W.go (mm _) 1 (c' := (79, [.ref 84, .int y], [.int (-(nI 2))], (0, 0), h)) rfl ?_
    refine ab_W.retI (mm _) (rt := some .int) (v := -(nI 2)) rfl rfl ?_
    exact hp h hR (fun _ _ => rfl)
  · match j, j1 with
    | 0, _ =>
      rw [show cntF σ (nI 0) = _ from ci_t rfl] at hp
      refine ⟨rfl, ?_⟩
      show ab_W _ _ _ (0, [.ref 84, .int (nI 0)], [], (0, 0), h)
      refine ab_W.go (mm _) 1 (c' := (1, [.ref 84, .int (nI 0)], [.int (nI 0)], (0, 0), h)) rfl ?_
      refine ab_W.go (mm _) 1 (c' := (32, [.ref 84, .int (nI 0)], [], (0, 0), h)) rfl ?_
      refine ab_W.go (mm _) 1 (c' := (33, [.ref 84, .int (nI 0)], [.ref 84], (0, 0), h)) rfl ?_
      refine ab_W.callV (mm _) (h0) rfl (k := 68) (av := [.ref 84]) (c' := (36, [.ref 84, .int (nI 0)], [], (0, 0), h)) rfl ?_
      refine sp_mmany _ h0 hB ?_
      show ab_W _ _ _ (36, [.ref 84, .int (nI 0)], [.int (nI (cb (pr σ.1) 12))], (0, 0), h)
      refine ab_W.retI (mm _) (rt := some .int) (v := nI (cb (pr σ.1) 12)) rfl rfl ?_
      exact hp h hR (fun _ _ => rfl)
    | 1, _ =>
      rw [show cntF σ (nI 1) = _ from (ci_f (by decide)).trans (ci_t rfl)] at hp
      refine ⟨rfl, ?_⟩
      show ab_W _ _ _ (0, [.ref 84, .int (nI 1)], [], (0, 0), h)
      refine ab_W.go (mm _) 1 (c' := (1, [.ref 84, .int (nI 1)], [.int (nI 1)], (0, 0), h)) rfl ?_
      refine ab_W.go (mm _) 1 (c' := (37, [.ref 84, .int (nI 1)], [], (0, 0), h)) rfl ?_
      refine ab_W.go (mm _) 1 (c' := (38, [.ref 84, .int (nI 1)], [.ref 84], (0, 0), h)) rfl ?_
      refine ab_W.callV (mm _) (h0) rfl (k := 119) (av := [.ref 84]) (c' := (41, [.ref 84, .int (nI 1)], [], (0, 0), h)) rfl ?_
      refine sp_mnumbers _ h0 hB ?_
      show ab_W _ _ _ (41, [.ref 84, .int (nI 1)], [.int (nI (mkN (pr σ.1) 12))], (0, 0), h)
      refine ab_W.retI (mm _) (rt := some .int) (v := nI (mkN (pr σ.1) 12)) rfl rfl ?_
      exact hp h hR (fun _ _ => rfl)
    | 2, _ =>
      rw [show cntF σ (nI 2) = _ from (ci_f (by decide)).trans ((ci_f (by decide)).trans (ci_t rfl))] at hp
      refine ⟨rfl, ?_⟩
      show ab_W _ _ _ (0, [.ref 84, .int (nI 2)], [], (0, 0), h)
      refine ab_W.go (mm _) 1 (c' := (1, [.ref 84, .int (nI 2)], [.int (nI 2)], (0, 0), h)) rfl ?_
      refine ab_W.go (mm _) 1 (c' := (42, [.ref 84, .int (nI 2)], [], (0, 0), h)) rfl ?_
      refine ab_W.go (mm _) 1 (c' := (43, [.ref 84, .int (nI 2)], [.ref 84], (0, 0), h)) rfl ?_
      refine ab_W.o (mm _) (h0) rfl (c' := (46, [.ref 84, .int (nI 2)], [.int (nI (hn σ.1))], (0, 0), h)) rfl ?_
      refine ab_W.retI (mm _) (rt := some .int) (v := nI (hn σ.1)) rfl rfl ?_
      exact hp h hR (fun _ _ => rfl)
    | 3, _ =>
      rw [show cntF σ (nI 3) = _ from (ci_f (by decide)).trans ((ci_f (by decide)).trans ((ci_f (by decide)).trans (ci_t rfl)))] at hp
      have key : ∀ A B : Bool, σ.2.2 0 = A → σ.2.2 1 = B → nI (kpN σ.2.2) = nI ((if A = true then 1 else 0) + (if B = true then 2 else 0)) := fun A B a b => by unfold kpN; rw [a, b]
      refine ⟨rfl, ?_⟩
      show ab_W _ _ _ (0, [.ref 84, .int (nI 3)], [], (0, 0), h)
      refine ab_W.go (mm _) 1 (c' := (1, [.ref 84, .int (nI 3)], [.int (nI 3)], (0, 0), h)) rfl ?_
      refine ab_W.go (mm _) 1 (c' := (47, [.ref 84, .int (nI 3)], [], (0, 0), h)) rfl ?_
      refine ab_W.go (mm _) 1 (c' := (48, [.ref 84, .int (nI 3)], [.ref 84], (0, 0), h)) rfl ?_
      refine ab_W.o (mm _) (h0) rfl (c' := (51, [.ref 84, .int (nI 3)], [.ref 94], (0, 0), h)) rfl ?_
      refine ab_W.go (mm _) 1 (c' := (52, [.ref 84, .int (nI 3)], [.int (nI 0), .ref 94], (0, 0), h)) rfl ?_
      refine ab_W.bald (mm _) (j := 0) (i1) rfl (by omega) rfl rfl ?_
      show ab_W _ _ _ (53, [.ref 84, .int (nI 3)], [.int (gI 0)], (0, 0), h)
      refine ab_W.topi (i2 0 (by decide)) ?_
      cases hA0 : σ.2.2 0 with
      | false =>
        show ab_W _ _ _ (53, [.ref 84, .int (nI 3)], [.int (nI 0)], (0, 0), h)
        refine ab_W.itT (mm _) (p := (nI 0) = 0) (c1 := (60, [.ref 84, .int (nI 3)], [], (0, 0), h)) (c2 := (56, [.ref 84, .int (nI 3)], [], (0, 0), h)) rfl (nI_0) ?_
        refine ab_W.go (mm _) 2 (c' := (62, [.ref 84, .int (nI 3)], [.ref 84, .int (nI 0)], (0, 0), h)) rfl ?_
        refine ab_W.o (mm _) (h0) rfl (c' := (65, [.ref 84, .int (nI 3)], [.ref 94, .int (nI 0)], (0, 0), h)) rfl ?_
        refine ab_W.go (mm _) 1 (c' := (66, [.ref 84, .int (nI 3)], [.int (nI 1), .ref 94, .int (nI 0)], (0, 0), h)) rfl ?_
        refine ab_W.bald (mm _) (j := 1) (i1) rfl (by omega) rfl rfl ?_
        show ab_W _ _ _ (67, [.ref 84, .int (nI 3)], [.int (gI 1), .int (nI 0)], (0, 0), h)
        refine ab_W.topi (i2 1 (by decide)) ?_
        cases hB0 : σ.2.2 1 with
        | false =>
          rw [key _ _ hA0 hB0] at hp
          show ab_W _ _ _ (67, [.ref 84, .int (nI 3)], [.int (nI 0), .int (nI 0)], (0, 0), h)
          refine ab_W.itT (mm _) (p := (nI 0) = 0) (c1 := (74, [.ref 84, .int (nI 3)], [.int (nI 0)], (0, 0), h)) (c2 := (70, [.ref 84, .int (nI 3)], [.int (nI 0)], (0, 0), h)) rfl (nI_0) ?_
          refine ab_W.go (mm _) 2 (c' := (76, [.ref 84, .int (nI 3)], [.int ((nI 0) + (nI 0))], (0, 0), h)) rfl ?_
          refine ab_W.topi (nI_add 0 0) ?_
          refine ab_W.retI (mm _) (rt := some .int) (v := nI (0 + 0)) rfl rfl ?_
          exact hp h hR (fun _ _ => rfl)
        | true =>
          rw [key _ _ hA0 hB0] at hp
          show ab_W _ _ _ (67, [.ref 84, .int (nI 3)], [.int (nI 1), .int (nI 0)], (0, 0), h)
          refine ab_W.itF (mm _) (p := (nI 1) = 0) (c1 := (74, [.ref 84, .int (nI 3)], [.int (nI 0)], (0, 0), h)) (c2 := (70, [.ref 84, .int (nI 3)], [.int (nI 0)], (0, 0), h)) rfl (nI_ne01) ?_
          refine ab_W.go (mm _) 3 (c' := (76, [.ref 84, .int (nI 3)], [.int ((nI 0) + (nI 2))], (0, 0), h)) rfl ?_
          refine ab_W.topi (nI_add 0 2) ?_
          refine ab_W.retI (mm _) (rt := some .int) (v := nI (0 + 2)) rfl rfl ?_
          exact hp h hR (fun _ _ => rfl)
      | true =>
        show ab_W _ _ _ (53, [.ref 84, .int (nI 3)], [.int (nI 1)], (0, 0), h)
        refine ab_W.itF (mm _) (p := (nI 1) = 0) (c1 := (60, [.ref 84, .int (nI 3)], [], (0, 0), h)) (c2 := (56, [.ref 84, .int (nI 3)], [], (0, 0), h)) rfl (nI_ne01) ?_
        refine ab_W.go (mm _) 3 (c' := (62, [.ref 84, .int (nI 3)], [.ref 84, .int (nI 1)], (0, 0), h)) rfl ?_
        refine ab_W.o (mm _) (h0) rfl (c' := (65, [.ref 84, .int (nI 3)], [.ref 94, .int (nI 1)], (0, 0), h)) rfl ?_
        refine ab_W.go (mm _) 1 (c' := (66, [.ref 84, .int (nI 3)], [.int (nI 1), .ref 94, .int (nI 1)], (0, 0), h)) rfl ?_
        refine ab_W.bald (mm _) (j := 1) (i1) rfl (by omega) rfl rfl ?_
        show ab_W _ _ _ (67, [.ref 84, .int (nI 3)], [.int (gI 1), .int (nI 1)], (0, 0), h)
        refine ab_W.topi (i2 1 (by decide)) ?_
        cases hB0 : σ.2.2 1 with
        | false =>
          rw [key _ _ hA0 hB0] at hp
          show ab_W _ _ _ (67, [.ref 84, .int (nI 3)], [.int (nI 0), .int (nI 1)], (0, 0), h)
          refine ab_W.itT (mm _) (p := (nI 0) = 0) (c1 := (74, [.ref 84, .int (nI 3)], [.int (nI 1)], (0, 0), h)) (c2 := (70, [.ref 84, .int (nI 3)], [.int (nI 1)], (0, 0), h)) rfl (nI_0) ?_
          refine ab_W.go (mm _) 2 (c' := (76, [.ref 84, .int (nI 3)], [.int ((nI 1) + (nI 0))], (0, 0), h)) rfl ?_
          refine ab_W.topi (nI_add 1 0) ?_
          refine ab_W.retI (mm _) (rt := some .int) (v := nI (1 + 0)) rfl rfl ?_
          exact hp h hR (fun _ _ => rfl)
        | true =>
          rw [key _ _ hA0 hB0] at hp
          show ab_W _ _ _ (67, [.ref 84, .int (nI 3)], [.int (nI 1), .int (nI 1)], (0, 0), h)
          refine ab_W.itF (mm _) (p := (nI 1) = 0) (c1 := (74, [.ref 84, .int (nI 3)], [.int (nI 1)], (0, 0), h)) (c2 := (70, [.ref 84, .int (nI 3)], [.int (nI 1)], (0, 0), h)) rfl (nI_ne01) ?_
          refine ab_W.go (mm _) 3 (c' := (76, [.ref 84, .int (nI 3)], [.int ((nI 1) + (nI 2))], (0, 0), h)) rfl ?_
          refine ab_W.topi (nI_add 1 2) ?_
          refine ab_W.retI (mm _) (rt := some .int) (v := nI (1 + 2)) rfl rfl ?_
          exact hp h hR (fun _ _ => rfl)
    | n + 4, z => exact absurd z (by omega)
