/-! THE REFERENCE: name and tree -/
theorem relM.lay {h h' : ab_H} {σ : Sg} {L : List Int32} (hR : relM h σ) (hl : layP h' (nI (hn σ.1)) L []) (s1 : arrS h' 89 64) (hk : ∀ i, i ≠ 84 → i ≠ 89 → i ≠ 91 → i ≠ 92 → i ≠ 93 → h'[i]? = h[i]?) : relM h' σ := by
  obtain ⟨⟨sz, op, h0⟩, hB, hN, hK, hH, ⟨-, s2, -, -, -⟩, -⟩ := id hR
  obtain ⟨z0, ⟨g, g1, -⟩, ⟨g2, g3, a2, a3, -⟩⟩ := hl
  exact hR.cur (c' := σ.1) ⟨_, _, z0⟩ (hB.kept (hk _ (by decide) (by decide) (by decide) (by decide) (by decide))) (hN.kept (hk _ (by decide) (by decide) (by decide) (by decide) (by decide))) (hK.kept (hk _ (by decide) (by decide) (by decide) (by decide) (by decide))) (hH.kept (hk _ (by decide) (by decide) (by decide) (by decide) (by decide))) ⟨s1, s2.kept (hk _ (by decide) (by decide) (by decide) (by decide) (by decide)), ⟨g, g1⟩, ⟨g2, a2⟩, ⟨g3, a3⟩⟩ (fun i hi => hk i (by omega) (by omega) (by omega) (by omega) (by omega))
theorem sp_m_name (d : Nat) {h : ab_H} {σ : Sg} {x : Int32} {y : Int32} (hR : relM h σ) {post : ab_P} (hp : okM h post (nameO σ.1 y (stN σ.1 x)) (σ)) : mCC (d + 8) kSpanStampsModel_name [.ref 84, .int x, .int y] h post := by
  obtain ⟨⟨sz, op, h0⟩, hB, hN, hK, hH, -⟩ := id hR
  obtain ⟨gB, b1, b2⟩ := id hB
  obtain ⟨gN, n1, n2⟩ := id hN
  obtain ⟨gK, k1, k2⟩ := id hK
  obtain ⟨gH, m1, m2⟩ := id hH
  rcases stamp_or σ.1 x with hx | ⟨s, hs, rfl, hx⟩
  · rw [stN_no hx] at hp
    refine ⟨rfl, ?_⟩
    show ab_W _ _ _ (0, [.ref 84, .int x, .int y], [], (0, 0), h)
    refine ab_W.go (mm _) 2 (c' := (2, [.ref 84, .int x, .int y], [.int x, .ref 84], (0, 0), h)) rfl ?_
    refine ab_W.callV (mm _) (h0) rfl (k := 65) (av := [.ref 84, .int x]) (c' := (5, [.ref 84, .int x, .int y], [], (0, 0), h)) rfl ?_
    refine sp_isN _ h0 hB hx ?_
    show ab_W _ _ _ (5, [.ref 84, .int x, .int y], [.int (nI 0)], (0, 0), h)
    refine ab_W.itT (mm _) (p := (nI 0) = 0) (c1 := (8, [.ref 84, .int x, .int y], [], (0, 0), h)) (c2 := (10, [.ref 84, .int x, .int y], [], (0, 0), h)) rfl (nI_0) ?_
    refine ab_W.go (mm _) 1 (c' := (9, [.ref 84, .int x, .int y], [.int (-(nI 1))], (0, 0), h)) rfl ?_
    refine ab_W.retI (mm _) (rt := some .int) (v := -(nI 1)) rfl rfl ?_
    exact hp h hR (fun _ _ => rfl)
  · rw [stN_yes hs hx] at hp
    refine ⟨rfl, ?_⟩
    show ab_W _ _ _ (0, [.ref 84, .int (nI s), .int y], [], (0, 0), h)
    refine ab_W.go (mm _) 2 (c' := (2, [.ref 84, .int (nI s), .int y], [.int (nI s), .ref 84], (0, 0), h)) rfl ?_
    refine ab_W.callV (mm _) (h0) rfl (k := 65) (av := [.ref 84, .int (nI s)]) (c' := (5, [.ref 84, .int (nI s), .int y], [], (0, 0), h)) rfl ?_
    refine sp_isY _ h0 hB hs hx ?_
    show ab_W _ _ _ (5, [.ref 84, .int (nI s), .int y], [.int (nI 1)], (0, 0), h)
    refine ab_W.itF (mm _) (p := (nI 1) = 0) (c1 := (8, [.ref 84, .int (nI s), .int y], [], (0, 0), h)) (c2 := (10, [.ref 84, .int (nI s), .int y], [], (0, 0), h)) rfl (nI_ne01) ?_
    refine ab_W.go (mm _) 2 (c' := (12, [.ref 84, .int (nI s), .int y], [.int (-(nI 1)), .int y], (0, 0), h)) rfl ?_
    refine ab_W.ite (mm _) (p := (-(nI 1)) ≤ y) (c1 := (18, [.ref 84, .int (nI s), .int y], [], (0, 0), h)) (c2 := (15, [.ref 84, .int (nI s), .int y], [], (0, 0), h)) rfl (fun q => ?_) (fun q => ?_)
    · skip
      have q : ¬ y < -(nI 1) := Int32.not_lt.mpr q
      rw [show nameO σ.1 y (some s) = _ from ci_f q] at hp
      obtain ⟨-, -, -, -, -, ⟨s1, s2, s3, s4, s5⟩, -⟩ := id hR
      refine ab_W.go (mm _) 2 (c' := (20, [.ref 84, .int (nI s), .int y], [.ref 84, .ref 84], (0, 0), h)) rfl ?_
      refine ab_W.o (mm _) (h0) rfl (c' := (23, [.ref 84, .int (nI s), .int y], [.ref 86, .ref 84], (0, 0), h)) rfl ?_
      refine ab_W.go (mm _) 1 (c' := (24, [.ref 84, .int (nI s), .int y], [.int (nI s), .ref 86, .ref 84], (0, 0), h)) rfl ?_
      refine ab_W.lald (mm _) (j := s) (n1) rfl (by omega) rfl rfl ?_
      show ab_W _ _ _ (25, [.ref 84, .int (nI s), .int y], [.long (gN s), .ref 84], (0, 0), h)
      refine ab_W.topl (n2 s hs) ?_
      refine ab_W.callV (mm _) (h0) rfl (k := 106) (av := [.ref 84, .long (nm σ.1 s)]) (c' := (28, [.ref 84, .int (nI s), .int y], [], (0, 0), h)) rfl ?_
      refine sp_mlayName _ h0 s3 s4 s5 (fun h1 l1 kk1 => ?_)
      have z1 := l1.1
      show ab_W _ _ _ (28, [.ref 84, .int (nI s), .int y], [], (0, 0), h1)
      refine ab_W.go (mm _) 2 (c' := (30, [.ref 84, .int (nI s), .int y], [.int y, .ref 84], (0, 0), h1)) rfl ?_
      have lt : (nT (nm σ.1 s) 6 1).length ≤ 256 := by
        have := nT_len (nm σ.1 s) 6 1
        have e : (2 : Nat) ^ (6 + 1) = 128 := by decide
        omega
      refine ab_W.callV (mm _) (z1) rfl (k := 108) (av := [.ref 84, .int y]) (c' := (33, [.ref 84, .int (nI s), .int y], [], (0, 0), h1)) rfl ?_
      refine sp_mtold _ z1 l1.2.1 lt q ?_
      show ab_W _ _ _ (33, [.ref 84, .int (nI s), .int y], [.int (tlF (nT (nm σ.1 s) 6 1) y)], (0, 0), h1)
      refine ab_W.retI (mm _) (rt := some .int) (v := tlF (nT (nm σ.1 s) 6 1) y) rfl rfl ?_
      exact hp _ (hR.lay l1 (s1.kept (kk1 89 (by decide) (by decide) (by decide) (by decide))) (fun i i1 i2 i3 i4 i5 => kk1 i i1 i3 i4 i5)) (fun i hi => kk1 i (by omega) (by omega) (by omega) (by omega))
    · skip
      have q : y < -(nI 1) := Int32.not_le.mp q
      rw [show nameO σ.1 y (some s) = _ from ci_t q] at hp
      refine ab_W.go (mm _) 1 (c' := (17, [.ref 84, .int (nI s), .int y], [.int (-(nI 2))], (0, 0), h)) rfl ?_
      refine ab_W.retI (mm _) (rt := some .int) (v := -(nI 2)) rfl rfl ?_
      exact hp h hR (fun _ _ => rfl)
theorem sp_m_tree (d : Nat) {h : ab_H} {σ : Sg} {x : Int32} {y : Int32} (hR : relM h σ) {post : ab_P} (hp : okM h post (treeO σ.1 y (stN σ.1 x)) (σ)) : mCC (d + 8) kSpanStampsModel_tree [.ref 84, .int x, .int y] h post := by
  obtain ⟨⟨sz, op, h0⟩, hB, hN, hK, hH, -⟩ := id hR
  obtain ⟨gB, b1, b2⟩ := id hB
  obtain ⟨gN, n1, n2⟩ := id hN
  obtain ⟨gK, k1, k2⟩ := id hK
  obtain ⟨gH, m1, m2⟩ := id hH
  rcases stamp_or σ.1 x with hx | ⟨s, hs, rfl, hx⟩
  · rw [stN_no hx] at hp
    refine ⟨rfl, ?_⟩
    show ab_W _ _ _ (0, [.ref 84, .int x, .int y], [], (0, 0), h)
    refine ab_W.go (mm _) 2 (c' := (2, [.ref 84, .int x, .int y], [.int x, .ref 84], (0, 0), h)) rfl ?_
    refine ab_W.callV (mm _) (h0) rfl (k := 65) (av := [.ref 84, .int x]) (c' := (5, [.ref 84, .int x, .int y], [], (0, 0), h)) rfl ?_
    refine sp_isN _ h0 hB hx ?_
    show ab_W _ _ _ (5, [.ref 84, .int x, .int y], [.int (nI 0)], (0, 0), h)
    refine ab_W.itT (mm _) (p := (nI 0) = 0) (c1 := (8, [.ref 84, .int x, .int y], [], (0, 0), h)) (c2 := (10, [.ref 84, .int x, .int y], [], (0, 0), h)) rfl (nI_0) ?_
    refine ab_W.go (mm _) 1 (c' := (9, [.ref 84, .int x, .int y], [.int (-(nI 1))], (0, 0), h)) rfl ?_
    refine ab_W.retI (mm _) (rt := some .int) (v := -(nI 1)) rfl rfl ?_
    exact hp h hR (fun _ _ => rfl)
  · rw [stN_yes hs hx] at hp
    refine ⟨rfl, ?_⟩
    show ab_W _ _ _ (0, [.ref 84, .int (nI s), .int y], [], (0, 0), h)
    refine ab_W.go (mm _) 2 (c' := (2, [.ref 84, .int (nI s), .int y], [.int (nI s), .ref 84], (0, 0), h)) rfl ?_
    refine ab_W.callV (mm _) (h0) rfl (k := 65) (av := [.ref 84, .int (nI s)]) (c' := (5, [.ref 84, .int (nI s), .int y], [], (0, 0), h)) rfl ?_
    refine sp_isY _ h0 hB hs hx ?_
    show ab_W _ _ _ (5, [.ref 84, .int (nI s), .int y], [.int (nI 1)], (0, 0), h)
    refine ab_W.itF (mm _) (p := (nI 1) = 0) (c1 := (8, [.ref 84, .int (nI s), .int y], [], (0, 0), h)) (c2 := (10, [.ref 84, .int (nI s), .int y], [], (0, 0), h)) rfl (nI_ne01) ?_
    refine ab_W.go (mm _) 2 (c' := (12, [.ref 84, .int (nI s), .int y], [.int (-(nI 1)), .int y], (0, 0), h)) rfl ?_
    refine ab_W.ite (mm _) (p := (-(nI 1)) ≤ y) (c1 := (18, [.ref 84, .int (nI s), .int y], [], (0, 0), h)) (c2 := (15, [.ref 84, .int (nI s), .int y], [], (0, 0), h)) rfl (fun q => ?_) (fun q => ?_)
    · skip
      have q : ¬ y < -(nI 1) := Int32.not_lt.mpr q
      rw [show treeO σ.1 y (some s) = _ from ci_f q] at hp
      obtain ⟨-, -, -, -, -, ⟨s1, s2, s3, s4, s5⟩, -⟩ := id hR
      refine ab_W.go (mm _) 2 (c' := (20, [.ref 84, .int (nI s), .int y], [.int (nI s), .ref 84], (0, 0), h)) rfl ?_
      refine ab_W.callV (mm _) (h0) rfl (k := 107) (av := [.ref 84, .int (nI s)]) (c' := (23, [.ref 84, .int (nI s), .int y], [], (0, 0), h)) rfl ?_
      refine sp_mlayTree _ h0 hH hs s1 s3 s4 s5 (fun h1 f hf nw l1 kk1 => ?_)
      rw [hT_cong2 6 1 (by decide) (by decide) (by decide) 0 hf] at l1
      have z1 := l1.1
      show ab_W _ _ _ (23, [.ref 84, .int (nI s), .int y], [], (0, 0), h1)
      refine ab_W.go (mm _) 2 (c' := (25, [.ref 84, .int (nI s), .int y], [.int y, .ref 84], (0, 0), h1)) rfl ?_
      have lt : (hT (ht σ.1 s) 6 1 0).length ≤ 256 := by
        have := hT_len (ht σ.1 s) 6 1 0
        have e : 3 * (2 : Nat) ^ 6 = 192 := by decide
        omega
      refine ab_W.callV (mm _) (z1) rfl (k := 108) (av := [.ref 84, .int y]) (c' := (28, [.ref 84, .int (nI s), .int y], [], (0, 0), h1)) rfl ?_
      refine sp_mtold _ z1 l1.2.1 lt q ?_
      show ab_W _ _ _ (28, [.ref 84, .int (nI s), .int y], [.int (tlF (hT (ht σ.1 s) 6 1 0) y)], (0, 0), h1)
      refine ab_W.retI (mm _) (rt := some .int) (v := tlF (hT (ht σ.1 s) 6 1 0) y) rfl rfl ?_
      exact hp _ (hR.lay l1 ⟨f, nw⟩ kk1) (fun i hi => kk1 i (by omega) (by omega) (by omega) (by omega) (by omega))
    · skip
      have q : y < -(nI 1) := Int32.not_le.mp q
      rw [show treeO σ.1 y (some s) = _ from ci_t q] at hp
      refine ab_W.go (mm _) 1 (c' := (17, [.ref 84, .int (nI s), .int y], [.int (-(nI 2))], (0, 0), h)) rfl ?_
      refine ab_W.retI (mm _) (rt := some .int) (v := -(nI 2)) rfl rfl ?_
      exact hp h hR (fun _ _ => rfl)
