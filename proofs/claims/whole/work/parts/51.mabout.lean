/-! THE REFERENCE: about and growth -/
theorem relM.scr {h h' : ab_H} {σ : Sg} (hR : relM h σ) (s1 : arrS h' 89 64) (s2 : arrS h' 90 128) (hk : ∀ i, i ≠ 89 → i ≠ 90 → h'[i]? = h[i]?) : relM h' σ := by
  obtain ⟨⟨sz, op, h0⟩, hB, hN, hK, hH, ⟨-, -, s3, s4, s5⟩, -⟩ := id hR
  exact hR.cur (c' := σ.1) ⟨sz, op, (hk _ (by omega) (by omega)).trans h0⟩ (hB.kept (hk _ (by omega) (by omega))) (hN.kept (hk _ (by omega) (by omega))) (hK.kept (hk _ (by omega) (by omega))) (hH.kept (hk _ (by omega) (by omega))) ⟨s1, s2, s3.kept (hk _ (by omega) (by omega)), s4.kept (hk _ (by omega) (by omega)), s5.kept (hk _ (by omega) (by omega))⟩ (fun i hi => hk i (by omega) (by omega))
theorem sp_m_about (d : Nat) {h : ab_H} {σ : Sg} {x : Int32} {y : Int32} (hR : relM h σ) {post : ab_P} (hp : okM h post (aboutO σ.1 y (stN σ.1 x)) (σ)) : mCC (d + 8) kSpanStampsModel_about [.ref 84, .int x, .int y] h post := by
  obtain ⟨⟨sz, op, h0⟩, hB, hN, hK, hH, -⟩ := id hR
  obtain ⟨gB, b1, b2⟩ := id hB
  obtain ⟨gN, n1, n2⟩ := id hN
  obtain ⟨gK, k1, k2⟩ := id hK
  obtain ⟨gH, m1, m2⟩ := id hH
  rcases stamp_or σ.1 x with hx | ⟨s, hs, rfl, hx⟩
  · rw [stN_no hx] at hp
    refine ⟨rfl, ?_⟩
    show ab_W _ _ _ (0, [.ref 84, .int x, .int y], [], (0, 0), h)
    refine ab_W.go (mm _) 2 (c' := (2, [.ref 84, .int x, .int y], [.int x, .ref 84], (0, 0), h)) rfl ?_
    refine ab_W.callV (mm _) (h0) rfl (k := 65) (av := [.ref 84, .int x]) (c' := (5, [.ref 84, .int x, .int y], [], (0, 0), h)) rfl ?_
    refine sp_isN _ h0 hB hx ?_
    show ab_W _ _ _ (5, [.ref 84, .int x, .int y], [.int (nI 0)], (0, 0), h)
    refine ab_W.itT (mm _) (p := (nI 0) = 0) (c1 := (8, [.ref 84, .int x, .int y], [], (0, 0), h)) (c2 := (10, [.ref 84, .int x, .int y], [], (0, 0), h)) rfl (nI_0) ?_
    refine ab_W.go (mm _) 1 (c' := (9, [.ref 84, .int x, .int y], [.int (-(nI 1))], (0, 0), h)) rfl ?_
    refine ab_W.retI (mm _) (rt := some .int) (v := -(nI 1)) rfl rfl ?_
    exact hp h hR (fun _ _ => rfl)
  · rw [stN_yes hs hx] at hp
    refine ⟨rfl, ?_⟩
    show ab_W _ _ _ (0, [.ref 84, .int (nI s), .int y], [], (0, 0), h)
    refine ab_W.go (mm _) 2 (c' := (2, [.ref 84, .int (nI s), .int y], [.int (nI s), .ref 84], (0, 0), h)) rfl ?_
    refine ab_W.callV (mm _) (h0) rfl (k := 65) (av := [.ref 84, .int (nI s)]) (c' := (5, [.ref 84, .int (nI s), .int y], [], (0, 0), h)) rfl ?_
    refine sp_isY _ h0 hB hs hx ?_
    show ab_W _ _ _ (5, [.ref 84, .int (nI s), .int y], [.int (nI 1)], (0, 0), h)
    refine ab_W.itF (mm _) (p := (nI 1) = 0) (c1 := (8, [.ref 84, .int (nI s), .int y], [], (0, 0), h)) (c2 := (10, [.ref 84, .int (nI s), .int y], [], (0, 0), h)) rfl (nI_ne01) ?_
    refine ab_W.go (mm _) 2 (c' := (12, [.ref 84, .int (nI s), .int y], [.int (nI s), .ref 84], (0, 0), h)) rfl ?_
    obtain ⟨-, -, -, -, -, ⟨⟨gs, ms⟩, s90, -⟩, -⟩ := id hR
    refine ab_W.callV (mm _) (h0) rfl (k := 85) (av := [.ref 84, .int (nI s)]) (c' := (15, [.ref 84, .int (nI s), .int y], [], (0, 0), h)) rfl ?_
    refine sp_mlook _ h0 hH hs ms (fun f hf => ?_)
    have l89 := hA_lt ms
    have hR1 : relM (hA h 89 f) σ := hR.scr ⟨f, hA_at l89⟩ (s90.kept (hA_ne (by decide))) (fun i i1 i2 => hA_ne (fun z => i1 z.symm))
    have hk1 : ∀ i, i < 84 → (hA h 89 f)[i]? = h[i]? := fun i hi => hA_ne (by omega)
    have nw : nowP (hA h 89 f) f := hA_at l89
    have h01 : (hA h 89 f)[84]? = some (mObj (nI (hn σ.1)) sz op) := (hA_ne (by decide)).trans h0
    have n1' : (hA h 89 f)[86]? = some (.inl (1, 12, .inr (.inl gN))) := (hA_ne (by decide)).trans n1
    obtain ⟨h1, e1⟩ : ∃ h1, h1 = hA h 89 f := ⟨_, rfl⟩
    rw [← e1] at hR1 hk1 nw h01 n1'
    show ab_W _ _ _ (15, [.ref 84, .int (nI s), .int y], [], (0, 0), hA h 89 f)
    refine ab_W.hp (e1.symm) ?_
    show ab_W _ _ _ (15, [.ref 84, .int (nI s), .int y], [], (0, 0), h1)
    refine ab_W.go (mm _) 1 (c' := (16, [.ref 84, .int (nI s), .int y], [.int y], (0, 0), h1)) rfl ?_
    rcases pk_ix y (n := 5) (by decide) with q | q | ⟨j, j1, rfl⟩
    · rw [show aboutO σ.1 y (some s) = _ from ((((ci_f (nI_lt0 q (by decide))).trans (ci_f (nI_lt0 q (by decide)))).trans (ci_f (nI_lt0 q (by decide)))).trans (ci_f (nI_lt0 q (by decide)))).trans (ci_f (nI_lt0 q (by decide)))] at hp
      refine ab_W.swd (mm _) rfl (sw_lo q) ?_
      show ab_W _ _ _ (113, [.ref 84, .int (nI s), .int y], [], (0, 0), h1)
      refine ab_W.go (mm _) 1 (c' := (115, [.ref 84, .int (nI s), .int y], [.int (-(nI 2))], (0, 0), h1)) rfl ?_
      refine ab_W.retI (mm _) (rt := some .int) (v := -(nI 2)) rfl rfl ?_
      exact hp _ hR1 hk1
    · rw [show aboutO σ.1 y (some s) = _ from ((((ci_f (nI_geN q (by decide) (by decide))).trans (ci_f (nI_geN q (by decide) (by decide)))).trans (ci_f (nI_geN q (by decide) (by decide)))).trans (ci_f (nI_geN q (by decide) (by decide)))).trans (ci_f (nI_geN q (by decide) (by decide)))] at hp
      refine ab_W.swd (mm _) rfl (sw_hi q (by decide)) ?_
      show ab_W _ _ _ (113, [.ref 84, .int (nI s), .int y], [], (0, 0), h1)
      refine ab_W.go (mm _) 1 (c' := (115, [.ref 84, .int (nI s), .int y], [.int (-(nI 2))], (0, 0), h1)) rfl ?_
      refine ab_W.retI (mm _) (rt := some .int) (v := -(nI 2)) rfl rfl ?_
      exact hp _ hR1 hk1
    · match j, j1 with
      | 0, _ =>
        rw [show aboutO σ.1 (nI 0) (some s) = _ from ci_t rfl] at hp
        refine ab_W.go (mm _) 1 (c' := (52, [.ref 84, .int (nI s), .int (nI 0)], [], (0, 0), h1)) rfl ?_
        refine ab_W.go (mm _) 1 (c' := (53, [.ref 84, .int (nI s), .int (nI 0)], [.ref 84], (0, 0), h1)) rfl ?_
        refine ab_W.o (mm _) (h01) rfl (c' := (56, [.ref 84, .int (nI s), .int (nI 0)], [.ref 86], (0, 0), h1)) rfl ?_
        refine ab_W.go (mm _) 1 (c' := (57, [.ref 84, .int (nI s), .int (nI 0)], [.int (nI s), .ref 86], (0, 0), h1)) rfl ?_
        refine ab_W.lald (mm _) (j := s) (n1') rfl (by omega) rfl rfl ?_
        show ab_W _ _ _ (58, [.ref 84, .int (nI s), .int (nI 0)], [.long (gN s)], (0, 0), h1)
        refine ab_W.topl (n2 s hs) ?_
        refine ab_W.call (mm _) (k := 67) (av := [.long (nm σ.1 s)]) (c' := (61, [.ref 84, .int (nI s), .int (nI 0)], [], (0, 0), h1)) rfl ?_
        refine mbits _ ?_
        show ab_W _ _ _ (61, [.ref 84, .int (nI s), .int (nI 0)], [.int (nI (cnt (nm σ.1 s) 64))], (0, 0), h1)
        refine ab_W.retI (mm _) (rt := some .int) (v := nI (cnt (nm σ.1 s) 64)) rfl rfl ?_
        exact hp _ hR1 hk1
      | 1, _ =>
        rw [show aboutO σ.1 (nI 1) (some s) = _ from (ci_f (by decide)).trans (ci_t rfl)] at hp
        refine ab_W.go (mm _) 1 (c' := (62, [.ref 84, .int (nI s), .int (nI 1)], [], (0, 0), h1)) rfl ?_
        refine ab_W.go (mm _) 1 (c' := (63, [.ref 84, .int (nI s), .int (nI 1)], [.ref 84], (0, 0), h1)) rfl ?_
        refine ab_W.o (mm _) (h01) rfl (c' := (66, [.ref 84, .int (nI s), .int (nI 1)], [.ref 86], (0, 0), h1)) rfl ?_
        refine ab_W.go (mm _) 1 (c' := (67, [.ref 84, .int (nI s), .int (nI 1)], [.int (nI s), .ref 86], (0, 0), h1)) rfl ?_
        refine ab_W.lald (mm _) (j := s) (n1') rfl (by omega) rfl rfl ?_
        show ab_W _ _ _ (68, [.ref 84, .int (nI s), .int (nI 1)], [.long (gN s)], (0, 0), h1)
        refine ab_W.topl (n2 s hs) ?_
        refine ab_W.call (mm _) (k := 111) (av := [.long (nm σ.1 s)]) (c' := (71, [.ref 84, .int (nI s), .int (nI 1)], [], (0, 0), h1)) rfl ?_
        refine sp_mpieces _ ?_
        show ab_W _ _ _ (71, [.ref 84, .int (nI s), .int (nI 1)], [.int (nI (npc (nm σ.1 s)))], (0, 0), h1)
        refine ab_W.retI (mm _) (rt := some .int) (v := nI (npc (nm σ.1 s))) rfl rfl ?_
        exact hp _ hR1 hk1
      | 2, _ =>
        rw [show aboutO σ.1 (nI 2) (some s) = _ from (ci_f (by decide)).trans ((ci_f (by decide)).trans (ci_t rfl))] at hp
        refine ab_W.go (mm _) 1 (c' := (72, [.ref 84, .int (nI s), .int (nI 2)], [], (0, 0), h1)) rfl ?_
        refine ab_W.go (mm _) 2 (c' := (74, [.ref 84, .int (nI s), .int (nI 2)], [.int (nI 1), .ref 84], (0, 0), h1)) rfl ?_
        refine ab_W.callV (mm _) (h01) rfl (k := 82) (av := [.ref 84, .int (nI 1)]) (c' := (77, [.ref 84, .int (nI s), .int (nI 2)], [], (0, 0), h1)) rfl ?_
        refine sp_mmx _ h01 nw (k := 1) (by decide) (by decide) ?_
        show ab_W _ _ _ (77, [.ref 84, .int (nI s), .int (nI 2)], [.int (mx f 1)], (0, 0), h1)
        refine ab_W.topi (mx_congr (by decide) (by decide) (fun c hc => hf c (inK_lt (by decide) (by decide) hc))) ?_
        refine ab_W.retI (mm _) (rt := some .int) (v := mx (ht σ.1 s) 1) rfl rfl ?_
        exact hp _ hR1 hk1
      | 3, _ =>
        rw [show aboutO σ.1 (nI 3) (some s) = _ from (ci_f (by decide)).trans ((ci_f (by decide)).trans ((ci_f (by decide)).trans (ci_t rfl)))] at hp
        refine ab_W.go (mm _) 1 (c' := (78, [.ref 84, .int (nI s), .int (nI 3)], [], (0, 0), h1)) rfl ?_
        refine ab_W.go (mm _) 2 (c' := (80, [.ref 84, .int (nI s), .int (nI 3)], [.int (nI 1), .ref 84], (0, 0), h1)) rfl ?_
        refine ab_W.callV (mm _) (h01) rfl (k := 81) (av := [.ref 84, .int (nI 1)]) (c' := (83, [.ref 84, .int (nI s), .int (nI 3)], [], (0, 0), h1)) rfl ?_
        refine sp_mmn _ h01 nw (k := 1) (by decide) (by decide) ?_
        show ab_W _ _ _ (83, [.ref 84, .int (nI s), .int (nI 3)], [.int (mn f 1)], (0, 0), h1)
        refine ab_W.topi (mn_congr (by decide) (by decide) (fun c hc => hf c (inK_lt (by decide) (by decide) hc))) ?_
        refine ab_W.retI (mm _) (rt := some .int) (v := mn (ht σ.1 s) 1) rfl rfl ?_
        exact hp _ hR1 hk1
      | 4, _ =>
        rw [show aboutO σ.1 (nI 4) (some s) = _ from (ci_f (by decide)).trans ((ci_f (by decide)).trans ((ci_f (by decide)).trans ((ci_f (by decide)).trans (ci_t rfl))))] at hp
        refine ab_W.go (mm _) 1 (c' := (84, [.ref 84, .int (nI s), .int (nI 4)], [], (0, 0), h1)) rfl ?_
        refine ab_W.go (mm _) 1 (c' := (85, [.ref 84, .int (nI s), .int (nI 4)], [.ref 84], (0, 0), h1)) rfl ?_
        refine ab_W.o (mm _) (h01) rfl (c' := (88, [.ref 84, .int (nI s), .int (nI 4)], [.ref 86], (0, 0), h1)) rfl ?_
        refine ab_W.go (mm _) 1 (c' := (89, [.ref 84, .int (nI s), .int (nI 4)], [.int (nI s), .ref 86], (0, 0), h1)) rfl ?_
        refine ab_W.lald (mm _) (j := s) (n1') rfl (by omega) rfl rfl ?_
        show ab_W _ _ _ (90, [.ref 84, .int (nI s), .int (nI 4)], [.long (gN s)], (0, 0), h1)
        refine ab_W.topl (n2 s hs) ?_
        refine ab_W.go (mm _) 2 (c' := (92, [.ref 84, .int (nI s), .int (nI 4)], [.int (lg_cmp (nm σ.1 s) (lN 0))], (0, 0), h1)) rfl ?_
        obtain ⟨z1, z2, -⟩ := lsN_ok (nm σ.1 s)
        refine ab_W.ite (mm _) (p := (lg_cmp (nm σ.1 s) (lN 0)) = 0) (c1 := (95, [.ref 84, .int (nI s), .int (nI 4)], [], (0, 0), h1)) (c2 := (100, [.ref 84, .int (nI s), .int (nI 4)], [], (0, 0), h1)) rfl (fun q => ?_) (fun q => ?_)
        · skip
          rw [ci_t ((lg_cmp0 _ _).mp q)] at hp
          refine ab_W.go (mm _) 2 (c' := (112, [.ref 84, .int (nI s), .int (nI 4)], [.int (-(nI 6))], (0, 0), h1)) rfl ?_
          refine ab_W.retI (mm _) (rt := some .int) (v := -(nI 6)) rfl rfl ?_
          exact hp _ hR1 hk1
        · skip
          have q : ¬ nm σ.1 s = lN 0 := fun z => q ((lg_cmp0 _ _).mpr z)
          rw [ci_f q] at hp
          refine ab_W.go (mm _) 1 (c' := (101, [.ref 84, .int (nI s), .int (nI 4)], [.ref 84], (0, 0), h1)) rfl ?_
          refine ab_W.o (mm _) (h01) rfl (c' := (104, [.ref 84, .int (nI s), .int (nI 4)], [.ref 86], (0, 0), h1)) rfl ?_
          refine ab_W.go (mm _) 1 (c' := (105, [.ref 84, .int (nI s), .int (nI 4)], [.int (nI s), .ref 86], (0, 0), h1)) rfl ?_
          refine ab_W.lald (mm _) (j := s) (n1') rfl (by omega) rfl rfl ?_
          show ab_W _ _ _ (106, [.ref 84, .int (nI s), .int (nI 4)], [.long (gN s)], (0, 0), h1)
          refine ab_W.topl (n2 s hs) ?_
          refine ab_W.call (mm _) (k := 75) (av := [.long (nm σ.1 s)]) (c' := (109, [.ref 84, .int (nI s), .int (nI 4)], [], (0, 0), h1)) rfl ?_
          refine mleastSpan _ ?_
          show ab_W _ _ _ (109, [.ref 84, .int (nI s), .int (nI 4)], [.int (nI (lsN (nm σ.1 s)))], (0, 0), h1)
          refine ab_W.call (mm _) (k := 70) (av := [.int (nI (lsN (nm σ.1 s)))]) (c' := (112, [.ref 84, .int (nI s), .int (nI 4)], [], (0, 0), h1)) rfl ?_
          refine mdepthOf _ z1 z2 ?_
          show ab_W _ _ _ (112, [.ref 84, .int (nI s), .int (nI 4)], [.int (nI (dep (lsN (nm σ.1 s))))], (0, 0), h1)
          refine ab_W.retI (mm _) (rt := some .int) (v := nI (dep (lsN (nm σ.1 s)))) rfl rfl ?_
          exact hp _ hR1 hk1
      | n + 5, z => exact absurd z (by omega)
