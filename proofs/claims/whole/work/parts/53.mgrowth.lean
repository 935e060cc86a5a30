/-! THE REFERENCE: growth -/
theorem sp_m_growth (d : Nat) {h : ab_H} {σ : Sg} {x : Int32} {y : Int32} (hR : relM h σ) {post : ab_P} (hp : okM h post (growthO σ.1 y (stN σ.1 x)) (σ)) : mCC (d + 9) kSpanStampsModel_growth [.ref 84, .int x, .int y] h post := by
  obtain ⟨⟨sz, op, h0⟩, hB, hN, hK, hH, -⟩ := id hR
  obtain ⟨gB, b1, b2⟩ := id hB
  obtain ⟨gN, n1, n2⟩ := id hN
  obtain ⟨gK, k1, k2⟩ := id hK
  obtain ⟨gH, m1, m2⟩ := id hH
  rcases stamp_or σ.1 x with hx | ⟨s, hs, rfl, hx⟩
  · rw [stN_no hx] at hp
    refine ⟨rfl, ?_⟩
    show ab_W _ _ _ (0, [.ref 84, .int x, .int y, .retAddr 0, .retAddr 0], [], (0, 0), h)
    refine ab_W.go (mm _) 2 (c' := (2, [.ref 84, .int x, .int y, .retAddr 0, .retAddr 0], [.int x, .ref 84], (0, 0), h)) rfl ?_
    refine ab_W.callV (mm _) (h0) rfl (k := 65) (av := [.ref 84, .int x]) (c' := (5, [.ref 84, .int x, .int y, .retAddr 0, .retAddr 0], [], (0, 0), h)) rfl ?_
    refine sp_isN _ h0 hB hx ?_
    show ab_W _ _ _ (5, [.ref 84, .int x, .int y, .retAddr 0, .retAddr 0], [.int (nI 0)], (0, 0), h)
    refine ab_W.itT (mm _) (p := (nI 0) = 0) (c1 := (8, [.ref 84, .int x, .int y, .retAddr 0, .retAddr 0], [], (0, 0), h)) (c2 := (10, [.ref 84, .int x, .int y, .retAddr 0, .retAddr 0], [], (0, 0), h)) rfl (nI_0) ?_
    refine ab_W.go (mm _) 1 (c' := (9, [.ref 84, .int x, .int y, .retAddr 0, .retAddr 0], [.int (-(nI 1))], (0, 0), h)) rfl ?_
    refine ab_W.retI (mm _) (rt := some .int) (v := -(nI 1)) rfl rfl ?_
    exact hp h hR (fun _ _ => rfl)
  · rw [stN_yes hs hx] at hp
    refine ⟨rfl, ?_⟩
    show ab_W _ _ _ (0, [.ref 84, .int (nI s), .int y, .retAddr 0, .retAddr 0], [], (0, 0), h)
    refine ab_W.go (mm _) 2 (c' := (2, [.ref 84, .int (nI s), .int y, .retAddr 0, .retAddr 0], [.int (nI s), .ref 84], (0, 0), h)) rfl ?_
    refine ab_W.callV (mm _) (h0) rfl (k := 65) (av := [.ref 84, .int (nI s)]) (c' := (5, [.ref 84, .int (nI s), .int y, .retAddr 0, .retAddr 0], [], (0, 0), h)) rfl ?_
    refine sp_isY _ h0 hB hs hx ?_
    show ab_W _ _ _ (5, [.ref 84, .int (nI s), .int y, .retAddr 0, .retAddr 0], [.int (nI 1)], (0, 0), h)
    refine ab_W.itF (mm _) (p := (nI 1) = 0) (c1 := (8, [.ref 84, .int (nI s), .int y, .retAddr 0, .retAddr 0], [], (0, 0), h)) (c2 := (10, [.ref 84, .int (nI s), .int y, .retAddr 0, .retAddr 0], [], (0, 0), h)) rfl (nI_ne01) ?_
    refine ab_W.go (mm _) 3 (c' := (13, [.ref 84, .int (nI s), .int y, .retAddr 0, .retAddr 0], [.int (nI 4), .int (nI 0), .int y], (0, 0), h)) rfl ?_
    refine ab_W.call (mm _) (k := 64) (av := [.int y, .int (nI 0), .int (nI 4)]) (c' := (16, [.ref 84, .int (nI s), .int y, .retAddr 0, .retAddr 0], [], (0, 0), h)) rfl ?_
    refine min_ _ (fun v hv => ?_)
    rcases pk_ix y (n := 5) (by decide) with q | q | ⟨j, j1, rfl⟩
    · rw [show growthO σ.1 y (some s) = _ from ci_t (Or.inl q)] at hp
      have ev : v = nI 0 := hv.elim (fun z => absurd q (Int32.not_lt.mpr z.1.1)) (fun z => z.2)
      subst ev
      show ab_W _ _ _ (16, [.ref 84, .int (nI s), .int y, .retAddr 0, .retAddr 0], [.int (nI 0)], (0, 0), h)
      refine ab_W.itT (mm _) (p := (nI 0) = 0) (c1 := (19, [.ref 84, .int (nI s), .int y, .retAddr 0, .retAddr 0], [], (0, 0), h)) (c2 := (22, [.ref 84, .int (nI s), .int y, .retAddr 0, .retAddr 0], [], (0, 0), h)) rfl (nI_0) ?_
      refine ab_W.go (mm _) 1 (c' := (21, [.ref 84, .int (nI s), .int y, .retAddr 0, .retAddr 0], [.int (-(nI 2))], (0, 0), h)) rfl ?_
      refine ab_W.retI (mm _) (rt := some .int) (v := -(nI 2)) rfl rfl ?_
      exact hp h hR (fun _ _ => rfl)
    · have q' : nI 4 < y := by
        have a := Int32.le_iff_toInt_le.mp q
        have b : (nI 4).toInt < (nI 5).toInt := by decide
        exact Int32.lt_iff_toInt_lt.mpr (Int.lt_of_lt_of_le b a)
      rw [show growthO σ.1 y (some s) = _ from ci_t (Or.inr q')] at hp
      have ev : v = nI 0 := hv.elim (fun z => absurd z.1.2 (Int32.not_le.mpr q')) (fun z => z.2)
      subst ev
      show ab_W _ _ _ (16, [.ref 84, .int (nI s), .int y, .retAddr 0, .retAddr 0], [.int (nI 0)], (0, 0), h)
      refine ab_W.itT (mm _) (p := (nI 0) = 0) (c1 := (19, [.ref 84, .int (nI s), .int y, .retAddr 0, .retAddr 0], [], (0, 0), h)) (c2 := (22, [.ref 84, .int (nI s), .int y, .retAddr 0, .retAddr 0], [], (0, 0), h)) rfl (nI_0) ?_
      refine ab_W.go (mm _) 1 (c' := (21, [.ref 84, .int (nI s), .int y, .retAddr 0, .retAddr 0], [.int (-(nI 2))], (0, 0), h)) rfl ?_
      refine ab_W.retI (mm _) (rt := some .int) (v := -(nI 2)) rfl rfl ?_
      exact hp h hR (fun _ _ => rfl)
    · have ev : v = nI 1 := hv.elim (fun z => z.2) (fun z => absurd ⟨Int32.not_lt.mp (nI_pos (by omega)), (nI_leI (by omega) (by omega)).mpr (show j ≤ 4 by omega)⟩ z.1)
      subst ev
      rw [show growthO σ.1 (nI j) (some s) = _ from ci_f (fun z => z.elim (nI_pos (by omega)) (fun z => absurd ((nI_leI (a := j) (b := 4) (by omega) (by omega)).mpr (by omega)) (Int32.not_le.mpr z))), nI_clamp (by omega)] at hp
      show ab_W _ _ _ (16, [.ref 84, .int (nI s), .int (nI j), .retAddr 0, .retAddr 0], [.int (nI 1)], (0, 0), h)
      refine ab_W.itF (mm _) (p := (nI 1) = 0) (c1 := (19, [.ref 84, .int (nI s), .int (nI j), .retAddr 0, .retAddr 0], [], (0, 0), h)) (c2 := (22, [.ref 84, .int (nI s), .int (nI j), .retAddr 0, .retAddr 0], [], (0, 0), h)) rfl (nI_ne01) ?_
      refine ab_W.go (mm _) 1 (c' := (23, [.ref 84, .int (nI s), .int (nI j), .retAddr 0, .retAddr 0], [.ref 84], (0, 0), h)) rfl ?_
      refine ab_W.o (mm _) (h0) rfl (c' := (26, [.ref 84, .int (nI s), .int (nI j), .retAddr 0, .retAddr 0], [.ref 86], (0, 0), h)) rfl ?_
      refine ab_W.go (mm _) 1 (c' := (27, [.ref 84, .int (nI s), .int (nI j), .retAddr 0, .retAddr 0], [.int (nI s), .ref 86], (0, 0), h)) rfl ?_
      refine ab_W.lald (mm _) (j := s) (n1) rfl (by omega) rfl rfl ?_
      show ab_W _ _ _ (28, [.ref 84, .int (nI s), .int (nI j), .retAddr 0, .retAddr 0], [.long (gN s)], (0, 0), h)
      refine ab_W.topl (n2 s hs) ?_
      refine ab_W.go (mm _) 2 (c' := (30, [.ref 84, .int (nI s), .int (nI j), .retAddr 0, .retAddr 0], [.int (lg_cmp (nm σ.1 s) (lN 0))], (0, 0), h)) rfl ?_
      refine ab_W.ite (mm _) (p := (lg_cmp (nm σ.1 s) (lN 0)) = 0) (c1 := (33, [.ref 84, .int (nI s), .int (nI j), .retAddr 0, .retAddr 0], [], (0, 0), h)) (c2 := (36, [.ref 84, .int (nI s), .int (nI j), .retAddr 0, .retAddr 0], [], (0, 0), h)) rfl (fun q => ?_) (fun q => ?_)
      · skip
        rw [ci_t ((lg_cmp0 _ _).mp q)] at hp
        refine ab_W.go (mm _) 1 (c' := (35, [.ref 84, .int (nI s), .int (nI j), .retAddr 0, .retAddr 0], [.int (-(nI 3))], (0, 0), h)) rfl ?_
        refine ab_W.retI (mm _) (rt := some .int) (v := -(nI 3)) rfl rfl ?_
        exact hp h hR (fun _ _ => rfl)
      · skip
        have q : ¬ nm σ.1 s = lN 0 := fun z => q ((lg_cmp0 _ _).mpr z)
        rw [ci_f q] at hp
        obtain ⟨-, -, -, -, -, ⟨⟨gs, ms⟩, ⟨gw, m90⟩, -⟩, -⟩ := id hR
        have l89 := hA_lt ms
        refine ab_W.go (mm _) 2 (c' := (38, [.ref 84, .int (nI s), .int (nI j), .retAddr 0, .retAddr 0], [.int (nI s), .ref 84], (0, 0), h)) rfl ?_
        refine ab_W.callV (mm _) (h0) rfl (k := 85) (av := [.ref 84, .int (nI s)]) (c' := (41, [.ref 84, .int (nI s), .int (nI j), .retAddr 0, .retAddr 0], [], (0, 0), h)) rfl ?_
        refine sp_mlook _ h0 hH hs ms (fun f hf => ?_)
        have h01 : (hA h 89 f)[84]? = some (mObj (nI (hn σ.1)) sz op) := (hA_ne (by decide)).trans h0
        have n1' : (hA h 89 f)[86]? = some (.inl (1, 12, .inr (.inl gN))) := (hA_ne (by decide)).trans n1
        have nw : nowP (hA h 89 f) f := hA_at l89
        have w90 : (hA h 89 f)[90]? = some (.inl (0, 128, .inl gw)) := (hA_ne (by decide)).trans m90
        have kk1 : ∀ i, i ≠ 89 → (hA h 89 f)[i]? = h[i]? := fun i hi => hA_ne (fun z => hi z.symm)
        obtain ⟨h1, e1⟩ : ∃ h1, h1 = hA h 89 f := ⟨_, rfl⟩
        rw [← e1] at h01 n1' nw w90 kk1
        show ab_W _ _ _ (41, [.ref 84, .int (nI s), .int (nI j), .retAddr 0, .retAddr 0], [], (0, 0), hA h 89 f)
        refine ab_W.hp (e1.symm) ?_
        show ab_W _ _ _ (41, [.ref 84, .int (nI s), .int (nI j), .retAddr 0, .retAddr 0], [], (0, 0), h1)
        refine ab_W.go (mm _) 2 (c' := (43, [.ref 84, .int (nI s), .int (nI j), .retAddr 0, .retAddr 0], [.ref 84, .ref 84], (0, 0), h1)) rfl ?_
        refine ab_W.o (mm _) (h01) rfl (c' := (46, [.ref 84, .int (nI s), .int (nI j), .retAddr 0, .retAddr 0], [.ref 86, .ref 84], (0, 0), h1)) rfl ?_
        refine ab_W.go (mm _) 1 (c' := (47, [.ref 84, .int (nI s), .int (nI j), .retAddr 0, .retAddr 0], [.int (nI s), .ref 86, .ref 84], (0, 0), h1)) rfl ?_
        refine ab_W.lald (mm _) (j := s) (n1') rfl (by omega) rfl rfl ?_
        show ab_W _ _ _ (48, [.ref 84, .int (nI s), .int (nI j), .retAddr 0, .retAddr 0], [.long (gN s), .ref 84], (0, 0), h1)
        refine ab_W.topl (n2 s hs) ?_
        refine ab_W.callV (mm _) (h01) rfl (k := 88) (av := [.ref 84, .long (nm σ.1 s)]) (c' := (51, [.ref 84, .int (nI s), .int (nI j), .retAddr 0, .retAddr 0], [], (0, 0), h1)) rfl ?_
        refine sp_mfill _ h01 nw w90 (fun h2 G nG eG s90 kk2 => ?_)
        have kk3 : ∀ i, i ≠ 89 → i ≠ 90 → h2[i]? = h[i]? := fun i i1 i2 => (kk2 i i1 i2).trans (kk1 i i1)
        have h02 := (kk3 84 (by decide) (by decide)).trans h0
        have n2' := (kk3 86 (by decide) (by decide)).trans n1
        have H2 := hH.kept (kk3 88 (by decide) (by decide))
        have hR2 : relM h2 σ := hR.scr ⟨G, nG⟩ s90 kk3
        have eH : ∀ c, c < 64 → G c = fl (nm σ.1 s) 6 1 (ht σ.1 s) c := fun c hc => (eG c hc).trans (fl_all hf c hc)
        have en : chF G (ht σ.1 s) 64 = nch (nm σ.1 s) (ht σ.1 s) := cn_congr (fun c hc => by rw [eH c hc])
        show ab_W _ _ _ (51, [.ref 84, .int (nI s), .int (nI j), .retAddr 0, .retAddr 0], [], (0, 0), h2)
        refine ab_W.go (mm _) 2 (c' := (53, [.ref 84, .int (nI s), .int (nI j), .retAddr 0, .retAddr 0], [.int (nI s), .ref 84], (0, 0), h2)) rfl ?_
        refine ab_W.callV (mm _) (h02) rfl (k := 89) (av := [.ref 84, .int (nI s)]) (c' := (56, [.ref 84, .int (nI s), .int (nI j), .retAddr 0, .retAddr 0], [], (0, 0), h2)) rfl ?_
        refine sp_mchanged _ h02 H2 hs nG ?_
        show ab_W _ _ _ (56, [.ref 84, .int (nI s), .int (nI j), .retAddr 0, .retAddr 0], [.int (nI (chF G (ht σ.1 s) 64))], (0, 0), h2)
        rw [en]
        have l64 : nch (nm σ.1 s) (ht σ.1 s) ≤ 64 := cn_le _ 64
        have eS : nch (nm σ.1 s) (ht σ.1 s) = 0 → ∀ c, c < 64 → G c = ht σ.1 s c := fun z c hc => (eH c hc).trans (Classical.not_not.mp (cn_zero z c hc))
        match j, j1 with
        | 0, _ =>
          refine ab_W.go (mm _) 2 (c' := (58, [.ref 84, .int (nI s), .int (nI 0), .int (nI (nch (nm σ.1 s) (ht σ.1 s))), .retAddr 0], [.int (nI (nch (nm σ.1 s) (ht σ.1 s)))], (0, 0), h2)) rfl ?_
          refine ab_W.ite (mm _) (p := (nI (nch (nm σ.1 s) (ht σ.1 s))) ≤ 0) (c1 := (81, [.ref 84, .int (nI s), .int (nI 0), .int (nI (nch (nm σ.1 s) (ht σ.1 s))), .retAddr 0], [], (0, 0), h2)) (c2 := (61, [.ref 84, .int (nI s), .int (nI 0), .int (nI (nch (nm σ.1 s) (ht σ.1 s))), .retAddr 0], [], (0, 0), h2)) rfl (fun q2 => ?_) (fun q2 => ?_)
          · skip
            have q2 : nch (nm σ.1 s) (ht σ.1 s) = 0 := by
              have := (nI_leI (a := nch (nm σ.1 s) (ht σ.1 s)) (b := 0) (by omega) (by omega)).mp (by rw [nI_0]; exact q2)
              omega
            have np : ¬ 0 < nch (nm σ.1 s) (ht σ.1 s) := by omega
            rw [show grF (nm σ.1 s) (ht σ.1 s) 0 = _ from ci_f np] at hp
            refine ab_W.go (mm _) 2 (c' := (83, [.ref 84, .int (nI s), .int (nI 0), .int (nI (nch (nm σ.1 s) (ht σ.1 s))), .retAddr 0], [.ref 84, .ref 84], (0, 0), h2)) rfl ?_
            refine ab_W.o (mm _) (h02) rfl (c' := (86, [.ref 84, .int (nI s), .int (nI 0), .int (nI (nch (nm σ.1 s) (ht σ.1 s))), .retAddr 0], [.ref 86, .ref 84], (0, 0), h2)) rfl ?_
            refine ab_W.go (mm _) 1 (c' := (87, [.ref 84, .int (nI s), .int (nI 0), .int (nI (nch (nm σ.1 s) (ht σ.1 s))), .retAddr 0], [.int (nI s), .ref 86, .ref 84], (0, 0), h2)) rfl ?_
            refine ab_W.lald (mm _) (j := s) (n2') rfl (by omega) rfl rfl ?_
            show ab_W _ _ _ (88, [.ref 84, .int (nI s), .int (nI 0), .int (nI (nch (nm σ.1 s) (ht σ.1 s))), .retAddr 0], [.long (gN s), .ref 84], (0, 0), h2)
            refine ab_W.topl (n2 s hs) ?_
            refine ab_W.callV (mm _) (h02) rfl (k := 92) (av := [.ref 84, .long (nm σ.1 s)]) (c' := (91, [.ref 84, .int (nI s), .int (nI 0), .int (nI (nch (nm σ.1 s) (ht σ.1 s))), .retAddr 0], [], (0, 0), h2)) rfl ?_
            refine sp_mbest _ h02 nG (isP_ex q) (fun k hk => ?_)
            have hk' := hk.congr (eS q2)
            obtain ⟨⟨k1, k2, k3⟩, -⟩ := id hk
            have ec := cst_congr (eS q2) k1 k2
            
            show ab_W _ _ _ (91, [.ref 84, .int (nI s), .int (nI 0), .int (nI (nch (nm σ.1 s) (ht σ.1 s))), .retAddr 0], [.int (nI k)], (0, 0), h2)
            refine ab_W.go (mm _) 2 (c' := (94, [.ref 84, .int (nI s), .int (nI 0), .int (nI (nch (nm σ.1 s) (ht σ.1 s))), .int (nI k)], [.int (nI 0)], (0, 0), h2)) rfl ?_
            refine ab_W.itT (mm _) (p := (nI 0) = 0) (c1 := (97, [.ref 84, .int (nI s), .int (nI 0), .int (nI (nch (nm σ.1 s) (ht σ.1 s))), .int (nI k)], [], (0, 0), h2)) (c2 := (101, [.ref 84, .int (nI s), .int (nI 0), .int (nI (nch (nm σ.1 s) (ht σ.1 s))), .int (nI k)], [], (0, 0), h2)) rfl (nI_0) ?_
            refine ab_W.go (mm _) 2 (c' := (146, [.ref 84, .int (nI s), .int (nI 0), .int (nI (nch (nm σ.1 s) (ht σ.1 s))), .int (nI k)], [.int (nI 0)], (0, 0), h2)) rfl ?_
            refine ab_W.retI (mm _) (rt := some .int) (v := nI 0) rfl rfl ?_
            exact hp _ hR2 (fun i hi => kk3 i (by omega) (by omega))
          · skip
            have np : 0 < nch (nm σ.1 s) (ht σ.1 s) := by
              rcases Nat.eq_zero_or_pos (nch (nm σ.1 s) (ht σ.1 s)) with z | z
              · exact absurd (by rw [z]; decide) q2
              · exact z
            rw [show grF (nm σ.1 s) (ht σ.1 s) 0 = _ from ci_t np] at hp
            refine ab_W.go (mm _) 1 (c' := (62, [.ref 84, .int (nI s), .int (nI 0), .int (nI (nch (nm σ.1 s) (ht σ.1 s))), .retAddr 0], [.int (nI 0)], (0, 0), h2)) rfl ?_
            refine ab_W.itT (mm _) (p := (nI 0) = 0) (c1 := (65, [.ref 84, .int (nI s), .int (nI 0), .int (nI (nch (nm σ.1 s) (ht σ.1 s))), .retAddr 0], [], (0, 0), h2)) (c2 := (69, [.ref 84, .int (nI s), .int (nI 0), .int (nI (nch (nm σ.1 s) (ht σ.1 s))), .retAddr 0], [], (0, 0), h2)) rfl (nI_0) ?_
            refine ab_W.go (mm _) 2 (c' := (80, [.ref 84, .int (nI s), .int (nI 0), .int (nI (nch (nm σ.1 s) (ht σ.1 s))), .retAddr 0], [.int (nI 1)], (0, 0), h2)) rfl ?_
            refine ab_W.retI (mm _) (rt := some .int) (v := nI 1) rfl rfl ?_
            exact hp _ hR2 (fun i hi => kk3 i (by omega) (by omega))
        | 1, _ =>
          refine ab_W.go (mm _) 2 (c' := (58, [.ref 84, .int (nI s), .int (nI 1), .int (nI (nch (nm σ.1 s) (ht σ.1 s))), .retAddr 0], [.int (nI (nch (nm σ.1 s) (ht σ.1 s)))], (0, 0), h2)) rfl ?_
          refine ab_W.ite (mm _) (p := (nI (nch (nm σ.1 s) (ht σ.1 s))) ≤ 0) (c1 := (81, [.ref 84, .int (nI s), .int (nI 1), .int (nI (nch (nm σ.1 s) (ht σ.1 s))), .retAddr 0], [], (0, 0), h2)) (c2 := (61, [.ref 84, .int (nI s), .int (nI 1), .int (nI (nch (nm σ.1 s) (ht σ.1 s))), .retAddr 0], [], (0, 0), h2)) rfl (fun q2 => ?_) (fun q2 => ?_)
          · skip
            have q2 : nch (nm σ.1 s) (ht σ.1 s) = 0 := by
              have := (nI_leI (a := nch (nm σ.1 s) (ht σ.1 s)) (b := 0) (by omega) (by omega)).mp (by rw [nI_0]; exact q2)
              omega
            have np : ¬ 0 < nch (nm σ.1 s) (ht σ.1 s) := by omega
            rw [show grF (nm σ.1 s) (ht σ.1 s) 1 = _ from ci_f np] at hp
            refine ab_W.go (mm _) 2 (c' := (83, [.ref 84, .int (nI s), .int (nI 1), .int (nI (nch (nm σ.1 s) (ht σ.1 s))), .retAddr 0], [.ref 84, .ref 84], (0, 0), h2)) rfl ?_
            refine ab_W.o (mm _) (h02) rfl (c' := (86, [.ref 84, .int (nI s), .int (nI 1), .int (nI (nch (nm σ.1 s) (ht σ.1 s))), .retAddr 0], [.ref 86, .ref 84], (0, 0), h2)) rfl ?_
            refine ab_W.go (mm _) 1 (c' := (87, [.ref 84, .int (nI s), .int (nI 1), .int (nI (nch (nm σ.1 s) (ht σ.1 s))), .retAddr 0], [.int (nI s), .ref 86, .ref 84], (0, 0), h2)) rfl ?_
            refine ab_W.lald (mm _) (j := s) (n2') rfl (by omega) rfl rfl ?_
            show ab_W _ _ _ (88, [.ref 84, .int (nI s), .int (nI 1), .int (nI (nch (nm σ.1 s) (ht σ.1 s))), .retAddr 0], [.long (gN s), .ref 84], (0, 0), h2)
            refine ab_W.topl (n2 s hs) ?_
            refine ab_W.callV (mm _) (h02) rfl (k := 92) (av := [.ref 84, .long (nm σ.1 s)]) (c' := (91, [.ref 84, .int (nI s), .int (nI 1), .int (nI (nch (nm σ.1 s) (ht σ.1 s))), .retAddr 0], [], (0, 0), h2)) rfl ?_
            refine sp_mbest _ h02 nG (isP_ex q) (fun k hk => ?_)
            have hk' := hk.congr (eS q2)
            obtain ⟨⟨k1, k2, k3⟩, -⟩ := id hk
            have ec := cst_congr (eS q2) k1 k2
            rw [bst_eq hk'] at hp
            show ab_W _ _ _ (91, [.ref 84, .int (nI s), .int (nI 1), .int (nI (nch (nm σ.1 s) (ht σ.1 s))), .retAddr 0], [.int (nI k)], (0, 0), h2)
            refine ab_W.go (mm _) 2 (c' := (94, [.ref 84, .int (nI s), .int (nI 1), .int (nI (nch (nm σ.1 s) (ht σ.1 s))), .int (nI k)], [.int (nI 1)], (0, 0), h2)) rfl ?_
            refine ab_W.itF (mm _) (p := (nI 1) = 0) (c1 := (97, [.ref 84, .int (nI s), .int (nI 1), .int (nI (nch (nm σ.1 s) (ht σ.1 s))), .int (nI k)], [], (0, 0), h2)) (c2 := (101, [.ref 84, .int (nI s), .int (nI 1), .int (nI (nch (nm σ.1 s) (ht σ.1 s))), .int (nI k)], [], (0, 0), h2)) rfl ((by decide)) ?_
            refine ab_W.go (mm _) 2 (c' := (103, [.ref 84, .int (nI s), .int (nI 1), .int (nI (nch (nm σ.1 s) (ht σ.1 s))), .int (nI k)], [.int (nI 1), .int (nI 1)], (0, 0), h2)) rfl ?_
            refine ab_W.itT (mm _) (p := (nI 1) = (nI 1)) (c1 := (106, [.ref 84, .int (nI s), .int (nI 1), .int (nI (nch (nm σ.1 s) (ht σ.1 s))), .int (nI k)], [], (0, 0), h2)) (c2 := (114, [.ref 84, .int (nI s), .int (nI 1), .int (nI (nch (nm σ.1 s) (ht σ.1 s))), .int (nI k)], [], (0, 0), h2)) rfl (rfl) ?_
            refine ab_W.go (mm _) 1 (c' := (108, [.ref 84, .int (nI s), .int (nI 1), .int (nI (nch (nm σ.1 s) (ht σ.1 s))), .int (nI k)], [.int (nI k)], (0, 0), h2)) rfl ?_
            refine ab_W.call (mm _) (k := 71) (av := [.int (nI k)]) (c' := (111, [.ref 84, .int (nI s), .int (nI 1), .int (nI (nch (nm σ.1 s) (ht σ.1 s))), .int (nI k)], [], (0, 0), h2)) rfl ?_
            refine msizeOf _ k1 k2 ?_
            show ab_W _ _ _ (111, [.ref 84, .int (nI s), .int (nI 1), .int (nI (nch (nm σ.1 s) (ht σ.1 s))), .int (nI k)], [.int (nI (siz k))], (0, 0), h2)
            refine ab_W.go (mm _) 1 (c' := (146, [.ref 84, .int (nI s), .int (nI 1), .int (nI (nch (nm σ.1 s) (ht σ.1 s))), .int (nI k)], [.int (nI (siz k))], (0, 0), h2)) rfl ?_
            refine ab_W.retI (mm _) (rt := some .int) (v := nI (siz k)) rfl rfl ?_
            exact hp _ hR2 (fun i hi => kk3 i (by omega) (by omega))
          · skip
            have np : 0 < nch (nm σ.1 s) (ht σ.1 s) := by
              rcases Nat.eq_zero_or_pos (nch (nm σ.1 s) (ht σ.1 s)) with z | z
              · exact absurd (by rw [z]; decide) q2
              · exact z
            rw [show grF (nm σ.1 s) (ht σ.1 s) 1 = _ from ci_t np] at hp
            refine ab_W.go (mm _) 1 (c' := (62, [.ref 84, .int (nI s), .int (nI 1), .int (nI (nch (nm σ.1 s) (ht σ.1 s))), .retAddr 0], [.int (nI 1)], (0, 0), h2)) rfl ?_
            refine ab_W.itF (mm _) (p := (nI 1) = 0) (c1 := (65, [.ref 84, .int (nI s), .int (nI 1), .int (nI (nch (nm σ.1 s) (ht σ.1 s))), .retAddr 0], [], (0, 0), h2)) (c2 := (69, [.ref 84, .int (nI s), .int (nI 1), .int (nI (nch (nm σ.1 s) (ht σ.1 s))), .retAddr 0], [], (0, 0), h2)) rfl ((by decide)) ?_
            refine ab_W.go (mm _) 2 (c' := (71, [.ref 84, .int (nI s), .int (nI 1), .int (nI (nch (nm σ.1 s) (ht σ.1 s))), .retAddr 0], [.int (nI 1), .int (nI 1)], (0, 0), h2)) rfl ?_
            refine ab_W.itT (mm _) (p := (nI 1) = (nI 1)) (c1 := (74, [.ref 84, .int (nI s), .int (nI 1), .int (nI (nch (nm σ.1 s) (ht σ.1 s))), .retAddr 0], [], (0, 0), h2)) (c2 := (78, [.ref 84, .int (nI s), .int (nI 1), .int (nI (nch (nm σ.1 s) (ht σ.1 s))), .retAddr 0], [], (0, 0), h2)) rfl (rfl) ?_
            refine ab_W.go (mm _) 2 (c' := (80, [.ref 84, .int (nI s), .int (nI 1), .int (nI (nch (nm σ.1 s) (ht σ.1 s))), .retAddr 0], [.int (nI (nch (nm σ.1 s) (ht σ.1 s)))], (0, 0), h2)) rfl ?_
            refine ab_W.retI (mm _) (rt := some .int) (v := nI (nch (nm σ.1 s) (ht σ.1 s))) rfl rfl ?_
            exact hp _ hR2 (fun i hi => kk3 i (by omega) (by omega))
        | 2, _ =>
          refine ab_W.go (mm _) 2 (c' := (58, [.ref 84, .int (nI s), .int (nI 2), .int (nI (nch (nm σ.1 s) (ht σ.1 s))), .retAddr 0], [.int (nI (nch (nm σ.1 s) (ht σ.1 s)))], (0, 0), h2)) rfl ?_
          refine ab_W.ite (mm _) (p := (nI (nch (nm σ.1 s) (ht σ.1 s))) ≤ 0) (c1 := (81, [.ref 84, .int (nI s), .int (nI 2), .int (nI (nch (nm σ.1 s) (ht σ.1 s))), .retAddr 0], [], (0, 0), h2)) (c2 := (61, [.ref 84, .int (nI s), .int (nI 2), .int (nI (nch (nm σ.1 s) (ht σ.1 s))), .retAddr 0], [], (0, 0), h2)) rfl (fun q2 => ?_) (fun q2 => ?_)
          · skip
            have q2 : nch (nm σ.1 s) (ht σ.1 s) = 0 := by
              have := (nI_leI (a := nch (nm σ.1 s) (ht σ.1 s)) (b := 0) (by omega) (by omega)).mp (by rw [nI_0]; exact q2)
              omega
            have np : ¬ 0 < nch (nm σ.1 s) (ht σ.1 s) := by omega
            rw [show grF (nm σ.1 s) (ht σ.1 s) 2 = _ from ci_f np] at hp
            refine ab_W.go (mm _) 2 (c' := (83, [.ref 84, .int (nI s), .int (nI 2), .int (nI (nch (nm σ.1 s) (ht σ.1 s))), .retAddr 0], [.ref 84, .ref 84], (0, 0), h2)) rfl ?_
            refine ab_W.o (mm _) (h02) rfl (c' := (86, [.ref 84, .int (nI s), .int (nI 2), .int (nI (nch (nm σ.1 s) (ht σ.1 s))), .retAddr 0], [.ref 86, .ref 84], (0, 0), h2)) rfl ?_
            refine ab_W.go (mm _) 1 (c' := (87, [.ref 84, .int (nI s), .int (nI 2), .int (nI (nch (nm σ.1 s) (ht σ.1 s))), .retAddr 0], [.int (nI s), .ref 86, .ref 84], (0, 0), h2)) rfl ?_
            refine ab_W.lald (mm _) (j := s) (n2') rfl (by omega) rfl rfl ?_
            show ab_W _ _ _ (88, [.ref 84, .int (nI s), .int (nI 2), .int (nI (nch (nm σ.1 s) (ht σ.1 s))), .retAddr 0], [.long (gN s), .ref 84], (0, 0), h2)
            refine ab_W.topl (n2 s hs) ?_
            refine ab_W.callV (mm _) (h02) rfl (k := 92) (av := [.ref 84, .long (nm σ.1 s)]) (c' := (91, [.ref 84, .int (nI s), .int (nI 2), .int (nI (nch (nm σ.1 s) (ht σ.1 s))), .retAddr 0], [], (0, 0), h2)) rfl ?_
            refine sp_mbest _ h02 nG (isP_ex q) (fun k hk => ?_)
            have hk' := hk.congr (eS q2)
            obtain ⟨⟨k1, k2, k3⟩, -⟩ := id hk
            have ec := cst_congr (eS q2) k1 k2
            rw [bst_eq hk'] at hp
            show ab_W _ _ _ (91, [.ref 84, .int (nI s), .int (nI 2), .int (nI (nch (nm σ.1 s) (ht σ.1 s))), .retAddr 0], [.int (nI k)], (0, 0), h2)
            refine ab_W.go (mm _) 2 (c' := (94, [.ref 84, .int (nI s), .int (nI 2), .int (nI (nch (nm σ.1 s) (ht σ.1 s))), .int (nI k)], [.int (nI 2)], (0, 0), h2)) rfl ?_
            refine ab_W.itF (mm _) (p := (nI 2) = 0) (c1 := (97, [.ref 84, .int (nI s), .int (nI 2), .int (nI (nch (nm σ.1 s) (ht σ.1 s))), .int (nI k)], [], (0, 0), h2)) (c2 := (101, [.ref 84, .int (nI s), .int (nI 2), .int (nI (nch (nm σ.1 s) (ht σ.1 s))), .int (nI k)], [], (0, 0), h2)) rfl ((by decide)) ?_
            refine ab_W.go (mm _) 2 (c' := (103, [.ref 84, .int (nI s), .int (nI 2), .int (nI (nch (nm σ.1 s) (ht σ.1 s))), .int (nI k)], [.int (nI 1), .int (nI 2)], (0, 0), h2)) rfl ?_
            refine ab_W.itF (mm _) (p := (nI 2) = (nI 1)) (c1 := (106, [.ref 84, .int (nI s), .int (nI 2), .int (nI (nch (nm σ.1 s) (ht σ.1 s))), .int (nI k)], [], (0, 0), h2)) (c2 := (114, [.ref 84, .int (nI s), .int (nI 2), .int (nI (nch (nm σ.1 s) (ht σ.1 s))), .int (nI k)], [], (0, 0), h2)) rfl ((by decide)) ?_
            refine ab_W.go (mm _) 2 (c' := (116, [.ref 84, .int (nI s), .int (nI 2), .int (nI (nch (nm σ.1 s) (ht σ.1 s))), .int (nI k)], [.int (nI 2), .int (nI 2)], (0, 0), h2)) rfl ?_
            refine ab_W.itT (mm _) (p := (nI 2) = (nI 2)) (c1 := (119, [.ref 84, .int (nI s), .int (nI 2), .int (nI (nch (nm σ.1 s) (ht σ.1 s))), .int (nI k)], [], (0, 0), h2)) (c2 := (128, [.ref 84, .int (nI s), .int (nI 2), .int (nI (nch (nm σ.1 s) (ht σ.1 s))), .int (nI k)], [], (0, 0), h2)) rfl (rfl) ?_
            refine ab_W.go (mm _) 2 (c' := (122, [.ref 84, .int (nI s), .int (nI 2), .int (nI (nch (nm σ.1 s) (ht σ.1 s))), .int (nI k)], [.int (nI k), .ref 84], (0, 0), h2)) rfl ?_
            refine ab_W.callV (mm _) (h02) rfl (k := 91) (av := [.ref 84, .int (nI k)]) (c' := (125, [.ref 84, .int (nI s), .int (nI 2), .int (nI (nch (nm σ.1 s) (ht σ.1 s))), .int (nI k)], [], (0, 0), h2)) rfl ?_
            refine sp_mcost _ h02 nG k1 k2 ?_
            show ab_W _ _ _ (125, [.ref 84, .int (nI s), .int (nI 2), .int (nI (nch (nm σ.1 s) (ht σ.1 s))), .int (nI k)], [.int (nI (cst G k))], (0, 0), h2)
            rw [ec]
            refine ab_W.go (mm _) 1 (c' := (146, [.ref 84, .int (nI s), .int (nI 2), .int (nI (nch (nm σ.1 s) (ht σ.1 s))), .int (nI k)], [.int (nI (cst (ht σ.1 s) k))], (0, 0), h2)) rfl ?_
            refine ab_W.retI (mm _) (rt := some .int) (v := nI (cst (ht σ.1 s) k)) rfl rfl ?_
            exact hp _ hR2 (fun i hi => kk3 i (by omega) (by omega))
          · skip
            have np : 0 < nch (nm σ.1 s) (ht σ.1 s) := by
              rcases Nat.eq_zero_or_pos (nch (nm σ.1 s) (ht σ.1 s)) with z | z
              · exact absurd (by rw [z]; decide) q2
              · exact z
            rw [show grF (nm σ.1 s) (ht σ.1 s) 2 = _ from ci_t np] at hp
            refine ab_W.go (mm _) 1 (c' := (62, [.ref 84, .int (nI s), .int (nI 2), .int (nI (nch (nm σ.1 s) (ht σ.1 s))), .retAddr 0], [.int (nI 2)], (0, 0), h2)) rfl ?_
            refine ab_W.itF (mm _) (p := (nI 2) = 0) (c1 := (65, [.ref 84, .int (nI s), .int (nI 2), .int (nI (nch (nm σ.1 s) (ht σ.1 s))), .retAddr 0], [], (0, 0), h2)) (c2 := (69, [.ref 84, .int (nI s), .int (nI 2), .int (nI (nch (nm σ.1 s) (ht σ.1 s))), .retAddr 0], [], (0, 0), h2)) rfl ((by decide)) ?_
            refine ab_W.go (mm _) 2 (c' := (71, [.ref 84, .int (nI s), .int (nI 2), .int (nI (nch (nm σ.1 s) (ht σ.1 s))), .retAddr 0], [.int (nI 1), .int (nI 2)], (0, 0), h2)) rfl ?_
            refine ab_W.itF (mm _) (p := (nI 2) = (nI 1)) (c1 := (74, [.ref 84, .int (nI s), .int (nI 2), .int (nI (nch (nm σ.1 s) (ht σ.1 s))), .retAddr 0], [], (0, 0), h2)) (c2 := (78, [.ref 84, .int (nI s), .int (nI 2), .int (nI (nch (nm σ.1 s) (ht σ.1 s))), .retAddr 0], [], (0, 0), h2)) rfl ((by decide)) ?_
            refine ab_W.go (mm _) 1 (c' := (80, [.ref 84, .int (nI s), .int (nI 2), .int (nI (nch (nm σ.1 s) (ht σ.1 s))), .retAddr 0], [.int (-(nI 6))], (0, 0), h2)) rfl ?_
            refine ab_W.retI (mm _) (rt := some .int) (v := -(nI 6)) rfl rfl ?_
            exact hp _ hR2 (fun i hi => kk3 i (by omega) (by omega))
        | 3, _ =>
          refine ab_W.go (mm _) 2 (c' := (58, [.ref 84, .int (nI s), .int (nI 3), .int (nI (nch (nm σ.1 s) (ht σ.1 s))), .retAddr 0], [.int (nI (nch (nm σ.1 s) (ht σ.1 s)))], (0, 0), h2)) rfl ?_
          refine ab_W.ite (mm _) (p := (nI (nch (nm σ.1 s) (ht σ.1 s))) ≤ 0) (c1 := (81, [.ref 84, .int (nI s), .int (nI 3), .int (nI (nch (nm σ.1 s) (ht σ.1 s))), .retAddr 0], [], (0, 0), h2)) (c2 := (61, [.ref 84, .int (nI s), .int (nI 3), .int (nI (nch (nm σ.1 s) (ht σ.1 s))), .retAddr 0], [], (0, 0), h2)) rfl (fun q2 => ?_) (fun q2 => ?_)
          · skip
            have q2 : nch (nm σ.1 s) (ht σ.1 s) = 0 := by
              have := (nI_leI (a := nch (nm σ.1 s) (ht σ.1 s)) (b := 0) (by omega) (by omega)).mp (by rw [nI_0]; exact q2)
              omega
            have np : ¬ 0 < nch (nm σ.1 s) (ht σ.1 s) := by omega
            rw [show grF (nm σ.1 s) (ht σ.1 s) 3 = _ from ci_f np] at hp
            refine ab_W.go (mm _) 2 (c' := (83, [.ref 84, .int (nI s), .int (nI 3), .int (nI (nch (nm σ.1 s) (ht σ.1 s))), .retAddr 0], [.ref 84, .ref 84], (0, 0), h2)) rfl ?_
            refine ab_W.o (mm _) (h02) rfl (c' := (86, [.ref 84, .int (nI s), .int (nI 3), .int (nI (nch (nm σ.1 s) (ht σ.1 s))), .retAddr 0], [.ref 86, .ref 84], (0, 0), h2)) rfl ?_
            refine ab_W.go (mm _) 1 (c' := (87, [.ref 84, .int (nI s), .int (nI 3), .int (nI (nch (nm σ.1 s) (ht σ.1 s))), .retAddr 0], [.int (nI s), .ref 86, .ref 84], (0, 0), h2)) rfl ?_
            refine ab_W.lald (mm _) (j := s) (n2') rfl (by omega) rfl rfl ?_
            show ab_W _ _ _ (88, [.ref 84, .int (nI s), .int (nI 3), .int (nI (nch (nm σ.1 s) (ht σ.1 s))), .retAddr 0], [.long (gN s), .ref 84], (0, 0), h2)
            refine ab_W.topl (n2 s hs) ?_
            refine ab_W.callV (mm _) (h02) rfl (k := 92) (av := [.ref 84, .long (nm σ.1 s)]) (c' := (91, [.ref 84, .int (nI s), .int (nI 3), .int (nI (nch (nm σ.1 s) (ht σ.1 s))), .retAddr 0], [], (0, 0), h2)) rfl ?_
            refine sp_mbest _ h02 nG (isP_ex q) (fun k hk => ?_)
            have hk' := hk.congr (eS q2)
            obtain ⟨⟨k1, k2, k3⟩, -⟩ := id hk
            have ec := cst_congr (eS q2) k1 k2
            rw [bst_eq hk'] at hp
            show ab_W _ _ _ (91, [.ref 84, .int (nI s), .int (nI 3), .int (nI (nch (nm σ.1 s) (ht σ.1 s))), .retAddr 0], [.int (nI k)], (0, 0), h2)
            refine ab_W.go (mm _) 2 (c' := (94, [.ref 84, .int (nI s), .int (nI 3), .int (nI (nch (nm σ.1 s) (ht σ.1 s))), .int (nI k)], [.int (nI 3)], (0, 0), h2)) rfl ?_
            refine ab_W.itF (mm _) (p := (nI 3) = 0) (c1 := (97, [.ref 84, .int (nI s), .int (nI 3), .int (nI (nch (nm σ.1 s) (ht σ.1 s))), .int (nI k)], [], (0, 0), h2)) (c2 := (101, [.ref 84, .int (nI s), .int (nI 3), .int (nI (nch (nm σ.1 s) (ht σ.1 s))), .int (nI k)], [], (0, 0), h2)) rfl ((by decide)) ?_
            refine ab_W.go (mm _) 2 (c' := (103, [.ref 84, .int (nI s), .int (nI 3), .int (nI (nch (nm σ.1 s) (ht σ.1 s))), .int (nI k)], [.int (nI 1), .int (nI 3)], (0, 0), h2)) rfl ?_
            refine ab_W.itF (mm _) (p := (nI 3) = (nI 1)) (c1 := (106, [.ref 84, .int (nI s), .int (nI 3), .int (nI (nch (nm σ.1 s) (ht σ.1 s))), .int (nI k)], [], (0, 0), h2)) (c2 := (114, [.ref 84, .int (nI s), .int (nI 3), .int (nI (nch (nm σ.1 s) (ht σ.1 s))), .int (nI k)], [], (0, 0), h2)) rfl ((by decide)) ?_
            refine ab_W.go (mm _) 2 (c' := (116, [.ref 84, .int (nI s), .int (nI 3), .int (nI (nch (nm σ.1 s) (ht σ.1 s))), .int (nI k)], [.int (nI 2), .int (nI 3)], (0, 0), h2)) rfl ?_
            refine ab_W.itF (mm _) (p := (nI 3) = (nI 2)) (c1 := (119, [.ref 84, .int (nI s), .int (nI 3), .int (nI (nch (nm σ.1 s) (ht σ.1 s))), .int (nI k)], [], (0, 0), h2)) (c2 := (128, [.ref 84, .int (nI s), .int (nI 3), .int (nI (nch (nm σ.1 s) (ht σ.1 s))), .int (nI k)], [], (0, 0), h2)) rfl ((by decide)) ?_
            refine ab_W.go (mm _) 2 (c' := (130, [.ref 84, .int (nI s), .int (nI 3), .int (nI (nch (nm σ.1 s) (ht σ.1 s))), .int (nI k)], [.int (nI 3), .int (nI 3)], (0, 0), h2)) rfl ?_
            refine ab_W.itT (mm _) (p := (nI 3) = (nI 3)) (c1 := (133, [.ref 84, .int (nI s), .int (nI 3), .int (nI (nch (nm σ.1 s) (ht σ.1 s))), .int (nI k)], [], (0, 0), h2)) (c2 := (141, [.ref 84, .int (nI s), .int (nI 3), .int (nI (nch (nm σ.1 s) (ht σ.1 s))), .int (nI k)], [], (0, 0), h2)) rfl (rfl) ?_
            refine ab_W.go (mm _) 1 (c' := (135, [.ref 84, .int (nI s), .int (nI 3), .int (nI (nch (nm σ.1 s) (ht σ.1 s))), .int (nI k)], [.int (nI k)], (0, 0), h2)) rfl ?_
            refine ab_W.call (mm _) (k := 72) (av := [.int (nI k)]) (c' := (138, [.ref 84, .int (nI s), .int (nI 3), .int (nI (nch (nm σ.1 s) (ht σ.1 s))), .int (nI k)], [], (0, 0), h2)) rfl ?_
            refine mbeginOf _ k1 k2 ?_
            show ab_W _ _ _ (138, [.ref 84, .int (nI s), .int (nI 3), .int (nI (nch (nm σ.1 s) (ht σ.1 s))), .int (nI k)], [.int (nI (beg k))], (0, 0), h2)
            refine ab_W.go (mm _) 1 (c' := (146, [.ref 84, .int (nI s), .int (nI 3), .int (nI (nch (nm σ.1 s) (ht σ.1 s))), .int (nI k)], [.int (nI (beg k))], (0, 0), h2)) rfl ?_
            refine ab_W.retI (mm _) (rt := some .int) (v := nI (beg k)) rfl rfl ?_
            exact hp _ hR2 (fun i hi => kk3 i (by omega) (by omega))
          · skip
            have np : 0 < nch (nm σ.1 s) (ht σ.1 s) := by
              rcases Nat.eq_zero_or_pos (nch (nm σ.1 s) (ht σ.1 s)) with z | z
              · exact absurd (by rw [z]; decide) q2
              · exact z
            rw [show grF (nm σ.1 s) (ht σ.1 s) 3 = _ from ci_t np] at hp
            refine ab_W.go (mm _) 1 (c' := (62, [.ref 84, .int (nI s), .int (nI 3), .int (nI (nch (nm σ.1 s) (ht σ.1 s))), .retAddr 0], [.int (nI 3)], (0, 0), h2)) rfl ?_
            refine ab_W.itF (mm _) (p := (nI 3) = 0) (c1 := (65, [.ref 84, .int (nI s), .int (nI 3), .int (nI (nch (nm σ.1 s) (ht σ.1 s))), .retAddr 0], [], (0, 0), h2)) (c2 := (69, [.ref 84, .int (nI s), .int (nI 3), .int (nI (nch (nm σ.1 s) (ht σ.1 s))), .retAddr 0], [], (0, 0), h2)) rfl ((by decide)) ?_
            refine ab_W.go (mm _) 2 (c' := (71, [.ref 84, .int (nI s), .int (nI 3), .int (nI (nch (nm σ.1 s) (ht σ.1 s))), .retAddr 0], [.int (nI 1), .int (nI 3)], (0, 0), h2)) rfl ?_
            refine ab_W.itF (mm _) (p := (nI 3) = (nI 1)) (c1 := (74, [.ref 84, .int (nI s), .int (nI 3), .int (nI (nch (nm σ.1 s) (ht σ.1 s))), .retAddr 0], [], (0, 0), h2)) (c2 := (78, [.ref 84, .int (nI s), .int (nI 3), .int (nI (nch (nm σ.1 s) (ht σ.1 s))), .retAddr 0], [], (0, 0), h2)) rfl ((by decide)) ?_
            refine ab_W.go (mm _) 1 (c' := (80, [.ref 84, .int (nI s), .int (nI 3), .int (nI (nch (nm σ.1 s) (ht σ.1 s))), .retAddr 0], [.int (-(nI 6))], (0, 0), h2)) rfl ?_
            refine ab_W.retI (mm _) (rt := some .int) (v := -(nI 6)) rfl rfl ?_
            exact hp _ hR2 (fun i hi => kk3 i (by omega) (by omega))
        | 4, _ =>
          refine ab_W.go (mm _) 2 (c' := (58, [.ref 84, .int (nI s), .int (nI 4), .int (nI (nch (nm σ.1 s) (ht σ.1 s))), .retAddr 0], [.int (nI (nch (nm σ.1 s) (ht σ.1 s)))], (0, 0), h2)) rfl ?_
          refine ab_W.ite (mm _) (p := (nI (nch (nm σ.1 s) (ht σ.1 s))) ≤ 0) (c1 := (81, [.ref 84, .int (nI s), .int (nI 4), .int (nI (nch (nm σ.1 s) (ht σ.1 s))), .retAddr 0], [], (0, 0), h2)) (c2 := (61, [.ref 84, .int (nI s), .int (nI 4), .int (nI (nch (nm σ.1 s) (ht σ.1 s))), .retAddr 0], [], (0, 0), h2)) rfl (fun q2 => ?_) (fun q2 => ?_)
          · skip
            have q2 : nch (nm σ.1 s) (ht σ.1 s) = 0 := by
              have := (nI_leI (a := nch (nm σ.1 s) (ht σ.1 s)) (b := 0) (by omega) (by omega)).mp (by rw [nI_0]; exact q2)
              omega
            have np : ¬ 0 < nch (nm σ.1 s) (ht σ.1 s) := by omega
            rw [show grF (nm σ.1 s) (ht σ.1 s) 4 = _ from ci_f np] at hp
            refine ab_W.go (mm _) 2 (c' := (83, [.ref 84, .int (nI s), .int (nI 4), .int (nI (nch (nm σ.1 s) (ht σ.1 s))), .retAddr 0], [.ref 84, .ref 84], (0, 0), h2)) rfl ?_
            refine ab_W.o (mm _) (h02) rfl (c' := (86, [.ref 84, .int (nI s), .int (nI 4), .int (nI (nch (nm σ.1 s) (ht σ.1 s))), .retAddr 0], [.ref 86, .ref 84], (0, 0), h2)) rfl ?_
            refine ab_W.go (mm _) 1 (c' := (87, [.ref 84, .int (nI s), .int (nI 4), .int (nI (nch (nm σ.1 s) (ht σ.1 s))), .retAddr 0], [.int (nI s), .ref 86, .ref 84], (0, 0), h2)) rfl ?_
            refine ab_W.lald (mm _) (j := s) (n2') rfl (by omega) rfl rfl ?_
            show ab_W _ _ _ (88, [.ref 84, .int (nI s), .int (nI 4), .int (nI (nch (nm σ.1 s) (ht σ.1 s))), .retAddr 0], [.long (gN s), .ref 84], (0, 0), h2)
            refine ab_W.topl (n2 s hs) ?_
            refine ab_W.callV (mm _) (h02) rfl (k := 92) (av := [.ref 84, .long (nm σ.1 s)]) (c' := (91, [.ref 84, .int (nI s), .int (nI 4), .int (nI (nch (nm σ.1 s) (ht σ.1 s))), .retAddr 0], [], (0, 0), h2)) rfl ?_
            refine sp_mbest _ h02 nG (isP_ex q) (fun k hk => ?_)
            have hk' := hk.congr (eS q2)
            obtain ⟨⟨k1, k2, k3⟩, -⟩ := id hk
            have ec := cst_congr (eS q2) k1 k2
            rw [bst_eq hk'] at hp
            show ab_W _ _ _ (91, [.ref 84, .int (nI s), .int (nI 4), .int (nI (nch (nm σ.1 s) (ht σ.1 s))), .retAddr 0], [.int (nI k)], (0, 0), h2)
            refine ab_W.go (mm _) 2 (c' := (94, [.ref 84, .int (nI s), .int (nI 4), .int (nI (nch (nm σ.1 s) (ht σ.1 s))), .int (nI k)], [.int (nI 4)], (0, 0), h2)) rfl ?_
            refine ab_W.itF (mm _) (p := (nI 4) = 0) (c1 := (97, [.ref 84, .int (nI s), .int (nI 4), .int (nI (nch (nm σ.1 s) (ht σ.1 s))), .int (nI k)], [], (0, 0), h2)) (c2 := (101, [.ref 84, .int (nI s), .int (nI 4), .int (nI (nch (nm σ.1 s) (ht σ.1 s))), .int (nI k)], [], (0, 0), h2)) rfl ((by decide)) ?_
            refine ab_W.go (mm _) 2 (c' := (103, [.ref 84, .int (nI s), .int (nI 4), .int (nI (nch (nm σ.1 s) (ht σ.1 s))), .int (nI k)], [.int (nI 1), .int (nI 4)], (0, 0), h2)) rfl ?_
            refine ab_W.itF (mm _) (p := (nI 4) = (nI 1)) (c1 := (106, [.ref 84, .int (nI s), .int (nI 4), .int (nI (nch (nm σ.1 s) (ht σ.1 s))), .int (nI k)], [], (0, 0), h2)) (c2 := (114, [.ref 84, .int (nI s), .int (nI 4), .int (nI (nch (nm σ.1 s) (ht σ.1 s))), .int (nI k)], [], (0, 0), h2)) rfl ((by decide)) ?_
            refine ab_W.go (mm _) 2 (c' := (116, [.ref 84, .int (nI s), .int (nI 4), .int (nI (nch (nm σ.1 s) (ht σ.1 s))), .int (nI k)], [.int (nI 2), .int (nI 4)], (0, 0), h2)) rfl ?_
            refine ab_W.itF (mm _) (p := (nI 4) = (nI 2)) (c1 := (119, [.ref 84, .int (nI s), .int (nI 4), .int (nI (nch (nm σ.1 s) (ht σ.1 s))), .int (nI k)], [], (0, 0), h2)) (c2 := (128, [.ref 84, .int (nI s), .int (nI 4), .int (nI (nch (nm σ.1 s) (ht σ.1 s))), .int (nI k)], [], (0, 0), h2)) rfl ((by decide)) ?_
            refine ab_W.go (mm _) 2 (c' := (130, [.ref 84, .int (nI s), .int (nI 4), .int (nI (nch (nm σ.1 s) (ht σ.1 s))), .int (nI k)], [.int (nI 3), .int (nI 4)], (0, 0), h2)) rfl ?_
            refine ab_W.itF (mm _) (p := (nI 4) = (nI 3)) (c1 := (133, [.ref 84, .int (nI s), .int (nI 4), .int (nI (nch (nm σ.1 s) (ht σ.1 s))), .int (nI k)], [], (0, 0), h2)) (c2 := (141, [.ref 84, .int (nI s), .int (nI 4), .int (nI (nch (nm σ.1 s) (ht σ.1 s))), .int (nI k)], [], (0, 0), h2)) rfl ((by decide)) ?_
            refine ab_W.go (mm _) 1 (c' := (143, [.ref 84, .int (nI s), .int (nI 4), .int (nI (nch (nm σ.1 s) (ht σ.1 s))), .int (nI k)], [.int (nI k)], (0, 0), h2)) rfl ?_
            refine ab_W.call (mm _) (k := 70) (av := [.int (nI k)]) (c' := (146, [.ref 84, .int (nI s), .int (nI 4), .int (nI (nch (nm σ.1 s) (ht σ.1 s))), .int (nI k)], [], (0, 0), h2)) rfl ?_
            refine mdepthOf _ k1 k2 ?_
            show ab_W _ _ _ (146, [.ref 84, .int (nI s), .int (nI 4), .int (nI (nch (nm σ.1 s) (ht σ.1 s))), .int (nI k)], [.int (nI (dep k))], (0, 0), h2)
            refine ab_W.retI (mm _) (rt := some .int) (v := nI (dep k)) rfl rfl ?_
            exact hp _ hR2 (fun i hi => kk3 i (by omega) (by omega))
          · skip
            have np : 0 < nch (nm σ.1 s) (ht σ.1 s) := by
              rcases Nat.eq_zero_or_pos (nch (nm σ.1 s) (ht σ.1 s)) with z | z
              · exact absurd (by rw [z]; decide) q2
              · exact z
            rw [show grF (nm σ.1 s) (ht σ.1 s) 4 = _ from ci_t np] at hp
            refine ab_W.go (mm _) 1 (c' := (62, [.ref 84, .int (nI s), .int (nI 4), .int (nI (nch (nm σ.1 s) (ht σ.1 s))), .retAddr 0], [.int (nI 4)], (0, 0), h2)) rfl ?_
            refine ab_W.itF (mm _) (p := (nI 4) = 0) (c1 := (65, [.ref 84, .int (nI s), .int (nI 4), .int (nI (nch (nm σ.1 s) (ht σ.1 s))), .retAddr 0], [], (0, 0), h2)) (c2 := (69, [.ref 84, .int (nI s), .int (nI 4), .int (nI (nch (nm σ.1 s) (ht σ.1 s))), .retAddr 0], [], (0, 0), h2)) rfl ((by decide)) ?_
            refine ab_W.go (mm _) 2 (c' := (71, [.ref 84, .int (nI s), .int (nI 4), .int (nI (nch (nm σ.1 s) (ht σ.1 s))), .retAddr 0], [.int (nI 1), .int (nI 4)], (0, 0), h2)) rfl ?_
            refine ab_W.itF (mm _) (p := (nI 4) = (nI 1)) (c1 := (74, [.ref 84, .int (nI s), .int (nI 4), .int (nI (nch (nm σ.1 s) (ht σ.1 s))), .retAddr 0], [], (0, 0), h2)) (c2 := (78, [.ref 84, .int (nI s), .int (nI 4), .int (nI (nch (nm σ.1 s) (ht σ.1 s))), .retAddr 0], [], (0, 0), h2)) rfl ((by decide)) ?_
            refine ab_W.go (mm _) 1 (c' := (80, [.ref 84, .int (nI s), .int (nI 4), .int (nI (nch (nm σ.1 s) (ht σ.1 s))), .retAddr 0], [.int (-(nI 6))], (0, 0), h2)) rfl ?_
            refine ab_W.retI (mm _) (rt := some .int) (v := -(nI 6)) rfl rfl ?_
            exact hp _ hR2 (fun i hi => kk3 i (by omega) (by omega))
        | n + 5, z => exact absurd z (by omega)
