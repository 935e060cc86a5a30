/-! THE LAST CALLS OF THE CLASS -/
theorem sp_about (d : Nat) {h : ab_H} {σ : Sg} {x : Int32} {y : Int32} (hR : relC h σ) {post : ab_P} (hp : okC h post (aboutO σ.1 y (stN σ.1 x)) (σ)) : mCC (d + 7) kSpanStamps_about [.ref 0, .int x, .int y] h post := by
  have r0 := hR.1
  have rc := hR.2.1
  rcases stamp_or σ.1 x with hx | ⟨s, hs, rfl, hx⟩
  · rw [stN_no hx] at hp
    refine ⟨rfl, ?_⟩
    show ab_W _ _ _ (0, [.ref 0, .int x, .int y, .retAddr 0], [], (0, 0), h)
    refine ab_W.go (mm _) 1 (c' := (1, [.ref 0, .int x, .int y, .retAddr 0], [.ref 0], (0, 0), h)) rfl ?_
    refine ab_W.o (mm _) (r0) rfl (c' := (4, [.ref 0, .int x, .int y, .retAddr 0], [.ref 1], (0, 0), h)) rfl ?_
    refine ab_W.go (mm _) 1 (c' := (5, [.ref 0, .int x, .int y, .retAddr 0], [.int x, .ref 1], (0, 0), h)) rfl ?_
    refine ab_W.callV (mm _) (rc.1) rfl (k := 1) (av := [.ref 1, .int x]) (c' := (8, [.ref 0, .int x, .int y, .retAddr 0], [], (0, 0), h)) rfl ?_
    refine sp_findN _ rc hx ?_
    show ab_W _ _ _ (8, [.ref 0, .int x, .int y, .retAddr 0], [.null], (0, 0), h)
    refine ab_W.go (mm _) 2 (c' := (10, [.ref 0, .int x, .int y, .null], [.null], (0, 0), h)) rfl ?_
    refine ab_W.go (mm _) 1 (c' := (13, [.ref 0, .int x, .int y, .null], [], (0, 0), h)) rfl ?_
    refine ab_W.go (mm _) 1 (c' := (14, [.ref 0, .int x, .int y, .null], [.int (-(nI 1))], (0, 0), h)) rfl ?_
    refine ab_W.retI (mm _) (rt := some .int) (v := -(nI 1)) rfl rfl ?_
    exact hp h hR (fun _ _ => rfl)
  · rw [stN_yes hs hx] at hp
    have e := (rc.2.2 s hs).1
    refine ⟨rfl, ?_⟩
    show ab_W _ _ _ (0, [.ref 0, .int (nI s), .int y, .retAddr 0], [], (0, 0), h)
    refine ab_W.go (mm _) 1 (c' := (1, [.ref 0, .int (nI s), .int y, .retAddr 0], [.ref 0], (0, 0), h)) rfl ?_
    refine ab_W.o (mm _) (r0) rfl (c' := (4, [.ref 0, .int (nI s), .int y, .retAddr 0], [.ref 1], (0, 0), h)) rfl ?_
    refine ab_W.go (mm _) 1 (c' := (5, [.ref 0, .int (nI s), .int y, .retAddr 0], [.int (nI s), .ref 1], (0, 0), h)) rfl ?_
    refine ab_W.callV (mm _) (rc.1) rfl (k := 1) (av := [.ref 1, .int (nI s)]) (c' := (8, [.ref 0, .int (nI s), .int y, .retAddr 0], [], (0, 0), h)) rfl ?_
    refine sp_find _ rc hs hx ?_
    show ab_W _ _ _ (8, [.ref 0, .int (nI s), .int y, .retAddr 0], [.ref (1 + 2 + 2 * s)], (0, 0), h)
    refine ab_W.go (mm _) 2 (c' := (10, [.ref 0, .int (nI s), .int y, .ref (1 + 2 + 2 * s)], [.ref (1 + 2 + 2 * s)], (0, 0), h)) rfl ?_
    refine ab_W.go (mm _) 1 (c' := (15, [.ref 0, .int (nI s), .int y, .ref (1 + 2 + 2 * s)], [], (0, 0), h)) rfl ?_
    refine ab_W.go (mm _) 1 (c' := (16, [.ref 0, .int (nI s), .int y, .ref (1 + 2 + 2 * s)], [.int y], (0, 0), h)) rfl ?_
    obtain ⟨-, g, f2, f3⟩ := rc.2.2 s hs
    rcases pk_ix y (n := 5) (by decide) with q | q | ⟨j, j1, rfl⟩
    · rw [show aboutO σ.1 y (some s) = _ from ((((ci_f (nI_lt0 q (by decide))).trans (ci_f (nI_lt0 q (by decide)))).trans (ci_f (nI_lt0 q (by decide)))).trans (ci_f (nI_lt0 q (by decide)))).trans (ci_f (nI_lt0 q (by decide)))] at hp
      refine ab_W.swd (mm _) rfl (sw_lo q) ?_
      show ab_W _ _ _ (110, [.ref 0, .int (nI s), .int y, .ref (1 + 2 + 2 * s)], [], (0, 0), h)
      refine ab_W.go (mm _) 1 (c' := (112, [.ref 0, .int (nI s), .int y, .ref (1 + 2 + 2 * s)], [.int (-(nI 2))], (0, 0), h)) rfl ?_
      refine ab_W.retI (mm _) (rt := some .int) (v := -(nI 2)) rfl rfl ?_
      exact hp h hR (fun _ _ => rfl)
    · rw [show aboutO σ.1 y (some s) = _ from ((((ci_f (nI_geN q (by decide) (by decide))).trans (ci_f (nI_geN q (by decide) (by decide)))).trans (ci_f (nI_geN q (by decide) (by decide)))).trans (ci_f (nI_geN q (by decide) (by decide)))).trans (ci_f (nI_geN q (by decide) (by decide)))] at hp
      refine ab_W.swd (mm _) rfl (sw_hi q (by decide)) ?_
      show ab_W _ _ _ (110, [.ref 0, .int (nI s), .int y, .ref (1 + 2 + 2 * s)], [], (0, 0), h)
      refine ab_W.go (mm _) 1 (c' := (112, [.ref 0, .int (nI s), .int y, .ref (1 + 2 + 2 * s)], [.int (-(nI 2))], (0, 0), h)) rfl ?_
      refine ab_W.retI (mm _) (rt := some .int) (v := -(nI 2)) rfl rfl ?_
      exact hp h hR (fun _ _ => rfl)
    · match j, j1 with
      | 0, _ =>
        rw [show aboutO σ.1 (nI 0) (some s) = _ from ci_t rfl] at hp
        refine ab_W.go (mm _) 1 (c' := (52, [.ref 0, .int (nI s), .int (nI 0), .ref (1 + 2 + 2 * s)], [], (0, 0), h)) rfl ?_
        refine ab_W.go (mm _) 1 (c' := (53, [.ref 0, .int (nI s), .int (nI 0), .ref (1 + 2 + 2 * s)], [.ref (1 + 2 + 2 * s)], (0, 0), h)) rfl ?_
        refine ab_W.o (mm _) (e) rfl (c' := (56, [.ref 0, .int (nI s), .int (nI 0), .ref (1 + 2 + 2 * s)], [.long (nm σ.1 s)], (0, 0), h)) rfl ?_
        refine ab_W.call (mm _) (k := 122) (av := [.long (nm σ.1 s)]) (c' := (59, [.ref 0, .int (nI s), .int (nI 0), .ref (1 + 2 + 2 * s)], [], (0, 0), h)) rfl ?_
        refine bit_count _ ?_
        show ab_W _ _ _ (59, [.ref 0, .int (nI s), .int (nI 0), .ref (1 + 2 + 2 * s)], [.int (nI (cnt (nm σ.1 s) 64))], (0, 0), h)
        refine ab_W.retI (mm _) (rt := some .int) (v := nI (cnt (nm σ.1 s) 64)) rfl rfl ?_
        exact hp h hR (fun _ _ => rfl)
      | 1, _ =>
        rw [show aboutO σ.1 (nI 1) (some s) = _ from (ci_f (by decide)).trans (ci_t rfl)] at hp
        refine ab_W.go (mm _) 1 (c' := (60, [.ref 0, .int (nI s), .int (nI 1), .ref (1 + 2 + 2 * s)], [], (0, 0), h)) rfl ?_
        refine ab_W.go (mm _) 1 (c' := (61, [.ref 0, .int (nI s), .int (nI 1), .ref (1 + 2 + 2 * s)], [.ref (1 + 2 + 2 * s)], (0, 0), h)) rfl ?_
        refine ab_W.o (mm _) (e) rfl (c' := (64, [.ref 0, .int (nI s), .int (nI 1), .ref (1 + 2 + 2 * s)], [.long (nm σ.1 s)], (0, 0), h)) rfl ?_
        refine ab_W.call (mm _) (k := 30) (av := [.long (nm σ.1 s)]) (c' := (67, [.ref 0, .int (nI s), .int (nI 1), .ref (1 + 2 + 2 * s)], [], (0, 0), h)) rfl ?_
        refine sp_countPieces _ ?_
        show ab_W _ _ _ (67, [.ref 0, .int (nI s), .int (nI 1), .ref (1 + 2 + 2 * s)], [.int (nI (npc (nm σ.1 s)))], (0, 0), h)
        refine ab_W.retI (mm _) (rt := some .int) (v := nI (npc (nm σ.1 s))) rfl rfl ?_
        exact hp h hR (fun _ _ => rfl)
      | 2, _ =>
        rw [show aboutO σ.1 (nI 2) (some s) = _ from (ci_f (by decide)).trans ((ci_f (by decide)).trans (ci_t rfl)), ← mx_congr (by decide) (by decide) (fun c hc => f3 c (inK_lt (by decide) (by decide) hc))] at hp
        refine ab_W.go (mm _) 1 (c' := (68, [.ref 0, .int (nI s), .int (nI 2), .ref (1 + 2 + 2 * s)], [], (0, 0), h)) rfl ?_
        refine ab_W.go (mm _) 1 (c' := (69, [.ref 0, .int (nI s), .int (nI 2), .ref (1 + 2 + 2 * s)], [.ref (1 + 2 + 2 * s)], (0, 0), h)) rfl ?_
        refine ab_W.o (mm _) (e) rfl (c' := (72, [.ref 0, .int (nI s), .int (nI 2), .ref (1 + 2 + 2 * s)], [.ref (1 + 2 + 2 * s + 1)], (0, 0), h)) rfl ?_
        refine ab_W.go (mm _) 2 (c' := (74, [.ref 0, .int (nI s), .int (nI 2), .ref (1 + 2 + 2 * s)], [.int (nI 0), .int (nI 0), .ref (1 + 2 + 2 * s + 1)], (0, 0), h)) rfl ?_
        refine ab_W.call (mm _) (k := 33) (av := [.ref (1 + 2 + 2 * s + 1), .int (nI 0), .int (nI 0)]) (c' := (77, [.ref 0, .int (nI s), .int (nI 2), .ref (1 + 2 + 2 * s)], [], (0, 0), h)) rfl ?_
        refine sp_greatestOf _ (k := 1) f2 (by decide) (by decide) ?_
        show ab_W _ _ _ (77, [.ref 0, .int (nI s), .int (nI 2), .ref (1 + 2 + 2 * s)], [.int (mx g 1)], (0, 0), h)
        refine ab_W.retI (mm _) (rt := some .int) (v := mx g 1) rfl rfl ?_
        exact hp h hR (fun _ _ => rfl)
      | 3, _ =>
        rw [show aboutO σ.1 (nI 3) (some s) = _ from (ci_f (by decide)).trans ((ci_f (by decide)).trans ((ci_f (by decide)).trans (ci_t rfl))), ← mn_congr (by decide) (by decide) (fun c hc => f3 c (inK_lt (by decide) (by decide) hc))] at hp
        refine ab_W.go (mm _) 1 (c' := (78, [.ref 0, .int (nI s), .int (nI 3), .ref (1 + 2 + 2 * s)], [], (0, 0), h)) rfl ?_
        refine ab_W.go (mm _) 1 (c' := (79, [.ref 0, .int (nI s), .int (nI 3), .ref (1 + 2 + 2 * s)], [.ref (1 + 2 + 2 * s)], (0, 0), h)) rfl ?_
        refine ab_W.o (mm _) (e) rfl (c' := (82, [.ref 0, .int (nI s), .int (nI 3), .ref (1 + 2 + 2 * s)], [.ref (1 + 2 + 2 * s + 1)], (0, 0), h)) rfl ?_
        refine ab_W.go (mm _) 2 (c' := (84, [.ref 0, .int (nI s), .int (nI 3), .ref (1 + 2 + 2 * s)], [.int (nI 0), .int (nI 0), .ref (1 + 2 + 2 * s + 1)], (0, 0), h)) rfl ?_
        refine ab_W.call (mm _) (k := 34) (av := [.ref (1 + 2 + 2 * s + 1), .int (nI 0), .int (nI 0)]) (c' := (87, [.ref 0, .int (nI s), .int (nI 3), .ref (1 + 2 + 2 * s)], [], (0, 0), h)) rfl ?_
        refine sp_leastOf _ (k := 1) f2 (by decide) (by decide) ?_
        show ab_W _ _ _ (87, [.ref 0, .int (nI s), .int (nI 3), .ref (1 + 2 + 2 * s)], [.int (mn g 1)], (0, 0), h)
        refine ab_W.retI (mm _) (rt := some .int) (v := mn g 1) rfl rfl ?_
        exact hp h hR (fun _ _ => rfl)
      | 4, _ =>
        rw [show aboutO σ.1 (nI 4) (some s) = _ from (ci_f (by decide)).trans ((ci_f (by decide)).trans ((ci_f (by decide)).trans ((ci_f (by decide)).trans (ci_t rfl))))] at hp
        refine ab_W.go (mm _) 1 (c' := (88, [.ref 0, .int (nI s), .int (nI 4), .ref (1 + 2 + 2 * s)], [], (0, 0), h)) rfl ?_
        refine ab_W.go (mm _) 1 (c' := (89, [.ref 0, .int (nI s), .int (nI 4), .ref (1 + 2 + 2 * s)], [.ref (1 + 2 + 2 * s)], (0, 0), h)) rfl ?_
        refine ab_W.o (mm _) (e) rfl (c' := (92, [.ref 0, .int (nI s), .int (nI 4), .ref (1 + 2 + 2 * s)], [.long (nm σ.1 s)], (0, 0), h)) rfl ?_
        refine ab_W.go (mm _) 2 (c' := (94, [.ref 0, .int (nI s), .int (nI 4), .ref (1 + 2 + 2 * s)], [.int (lg_cmp (nm σ.1 s) (lN 0))], (0, 0), h)) rfl ?_
        refine ab_W.ite (mm _) (p := (lg_cmp (nm σ.1 s) (lN 0)) = 0) (c1 := (97, [.ref 0, .int (nI s), .int (nI 4), .ref (1 + 2 + 2 * s)], [], (0, 0), h)) (c2 := (102, [.ref 0, .int (nI s), .int (nI 4), .ref (1 + 2 + 2 * s)], [], (0, 0), h)) rfl (fun q => ?_) (fun q => ?_)
        · skip
          rw [ci_t ((lg_cmp0 _ _).mp q)] at hp
          refine ab_W.go (mm _) 2 (c' := (109, [.ref 0, .int (nI s), .int (nI 4), .ref (1 + 2 + 2 * s)], [.int (-(nI 6))], (0, 0), h)) rfl ?_
          refine ab_W.retI (mm _) (rt := some .int) (v := -(nI 6)) rfl rfl ?_
          exact hp h hR (fun _ _ => rfl)
        · skip
          have q : ¬ nm σ.1 s = lN 0 := fun z => q ((lg_cmp0 _ _).mpr z)
          rw [ci_f q] at hp
          refine ab_W.go (mm _) 1 (c' := (103, [.ref 0, .int (nI s), .int (nI 4), .ref (1 + 2 + 2 * s)], [.ref (1 + 2 + 2 * s)], (0, 0), h)) rfl ?_
          refine ab_W.o (mm _) (e) rfl (c' := (106, [.ref 0, .int (nI s), .int (nI 4), .ref (1 + 2 + 2 * s)], [.long (nm σ.1 s)], (0, 0), h)) rfl ?_
          refine ab_W.call (mm _) (k := 27) (av := [.long (nm σ.1 s)]) (c' := (109, [.ref 0, .int (nI s), .int (nI 4), .ref (1 + 2 + 2 * s)], [], (0, 0), h)) rfl ?_
          refine sp_depthAround _ q ?_
          show ab_W _ _ _ (109, [.ref 0, .int (nI s), .int (nI 4), .ref (1 + 2 + 2 * s)], [.int (nI (dep (lsN (nm σ.1 s))))], (0, 0), h)
          refine ab_W.retI (mm _) (rt := some .int) (v := nI (dep (lsN (nm σ.1 s)))) rfl rfl ?_
          exact hp h hR (fun _ _ => rfl)
      | n + 5, z => exact absurd z (by omega)
theorem sp_growth (d : Nat) {h : ab_H} {σ : Sg} {x : Int32} {y : Int32} (hR : relC h σ) {post : ab_P} (hp : okC h post (growthO σ.1 y (stN σ.1 x)) (σ)) : mCC (d + 13) kSpanStamps_growth [.ref 0, .int x, .int y] h post := by
  have r0 := hR.1
  have rc := hR.2.1
  rcases stamp_or σ.1 x with hx | ⟨s, hs, rfl, hx⟩
  · rw [stN_no hx] at hp
    refine ⟨rfl, ?_⟩
    show ab_W _ _ _ (0, [.ref 0, .int x, .int y, .retAddr 0], [], (0, 0), h)
    refine ab_W.go (mm _) 1 (c' := (1, [.ref 0, .int x, .int y, .retAddr 0], [.ref 0], (0, 0), h)) rfl ?_
    refine ab_W.o (mm _) (r0) rfl (c' := (4, [.ref 0, .int x, .int y, .retAddr 0], [.ref 1], (0, 0), h)) rfl ?_
    refine ab_W.go (mm _) 1 (c' := (5, [.ref 0, .int x, .int y, .retAddr 0], [.int x, .ref 1], (0, 0), h)) rfl ?_
    refine ab_W.callV (mm _) (rc.1) rfl (k := 1) (av := [.ref 1, .int x]) (c' := (8, [.ref 0, .int x, .int y, .retAddr 0], [], (0, 0), h)) rfl ?_
    refine sp_findN _ rc hx ?_
    show ab_W _ _ _ (8, [.ref 0, .int x, .int y, .retAddr 0], [.null], (0, 0), h)
    refine ab_W.go (mm _) 2 (c' := (10, [.ref 0, .int x, .int y, .null], [.null], (0, 0), h)) rfl ?_
    refine ab_W.go (mm _) 1 (c' := (13, [.ref 0, .int x, .int y, .null], [], (0, 0), h)) rfl ?_
    refine ab_W.go (mm _) 1 (c' := (14, [.ref 0, .int x, .int y, .null], [.int (-(nI 1))], (0, 0), h)) rfl ?_
    refine ab_W.retI (mm _) (rt := some .int) (v := -(nI 1)) rfl rfl ?_
    exact hp h hR (fun _ _ => rfl)
  · rw [stN_yes hs hx] at hp
    have e := (rc.2.2 s hs).1
    refine ⟨rfl, ?_⟩
    show ab_W _ _ _ (0, [.ref 0, .int (nI s), .int y, .retAddr 0], [], (0, 0), h)
    refine ab_W.go (mm _) 1 (c' := (1, [.ref 0, .int (nI s), .int y, .retAddr 0], [.ref 0], (0, 0), h)) rfl ?_
    refine ab_W.o (mm _) (r0) rfl (c' := (4, [.ref 0, .int (nI s), .int y, .retAddr 0], [.ref 1], (0, 0), h)) rfl ?_
    refine ab_W.go (mm _) 1 (c' := (5, [.ref 0, .int (nI s), .int y, .retAddr 0], [.int (nI s), .ref 1], (0, 0), h)) rfl ?_
    refine ab_W.callV (mm _) (rc.1) rfl (k := 1) (av := [.ref 1, .int (nI s)]) (c' := (8, [.ref 0, .int (nI s), .int y, .retAddr 0], [], (0, 0), h)) rfl ?_
    refine sp_find _ rc hs hx ?_
    show ab_W _ _ _ (8, [.ref 0, .int (nI s), .int y, .retAddr 0], [.ref (1 + 2 + 2 * s)], (0, 0), h)
    refine ab_W.go (mm _) 2 (c' := (10, [.ref 0, .int (nI s), .int y, .ref (1 + 2 + 2 * s)], [.ref (1 + 2 + 2 * s)], (0, 0), h)) rfl ?_
    refine ab_W.go (mm _) 1 (c' := (15, [.ref 0, .int (nI s), .int y, .ref (1 + 2 + 2 * s)], [], (0, 0), h)) rfl ?_
    refine ab_W.go (mm _) 1 (c' := (16, [.ref 0, .int (nI s), .int y, .ref (1 + 2 + 2 * s)], [.int y], (0, 0), h)) rfl ?_
    obtain ⟨-, -, -, ⟨x1, x2, x3, x4, x5, r4⟩, ⟨gF, r5⟩, -⟩ := id hR
    obtain ⟨-, g, f2, f3⟩ := rc.2.2 s hs
    rcases pk_ix y (n := 5) (by decide) with q | q | ⟨j, j1, rfl⟩
    · rw [show growthO σ.1 y (some s) = _ from ci_t (Or.inl q)] at hp
      refine ab_W.itT (mm _) (p := y < 0) (c1 := (24, [.ref 0, .int (nI s), .int y, .ref (1 + 2 + 2 * s)], [], (0, 0), h)) (c2 := (19, [.ref 0, .int (nI s), .int y, .ref (1 + 2 + 2 * s)], [], (0, 0), h)) rfl (q) ?_
      refine ab_W.go (mm _) 1 (c' := (26, [.ref 0, .int (nI s), .int y, .ref (1 + 2 + 2 * s)], [.int (-(nI 2))], (0, 0), h)) rfl ?_
      refine ab_W.retI (mm _) (rt := some .int) (v := -(nI 2)) rfl rfl ?_
      exact hp h hR (fun _ _ => rfl)
    · have q' : nI 4 < y := by
        have a := Int32.le_iff_toInt_le.mp q
        have b : (nI 4).toInt < (nI 5).toInt := by decide
        exact Int32.lt_iff_toInt_lt.mpr (Int.lt_of_lt_of_le b a)
      rw [show growthO σ.1 y (some s) = _ from ci_t (Or.inr q')] at hp
      refine ab_W.itF (mm _) (p := y < 0) (c1 := (24, [.ref 0, .int (nI s), .int y, .ref (1 + 2 + 2 * s)], [], (0, 0), h)) (c2 := (19, [.ref 0, .int (nI s), .int y, .ref (1 + 2 + 2 * s)], [], (0, 0), h)) rfl (nI_le0 q (by decide)) ?_
      refine ab_W.go (mm _) 2 (c' := (21, [.ref 0, .int (nI s), .int y, .ref (1 + 2 + 2 * s)], [.int (nI 4), .int y], (0, 0), h)) rfl ?_
      refine ab_W.itF (mm _) (p := y ≤ (nI 4)) (c1 := (27, [.ref 0, .int (nI s), .int y, .ref (1 + 2 + 2 * s)], [], (0, 0), h)) (c2 := (24, [.ref 0, .int (nI s), .int y, .ref (1 + 2 + 2 * s)], [], (0, 0), h)) rfl (Int32.not_le.mpr q') ?_
      refine ab_W.go (mm _) 1 (c' := (26, [.ref 0, .int (nI s), .int y, .ref (1 + 2 + 2 * s)], [.int (-(nI 2))], (0, 0), h)) rfl ?_
      refine ab_W.retI (mm _) (rt := some .int) (v := -(nI 2)) rfl rfl ?_
      exact hp h hR (fun _ _ => rfl)
    · match j, j1 with
      | 0, _ =>
        rw [show growthO σ.1 (nI 0) (some s) = _ from ci_f (by decide)] at hp
        refine ab_W.itF (mm _) (p := (nI 0) < 0) (c1 := (24, [.ref 0, .int (nI s), .int (nI 0), .ref (1 + 2 + 2 * s)], [], (0, 0), h)) (c2 := (19, [.ref 0, .int (nI s), .int (nI 0), .ref (1 + 2 + 2 * s)], [], (0, 0), h)) rfl ((by decide)) ?_
        refine ab_W.go (mm _) 2 (c' := (21, [.ref 0, .int (nI s), .int (nI 0), .ref (1 + 2 + 2 * s)], [.int (nI 4), .int (nI 0)], (0, 0), h)) rfl ?_
        refine ab_W.itT (mm _) (p := (nI 0) ≤ (nI 4)) (c1 := (27, [.ref 0, .int (nI s), .int (nI 0), .ref (1 + 2 + 2 * s)], [], (0, 0), h)) (c2 := (24, [.ref 0, .int (nI s), .int (nI 0), .ref (1 + 2 + 2 * s)], [], (0, 0), h)) rfl ((by decide)) ?_
        refine ab_W.go (mm _) 1 (c' := (28, [.ref 0, .int (nI s), .int (nI 0), .ref (1 + 2 + 2 * s)], [.ref (1 + 2 + 2 * s)], (0, 0), h)) rfl ?_
        refine ab_W.o (mm _) (e) rfl (c' := (31, [.ref 0, .int (nI s), .int (nI 0), .ref (1 + 2 + 2 * s)], [.long (nm σ.1 s)], (0, 0), h)) rfl ?_
        refine ab_W.go (mm _) 2 (c' := (33, [.ref 0, .int (nI s), .int (nI 0), .ref (1 + 2 + 2 * s)], [.int (lg_cmp (nm σ.1 s) (lN 0))], (0, 0), h)) rfl ?_
        refine ab_W.ite (mm _) (p := (lg_cmp (nm σ.1 s) (lN 0)) = 0) (c1 := (36, [.ref 0, .int (nI s), .int (nI 0), .ref (1 + 2 + 2 * s)], [], (0, 0), h)) (c2 := (39, [.ref 0, .int (nI s), .int (nI 0), .ref (1 + 2 + 2 * s)], [], (0, 0), h)) rfl (fun q => ?_) (fun q => ?_)
        · skip
          rw [ci_t ((lg_cmp0 _ _).mp q)] at hp
          refine ab_W.go (mm _) 1 (c' := (38, [.ref 0, .int (nI s), .int (nI 0), .ref (1 + 2 + 2 * s)], [.int (-(nI 3))], (0, 0), h)) rfl ?_
          refine ab_W.retI (mm _) (rt := some .int) (v := -(nI 3)) rfl rfl ?_
          exact hp h hR (fun _ _ => rfl)
        · skip
          have q : ¬ nm σ.1 s = lN 0 := fun z => q ((lg_cmp0 _ _).mpr z)
          rw [ci_f q] at hp
          refine ab_W.go (mm _) 1 (c' := (40, [.ref 0, .int (nI s), .int (nI 0), .ref (1 + 2 + 2 * s)], [.ref 0], (0, 0), h)) rfl ?_
          refine ab_W.o (mm _) (r0) rfl (c' := (43, [.ref 0, .int (nI s), .int (nI 0), .ref (1 + 2 + 2 * s)], [.ref 28], (0, 0), h)) rfl ?_
          refine ab_W.go (mm _) 1 (c' := (44, [.ref 0, .int (nI s), .int (nI 0), .ref (1 + 2 + 2 * s)], [.ref (1 + 2 + 2 * s), .ref 28], (0, 0), h)) rfl ?_
          refine ab_W.callV (mm _) (r4) rfl (k := 13) (av := [.ref 28, .ref (1 + 2 + 2 * s)]) (c' := (47, [.ref 0, .int (nI s), .int (nI 0), .ref (1 + 2 + 2 * s)], [], (0, 0), h)) rfl ?_
          refine sp_lookAt _ e f2 r4 r5 (by decide) (by omega) (by omega) (by omega) (by omega) (isP_ex q) (fun y1 y2 y3 y4 y5 G lk => ?_)
          obtain ⟨w1, w2, w3, w4, w5, w6⟩ := (lk.congr f3).ok
          show ab_W _ _ _ (47, [.ref 0, .int (nI s), .int (nI 0), .ref (1 + 2 + 2 * s)], [], (0, 0), hX h 28 29 y1 y2 y3 y4 y5 G)
          have r0' : (hX h 28 29 y1 y2 y3 y4 y5 G)[0]? = _ := hR.fore.1
          have r4' : (hX h 28 29 y1 y2 y3 y4 y5 G)[28]? = _ := hX_o (hA_lt r4) (by decide)
          refine ab_W.go (mm _) 1 (c' := (48, [.ref 0, .int (nI s), .int (nI 0), .ref (1 + 2 + 2 * s)], [.int (nI 0)], (0, 0), hX h 28 29 y1 y2 y3 y4 y5 G)) rfl ?_
          refine ab_W.go (mm _) 1 (c' := (80, [.ref 0, .int (nI s), .int (nI 0), .ref (1 + 2 + 2 * s)], [], (0, 0), hX h 28 29 y1 y2 y3 y4 y5 G)) rfl ?_
          refine ab_W.go (mm _) 1 (c' := (81, [.ref 0, .int (nI s), .int (nI 0), .ref (1 + 2 + 2 * s)], [.ref 0], (0, 0), hX h 28 29 y1 y2 y3 y4 y5 G)) rfl ?_
          refine ab_W.o (mm _) (r0') rfl (c' := (84, [.ref 0, .int (nI s), .int (nI 0), .ref (1 + 2 + 2 * s)], [.ref 28], (0, 0), hX h 28 29 y1 y2 y3 y4 y5 G)) rfl ?_
          refine ab_W.o (mm _) (r4') rfl (c' := (87, [.ref 0, .int (nI s), .int (nI 0), .ref (1 + 2 + 2 * s)], [.int y1], (0, 0), hX h 28 29 y1 y2 y3 y4 y5 G)) rfl ?_
          have hv : y1 = nI 1 ∨ y1 = nI 0 := by
            rw [w1]
            unfold grF
            by_cases z : 0 < nch (nm σ.1 s) (ht σ.1 s)
            · exact Or.inl (ci_t z)
            · exact Or.inr (ci_f z)
          have hp' : okC h post y1 σ := by rw [w1]; exact hp
          rcases hv with hv | hv
          · rw [hv] at hp'
            refine ab_W.itF (mm _) (p := y1 = 0) (c1 := (94, [.ref 0, .int (nI s), .int (nI 0), .ref (1 + 2 + 2 * s)], [], (0, 0), hX h 28 29 y1 y2 y3 y4 y5 G)) (c2 := (90, [.ref 0, .int (nI s), .int (nI 0), .ref (1 + 2 + 2 * s)], [], (0, 0), hX h 28 29 y1 y2 y3 y4 y5 G)) rfl (by rw [hv]; decide) ?_
            refine ab_W.go (mm _) 2 (c' := (95, [.ref 0, .int (nI s), .int (nI 0), .ref (1 + 2 + 2 * s)], [.int (nI 1)], (0, 0), hX h 28 29 y1 y2 y3 y4 y5 G)) rfl ?_
            refine ab_W.retI (mm _) (rt := some .int) (v := nI 1) rfl rfl ?_
            exact hp' _ hR.fore (fun i hi => hX_ne (by omega) (by omega))
          · rw [hv] at hp'
            refine ab_W.itT (mm _) (p := y1 = 0) (c1 := (94, [.ref 0, .int (nI s), .int (nI 0), .ref (1 + 2 + 2 * s)], [], (0, 0), hX h 28 29 y1 y2 y3 y4 y5 G)) (c2 := (90, [.ref 0, .int (nI s), .int (nI 0), .ref (1 + 2 + 2 * s)], [], (0, 0), hX h 28 29 y1 y2 y3 y4 y5 G)) rfl (by rw [hv]; decide) ?_
            refine ab_W.go (mm _) 1 (c' := (95, [.ref 0, .int (nI s), .int (nI 0), .ref (1 + 2 + 2 * s)], [.int (nI 0)], (0, 0), hX h 28 29 y1 y2 y3 y4 y5 G)) rfl ?_
            refine ab_W.retI (mm _) (rt := some .int) (v := nI 0) rfl rfl ?_
            exact hp' _ hR.fore (fun i hi => hX_ne (by omega) (by omega))
      | 1, _ =>
        rw [show growthO σ.1 (nI 1) (some s) = _ from ci_f (by decide)] at hp
        refine ab_W.itF (mm _) (p := (nI 1) < 0) (c1 := (24, [.ref 0, .int (nI s), .int (nI 1), .ref (1 + 2 + 2 * s)], [], (0, 0), h)) (c2 := (19, [.ref 0, .int (nI s), .int (nI 1), .ref (1 + 2 + 2 * s)], [], (0, 0), h)) rfl ((by decide)) ?_
        refine ab_W.go (mm _) 2 (c' := (21, [.ref 0, .int (nI s), .int (nI 1), .ref (1 + 2 + 2 * s)], [.int (nI 4), .int (nI 1)], (0, 0), h)) rfl ?_
        refine ab_W.itT (mm _) (p := (nI 1) ≤ (nI 4)) (c1 := (27, [.ref 0, .int (nI s), .int (nI 1), .ref (1 + 2 + 2 * s)], [], (0, 0), h)) (c2 := (24, [.ref 0, .int (nI s), .int (nI 1), .ref (1 + 2 + 2 * s)], [], (0, 0), h)) rfl ((by decide)) ?_
        refine ab_W.go (mm _) 1 (c' := (28, [.ref 0, .int (nI s), .int (nI 1), .ref (1 + 2 + 2 * s)], [.ref (1 + 2 + 2 * s)], (0, 0), h)) rfl ?_
        refine ab_W.o (mm _) (e) rfl (c' := (31, [.ref 0, .int (nI s), .int (nI 1), .ref (1 + 2 + 2 * s)], [.long (nm σ.1 s)], (0, 0), h)) rfl ?_
        refine ab_W.go (mm _) 2 (c' := (33, [.ref 0, .int (nI s), .int (nI 1), .ref (1 + 2 + 2 * s)], [.int (lg_cmp (nm σ.1 s) (lN 0))], (0, 0), h)) rfl ?_
        refine ab_W.ite (mm _) (p := (lg_cmp (nm σ.1 s) (lN 0)) = 0) (c1 := (36, [.ref 0, .int (nI s), .int (nI 1), .ref (1 + 2 + 2 * s)], [], (0, 0), h)) (c2 := (39, [.ref 0, .int (nI s), .int (nI 1), .ref (1 + 2 + 2 * s)], [], (0, 0), h)) rfl (fun q => ?_) (fun q => ?_)
        · skip
          rw [ci_t ((lg_cmp0 _ _).mp q)] at hp
          refine ab_W.go (mm _) 1 (c' := (38, [.ref 0, .int (nI s), .int (nI 1), .ref (1 + 2 + 2 * s)], [.int (-(nI 3))], (0, 0), h)) rfl ?_
          refine ab_W.retI (mm _) (rt := some .int) (v := -(nI 3)) rfl rfl ?_
          exact hp h hR (fun _ _ => rfl)
        · skip
          have q : ¬ nm σ.1 s = lN 0 := fun z => q ((lg_cmp0 _ _).mpr z)
          rw [ci_f q] at hp
          refine ab_W.go (mm _) 1 (c' := (40, [.ref 0, .int (nI s), .int (nI 1), .ref (1 + 2 + 2 * s)], [.ref 0], (0, 0), h)) rfl ?_
          refine ab_W.o (mm _) (r0) rfl (c' := (43, [.ref 0, .int (nI s), .int (nI 1), .ref (1 + 2 + 2 * s)], [.ref 28], (0, 0), h)) rfl ?_
          refine ab_W.go (mm _) 1 (c' := (44, [.ref 0, .int (nI s), .int (nI 1), .ref (1 + 2 + 2 * s)], [.ref (1 + 2 + 2 * s), .ref 28], (0, 0), h)) rfl ?_
          refine ab_W.callV (mm _) (r4) rfl (k := 13) (av := [.ref 28, .ref (1 + 2 + 2 * s)]) (c' := (47, [.ref 0, .int (nI s), .int (nI 1), .ref (1 + 2 + 2 * s)], [], (0, 0), h)) rfl ?_
          refine sp_lookAt _ e f2 r4 r5 (by decide) (by omega) (by omega) (by omega) (by omega) (isP_ex q) (fun y1 y2 y3 y4 y5 G lk => ?_)
          obtain ⟨w1, w2, w3, w4, w5, w6⟩ := (lk.congr f3).ok
          show ab_W _ _ _ (47, [.ref 0, .int (nI s), .int (nI 1), .ref (1 + 2 + 2 * s)], [], (0, 0), hX h 28 29 y1 y2 y3 y4 y5 G)
          have r0' : (hX h 28 29 y1 y2 y3 y4 y5 G)[0]? = _ := hR.fore.1
          have r4' : (hX h 28 29 y1 y2 y3 y4 y5 G)[28]? = _ := hX_o (hA_lt r4) (by decide)
          refine ab_W.go (mm _) 1 (c' := (48, [.ref 0, .int (nI s), .int (nI 1), .ref (1 + 2 + 2 * s)], [.int (nI 1)], (0, 0), hX h 28 29 y1 y2 y3 y4 y5 G)) rfl ?_
          refine ab_W.go (mm _) 1 (c' := (96, [.ref 0, .int (nI s), .int (nI 1), .ref (1 + 2 + 2 * s)], [], (0, 0), hX h 28 29 y1 y2 y3 y4 y5 G)) rfl ?_
          refine ab_W.go (mm _) 1 (c' := (97, [.ref 0, .int (nI s), .int (nI 1), .ref (1 + 2 + 2 * s)], [.ref 0], (0, 0), hX h 28 29 y1 y2 y3 y4 y5 G)) rfl ?_
          refine ab_W.o (mm _) (r0') rfl (c' := (100, [.ref 0, .int (nI s), .int (nI 1), .ref (1 + 2 + 2 * s)], [.ref 28], (0, 0), hX h 28 29 y1 y2 y3 y4 y5 G)) rfl ?_
          refine ab_W.o (mm _) (r4') rfl (c' := (103, [.ref 0, .int (nI s), .int (nI 1), .ref (1 + 2 + 2 * s)], [.int y2], (0, 0), hX h 28 29 y1 y2 y3 y4 y5 G)) rfl ?_
          refine ab_W.retI (mm _) (rt := some .int) (v := y2) rfl rfl ?_
          have hp' : okC h post y2 σ := by rw [w2]; exact hp
          exact hp' _ hR.fore (fun i hi => hX_ne (by omega) (by omega))
      | 2, _ =>
        rw [show growthO σ.1 (nI 2) (some s) = _ from ci_f (by decide)] at hp
        refine ab_W.itF (mm _) (p := (nI 2) < 0) (c1 := (24, [.ref 0, .int (nI s), .int (nI 2), .ref (1 + 2 + 2 * s)], [], (0, 0), h)) (c2 := (19, [.ref 0, .int (nI s), .int (nI 2), .ref (1 + 2 + 2 * s)], [], (0, 0), h)) rfl ((by decide)) ?_
        refine ab_W.go (mm _) 2 (c' := (21, [.ref 0, .int (nI s), .int (nI 2), .ref (1 + 2 + 2 * s)], [.int (nI 4), .int (nI 2)], (0, 0), h)) rfl ?_
        refine ab_W.itT (mm _) (p := (nI 2) ≤ (nI 4)) (c1 := (27, [.ref 0, .int (nI s), .int (nI 2), .ref (1 + 2 + 2 * s)], [], (0, 0), h)) (c2 := (24, [.ref 0, .int (nI s), .int (nI 2), .ref (1 + 2 + 2 * s)], [], (0, 0), h)) rfl ((by decide)) ?_
        refine ab_W.go (mm _) 1 (c' := (28, [.ref 0, .int (nI s), .int (nI 2), .ref (1 + 2 + 2 * s)], [.ref (1 + 2 + 2 * s)], (0, 0), h)) rfl ?_
        refine ab_W.o (mm _) (e) rfl (c' := (31, [.ref 0, .int (nI s), .int (nI 2), .ref (1 + 2 + 2 * s)], [.long (nm σ.1 s)], (0, 0), h)) rfl ?_
        refine ab_W.go (mm _) 2 (c' := (33, [.ref 0, .int (nI s), .int (nI 2), .ref (1 + 2 + 2 * s)], [.int (lg_cmp (nm σ.1 s) (lN 0))], (0, 0), h)) rfl ?_
        refine ab_W.ite (mm _) (p := (lg_cmp (nm σ.1 s) (lN 0)) = 0) (c1 := (36, [.ref 0, .int (nI s), .int (nI 2), .ref (1 + 2 + 2 * s)], [], (0, 0), h)) (c2 := (39, [.ref 0, .int (nI s), .int (nI 2), .ref (1 + 2 + 2 * s)], [], (0, 0), h)) rfl (fun q => ?_) (fun q => ?_)
        · skip
          rw [ci_t ((lg_cmp0 _ _).mp q)] at hp
          refine ab_W.go (mm _) 1 (c' := (38, [.ref 0, .int (nI s), .int (nI 2), .ref (1 + 2 + 2 * s)], [.int (-(nI 3))], (0, 0), h)) rfl ?_
          refine ab_W.retI (mm _) (rt := some .int) (v := -(nI 3)) rfl rfl ?_
          exact hp h hR (fun _ _ => rfl)
        · skip
          have q : ¬ nm σ.1 s = lN 0 := fun z => q ((lg_cmp0 _ _).mpr z)
          rw [ci_f q] at hp
          refine ab_W.go (mm _) 1 (c' := (40, [.ref 0, .int (nI s), .int (nI 2), .ref (1 + 2 + 2 * s)], [.ref 0], (0, 0), h)) rfl ?_
          refine ab_W.o (mm _) (r0) rfl (c' := (43, [.ref 0, .int (nI s), .int (nI 2), .ref (1 + 2 + 2 * s)], [.ref 28], (0, 0), h)) rfl ?_
          refine ab_W.go (mm _) 1 (c' := (44, [.ref 0, .int (nI s), .int (nI 2), .ref (1 + 2 + 2 * s)], [.ref (1 + 2 + 2 * s), .ref 28], (0, 0), h)) rfl ?_
          refine ab_W.callV (mm _) (r4) rfl (k := 13) (av := [.ref 28, .ref (1 + 2 + 2 * s)]) (c' := (47, [.ref 0, .int (nI s), .int (nI 2), .ref (1 + 2 + 2 * s)], [], (0, 0), h)) rfl ?_
          refine sp_lookAt _ e f2 r4 r5 (by decide) (by omega) (by omega) (by omega) (by omega) (isP_ex q) (fun y1 y2 y3 y4 y5 G lk => ?_)
          obtain ⟨w1, w2, w3, w4, w5, w6⟩ := (lk.congr f3).ok
          show ab_W _ _ _ (47, [.ref 0, .int (nI s), .int (nI 2), .ref (1 + 2 + 2 * s)], [], (0, 0), hX h 28 29 y1 y2 y3 y4 y5 G)
          have r0' : (hX h 28 29 y1 y2 y3 y4 y5 G)[0]? = _ := hR.fore.1
          have r4' : (hX h 28 29 y1 y2 y3 y4 y5 G)[28]? = _ := hX_o (hA_lt r4) (by decide)
          refine ab_W.go (mm _) 1 (c' := (48, [.ref 0, .int (nI s), .int (nI 2), .ref (1 + 2 + 2 * s)], [.int (nI 2)], (0, 0), hX h 28 29 y1 y2 y3 y4 y5 G)) rfl ?_
          refine ab_W.go (mm _) 1 (c' := (104, [.ref 0, .int (nI s), .int (nI 2), .ref (1 + 2 + 2 * s)], [], (0, 0), hX h 28 29 y1 y2 y3 y4 y5 G)) rfl ?_
          refine ab_W.go (mm _) 1 (c' := (105, [.ref 0, .int (nI s), .int (nI 2), .ref (1 + 2 + 2 * s)], [.ref 0], (0, 0), hX h 28 29 y1 y2 y3 y4 y5 G)) rfl ?_
          refine ab_W.o (mm _) (r0') rfl (c' := (108, [.ref 0, .int (nI s), .int (nI 2), .ref (1 + 2 + 2 * s)], [.ref 28], (0, 0), hX h 28 29 y1 y2 y3 y4 y5 G)) rfl ?_
          refine ab_W.o (mm _) (r4') rfl (c' := (111, [.ref 0, .int (nI s), .int (nI 2), .ref (1 + 2 + 2 * s)], [.int y3], (0, 0), hX h 28 29 y1 y2 y3 y4 y5 G)) rfl ?_
          refine ab_W.retI (mm _) (rt := some .int) (v := y3) rfl rfl ?_
          have hp' : okC h post y3 σ := by rw [w3]; exact hp
          exact hp' _ hR.fore (fun i hi => hX_ne (by omega) (by omega))
      | 3, _ =>
        rw [show growthO σ.1 (nI 3) (some s) = _ from ci_f (by decide)] at hp
        refine ab_W.itF (mm _) (p := (nI 3) < 0) (c1 := (24, [.ref 0, .int (nI s), .int (nI 3), .ref (1 + 2 + 2 * s)], [], (0, 0), h)) (c2 := (19, [.ref 0, .int (nI s), .int (nI 3), .ref (1 + 2 + 2 * s)], [], (0, 0), h)) rfl ((by decide)) ?_
        refine ab_W.go (mm _) 2 (c' := (21, [.ref 0, .int (nI s), .int (nI 3), .ref (1 + 2 + 2 * s)], [.int (nI 4), .int (nI 3)], (0, 0), h)) rfl ?_
        refine ab_W.itT (mm _) (p := (nI 3) ≤ (nI 4)) (c1 := (27, [.ref 0, .int (nI s), .int (nI 3), .ref (1 + 2 + 2 * s)], [], (0, 0), h)) (c2 := (24, [.ref 0, .int (nI s), .int (nI 3), .ref (1 + 2 + 2 * s)], [], (0, 0), h)) rfl ((by decide)) ?_
        refine ab_W.go (mm _) 1 (c' := (28, [.ref 0, .int (nI s), .int (nI 3), .ref (1 + 2 + 2 * s)], [.ref (1 + 2 + 2 * s)], (0, 0), h)) rfl ?_
        refine ab_W.o (mm _) (e) rfl (c' := (31, [.ref 0, .int (nI s), .int (nI 3), .ref (1 + 2 + 2 * s)], [.long (nm σ.1 s)], (0, 0), h)) rfl ?_
        refine ab_W.go (mm _) 2 (c' := (33, [.ref 0, .int (nI s), .int (nI 3), .ref (1 + 2 + 2 * s)], [.int (lg_cmp (nm σ.1 s) (lN 0))], (0, 0), h)) rfl ?_
        refine ab_W.ite (mm _) (p := (lg_cmp (nm σ.1 s) (lN 0)) = 0) (c1 := (36, [.ref 0, .int (nI s), .int (nI 3), .ref (1 + 2 + 2 * s)], [], (0, 0), h)) (c2 := (39, [.ref 0, .int (nI s), .int (nI 3), .ref (1 + 2 + 2 * s)], [], (0, 0), h)) rfl (fun q => ?_) (fun q => ?_)
        · skip
          rw [ci_t ((lg_cmp0 _ _).mp q)] at hp
          refine ab_W.go (mm _) 1 (c' := (38, [.ref 0, .int (nI s), .int (nI 3), .ref (1 + 2 + 2 * s)], [.int (-(nI 3))], (0, 0), h)) rfl ?_
          refine ab_W.retI (mm _) (rt := some .int) (v := -(nI 3)) rfl rfl ?_
          exact hp h hR (fun _ _ => rfl)
        · skip
          have q : ¬ nm σ.1 s = lN 0 := fun z => q ((lg_cmp0 _ _).mpr z)
          rw [ci_f q] at hp
          refine ab_W.go (mm _) 1 (c' := (40, [.ref 0, .int (nI s), .int (nI 3), .ref (1 + 2 + 2 * s)], [.ref 0], (0, 0), h)) rfl ?_
          refine ab_W.o (mm _) (r0) rfl (c' := (43, [.ref 0, .int (nI s), .int (nI 3), .ref (1 + 2 + 2 * s)], [.ref 28], (0, 0), h)) rfl ?_
          refine ab_W.go (mm _) 1 (c' := (44, [.ref 0, .int (nI s), .int (nI 3), .ref (1 + 2 + 2 * s)], [.ref (1 + 2 + 2 * s), .ref 28], (0, 0), h)) rfl ?_
          refine ab_W.callV (mm _) (r4) rfl (k := 13) (av := [.ref 28, .ref (1 + 2 + 2 * s)]) (c' := (47, [.ref 0, .int (nI s), .int (nI 3), .ref (1 + 2 + 2 * s)], [], (0, 0), h)) rfl ?_
          refine sp_lookAt _ e f2 r4 r5 (by decide) (by omega) (by omega) (by omega) (by omega) (isP_ex q) (fun y1 y2 y3 y4 y5 G lk => ?_)
          obtain ⟨w1, w2, w3, w4, w5, w6⟩ := (lk.congr f3).ok
          show ab_W _ _ _ (47, [.ref 0, .int (nI s), .int (nI 3), .ref (1 + 2 + 2 * s)], [], (0, 0), hX h 28 29 y1 y2 y3 y4 y5 G)
          have r0' : (hX h 28 29 y1 y2 y3 y4 y5 G)[0]? = _ := hR.fore.1
          have r4' : (hX h 28 29 y1 y2 y3 y4 y5 G)[28]? = _ := hX_o (hA_lt r4) (by decide)
          refine ab_W.go (mm _) 1 (c' := (48, [.ref 0, .int (nI s), .int (nI 3), .ref (1 + 2 + 2 * s)], [.int (nI 3)], (0, 0), hX h 28 29 y1 y2 y3 y4 y5 G)) rfl ?_
          refine ab_W.go (mm _) 1 (c' := (112, [.ref 0, .int (nI s), .int (nI 3), .ref (1 + 2 + 2 * s)], [], (0, 0), hX h 28 29 y1 y2 y3 y4 y5 G)) rfl ?_
          refine ab_W.go (mm _) 1 (c' := (113, [.ref 0, .int (nI s), .int (nI 3), .ref (1 + 2 + 2 * s)], [.ref 0], (0, 0), hX h 28 29 y1 y2 y3 y4 y5 G)) rfl ?_
          refine ab_W.o (mm _) (r0') rfl (c' := (116, [.ref 0, .int (nI s), .int (nI 3), .ref (1 + 2 + 2 * s)], [.ref 28], (0, 0), hX h 28 29 y1 y2 y3 y4 y5 G)) rfl ?_
          refine ab_W.o (mm _) (r4') rfl (c' := (119, [.ref 0, .int (nI s), .int (nI 3), .ref (1 + 2 + 2 * s)], [.int y4], (0, 0), hX h 28 29 y1 y2 y3 y4 y5 G)) rfl ?_
          refine ab_W.retI (mm _) (rt := some .int) (v := y4) rfl rfl ?_
          have hp' : okC h post y4 σ := by rw [w4]; exact hp
          exact hp' _ hR.fore (fun i hi => hX_ne (by omega) (by omega))
      | 4, _ =>
        rw [show growthO σ.1 (nI 4) (some s) = _ from ci_f (by decide)] at hp
        refine ab_W.itF (mm _) (p := (nI 4) < 0) (c1 := (24, [.ref 0, .int (nI s), .int (nI 4), .ref (1 + 2 + 2 * s)], [], (0, 0), h)) (c2 := (19, [.ref 0, .int (nI s), .int (nI 4), .ref (1 + 2 + 2 * s)], [], (0, 0), h)) rfl ((by decide)) ?_
        refine ab_W.go (mm _) 2 (c' := (21, [.ref 0, .int (nI s), .int (nI 4), .ref (1 + 2 + 2 * s)], [.int (nI 4), .int (nI 4)], (0, 0), h)) rfl ?_
        refine ab_W.itT (mm _) (p := (nI 4) ≤ (nI 4)) (c1 := (27, [.ref 0, .int (nI s), .int (nI 4), .ref (1 + 2 + 2 * s)], [], (0, 0), h)) (c2 := (24, [.ref 0, .int (nI s), .int (nI 4), .ref (1 + 2 + 2 * s)], [], (0, 0), h)) rfl ((by decide)) ?_
        refine ab_W.go (mm _) 1 (c' := (28, [.ref 0, .int (nI s), .int (nI 4), .ref (1 + 2 + 2 * s)], [.ref (1 + 2 + 2 * s)], (0, 0), h)) rfl ?_
        refine ab_W.o (mm _) (e) rfl (c' := (31, [.ref 0, .int (nI s), .int (nI 4), .ref (1 + 2 + 2 * s)], [.long (nm σ.1 s)], (0, 0), h)) rfl ?_
        refine ab_W.go (mm _) 2 (c' := (33, [.ref 0, .int (nI s), .int (nI 4), .ref (1 + 2 + 2 * s)], [.int (lg_cmp (nm σ.1 s) (lN 0))], (0, 0), h)) rfl ?_
        refine ab_W.ite (mm _) (p := (lg_cmp (nm σ.1 s) (lN 0)) = 0) (c1 := (36, [.ref 0, .int (nI s), .int (nI 4), .ref (1 + 2 + 2 * s)], [], (0, 0), h)) (c2 := (39, [.ref 0, .int (nI s), .int (nI 4), .ref (1 + 2 + 2 * s)], [], (0, 0), h)) rfl (fun q => ?_) (fun q => ?_)
        · skip
          rw [ci_t ((lg_cmp0 _ _).mp q)] at hp
          refine ab_W.go (mm _) 1 (c' := (38, [.ref 0, .int (nI s), .int (nI 4), .ref (1 + 2 + 2 * s)], [.int (-(nI 3))], (0, 0), h)) rfl ?_
          refine ab_W.retI (mm _) (rt := some .int) (v := -(nI 3)) rfl rfl ?_
          exact hp h hR (fun _ _ => rfl)
        · skip
          have q : ¬ nm σ.1 s = lN 0 := fun z => q ((lg_cmp0 _ _).mpr z)
          rw [ci_f q] at hp
          refine ab_W.go (mm _) 1 (c' := (40, [.ref 0, .int (nI s), .int (nI 4), .ref (1 + 2 + 2 * s)], [.ref 0], (0, 0), h)) rfl ?_
          refine ab_W.o (mm _) (r0) rfl (c' := (43, [.ref 0, .int (nI s), .int (nI 4), .ref (1 + 2 + 2 * s)], [.ref 28], (0, 0), h)) rfl ?_
          refine ab_W.go (mm _) 1 (c' := (44, [.ref 0, .int (nI s), .int (nI 4), .ref (1 + 2 + 2 * s)], [.ref (1 + 2 + 2 * s), .ref 28], (0, 0), h)) rfl ?_
          refine ab_W.callV (mm _) (r4) rfl (k := 13) (av := [.ref 28, .ref (1 + 2 + 2 * s)]) (c' := (47, [.ref 0, .int (nI s), .int (nI 4), .ref (1 + 2 + 2 * s)], [], (0, 0), h)) rfl ?_
          refine sp_lookAt _ e f2 r4 r5 (by decide) (by omega) (by omega) (by omega) (by omega) (isP_ex q) (fun y1 y2 y3 y4 y5 G lk => ?_)
          obtain ⟨w1, w2, w3, w4, w5, w6⟩ := (lk.congr f3).ok
          show ab_W _ _ _ (47, [.ref 0, .int (nI s), .int (nI 4), .ref (1 + 2 + 2 * s)], [], (0, 0), hX h 28 29 y1 y2 y3 y4 y5 G)
          have r0' : (hX h 28 29 y1 y2 y3 y4 y5 G)[0]? = _ := hR.fore.1
          have r4' : (hX h 28 29 y1 y2 y3 y4 y5 G)[28]? = _ := hX_o (hA_lt r4) (by decide)
          refine ab_W.go (mm _) 1 (c' := (48, [.ref 0, .int (nI s), .int (nI 4), .ref (1 + 2 + 2 * s)], [.int (nI 4)], (0, 0), hX h 28 29 y1 y2 y3 y4 y5 G)) rfl ?_
          refine ab_W.go (mm _) 1 (c' := (120, [.ref 0, .int (nI s), .int (nI 4), .ref (1 + 2 + 2 * s)], [], (0, 0), hX h 28 29 y1 y2 y3 y4 y5 G)) rfl ?_
          refine ab_W.go (mm _) 1 (c' := (121, [.ref 0, .int (nI s), .int (nI 4), .ref (1 + 2 + 2 * s)], [.ref 0], (0, 0), hX h 28 29 y1 y2 y3 y4 y5 G)) rfl ?_
          refine ab_W.o (mm _) (r0') rfl (c' := (124, [.ref 0, .int (nI s), .int (nI 4), .ref (1 + 2 + 2 * s)], [.ref 28], (0, 0), hX h 28 29 y1 y2 y3 y4 y5 G)) rfl ?_
          refine ab_W.o (mm _) (r4') rfl (c' := (127, [.ref 0, .int (nI s), .int (nI 4), .ref (1 + 2 + 2 * s)], [.int y5], (0, 0), hX h 28 29 y1 y2 y3 y4 y5 G)) rfl ?_
          refine ab_W.retI (mm _) (rt := some .int) (v := y5) rfl rfl ?_
          have hp' : okC h post y5 σ := by rw [w5]; exact hp
          exact hp' _ hR.fore (fun i hi => hX_ne (by omega) (by omega))
      | n + 5, z => exact absurd z (by omega)
theorem sp_unlike (d : Nat) {h : ab_H} {σ : Sg} {y : Int32} (hR : relC h σ) {post : ab_P} (hp : okC h post (unF σ.1 y) σ) : mCC (d + 5) kSpanStamps_unlike [.ref 0, .int y] h post := by
  have r0 := hR.1
  have rc := hR.2.1
  rcases pk_ix y (n := 3) (by decide) with q | q | ⟨j, j1, rfl⟩
  · rw [show unF σ.1 y = _ from ((ci_f (nI_lt0 q (by decide))).trans (ci_f (nI_lt0 q (by decide)))).trans (ci_f (nI_lt0 q (by decide)))] at hp
    refine ⟨rfl, ?_⟩
    show ab_W _ _ _ (0, [.ref 0, .int y], [], (0, 0), h)
    refine ab_W.go (mm _) 1 (c' := (1, [.ref 0, .int y], [.int y], (0, 0), h)) rfl ?_
    refine ab_W.swd (mm _) rfl (sw_lo q) ?_
    show ab_W _ _ _ (52, [.ref 0, .int y], [], (0, 0), h)
    refine ab_W.go (mm _) 1 (c' := (54, [.ref 0, .int y], [.int (-(nI 2))], (0, 0), h)) rfl ?_
    refine ab_W.retI (mm _) (rt := some .int) (v := -(nI 2)) rfl rfl ?_
    exact hp h hR (fun _ _ => rfl)
  · rw [show unF σ.1 y = _ from ((ci_f (nI_geN q (by decide) (by decide))).trans (ci_f (nI_geN q (by decide) (by decide)))).trans (ci_f (nI_geN q (by decide) (by decide)))] at hp
    refine ⟨rfl, ?_⟩
    show ab_W _ _ _ (0, [.ref 0, .int y], [], (0, 0), h)
    refine ab_W.go (mm _) 1 (c' := (1, [.ref 0, .int y], [.int y], (0, 0), h)) rfl ?_
    refine ab_W.swd (mm _) rfl (sw_hi q (by decide)) ?_
    show ab_W _ _ _ (52, [.ref 0, .int y], [], (0, 0), h)
    refine ab_W.go (mm _) 1 (c' := (54, [.ref 0, .int y], [.int (-(nI 2))], (0, 0), h)) rfl ?_
    refine ab_W.retI (mm _) (rt := some .int) (v := -(nI 2)) rfl rfl ?_
    exact hp h hR (fun _ _ => rfl)
  · match j, j1 with
    | 0, _ =>
      rw [show unF σ.1 (nI 0) = _ from ci_t rfl] at hp
      refine ⟨rfl, ?_⟩
      show ab_W _ _ _ (0, [.ref 0, .int (nI 0)], [], (0, 0), h)
      refine ab_W.go (mm _) 1 (c' := (1, [.ref 0, .int (nI 0)], [.int (nI 0)], (0, 0), h)) rfl ?_
      refine ab_W.go (mm _) 1 (c' := (28, [.ref 0, .int (nI 0)], [], (0, 0), h)) rfl ?_
      refine ab_W.go (mm _) 1 (c' := (29, [.ref 0, .int (nI 0)], [.ref 0], (0, 0), h)) rfl ?_
      refine ab_W.o (mm _) (r0) rfl (c' := (32, [.ref 0, .int (nI 0)], [.ref 1], (0, 0), h)) rfl ?_
      refine ab_W.callV (mm _) (rc.1) rfl (k := 6) (av := [.ref 1]) (c' := (35, [.ref 0, .int (nI 0)], [], (0, 0), h)) rfl ?_
      refine sp_uneven _ rc ?_
      show ab_W _ _ _ (35, [.ref 0, .int (nI 0)], [.int (nI (cn (fun s => pr σ.1 s = true ∧ ¬ ∃ t, t < s ∧ pr σ.1 t = true ∧ ordN (ht σ.1 t) (ht σ.1 s) = 0) 12))], (0, 0), h)
      refine ab_W.retI (mm _) (rt := some .int) (v := nI (cn (fun s => pr σ.1 s = true ∧ ¬ ∃ t, t < s ∧ pr σ.1 t = true ∧ ordN (ht σ.1 t) (ht σ.1 s) = 0) 12)) rfl rfl ?_
      exact hp h hR (fun _ _ => rfl)
    | 1, _ =>
      rw [show unF σ.1 (nI 1) = _ from (ci_f (by decide)).trans (ci_t rfl)] at hp
      refine ⟨rfl, ?_⟩
      show ab_W _ _ _ (0, [.ref 0, .int (nI 1)], [], (0, 0), h)
      refine ab_W.go (mm _) 1 (c' := (1, [.ref 0, .int (nI 1)], [.int (nI 1)], (0, 0), h)) rfl ?_
      refine ab_W.go (mm _) 1 (c' := (36, [.ref 0, .int (nI 1)], [], (0, 0), h)) rfl ?_
      refine ab_W.go (mm _) 1 (c' := (37, [.ref 0, .int (nI 1)], [.ref 0], (0, 0), h)) rfl ?_
      refine ab_W.o (mm _) (r0) rfl (c' := (40, [.ref 0, .int (nI 1)], [.ref 1], (0, 0), h)) rfl ?_
      refine ab_W.callV (mm _) (rc.1) rfl (k := 8) (av := [.ref 1]) (c' := (43, [.ref 0, .int (nI 1)], [], (0, 0), h)) rfl ?_
      refine sp_unlikeN _ rc ?_
      show ab_W _ _ _ (43, [.ref 0, .int (nI 1)], [.int (nI (cn (fun s => pr σ.1 s = true ∧ ¬ ∃ t, t < s ∧ pr σ.1 t = true ∧ nm σ.1 t = nm σ.1 s) 12))], (0, 0), h)
      refine ab_W.retI (mm _) (rt := some .int) (v := nI (cn (fun s => pr σ.1 s = true ∧ ¬ ∃ t, t < s ∧ pr σ.1 t = true ∧ nm σ.1 t = nm σ.1 s) 12)) rfl rfl ?_
      exact hp h hR (fun _ _ => rfl)
    | 2, _ =>
      rw [show unF σ.1 (nI 2) = _ from (ci_f (by decide)).trans ((ci_f (by decide)).trans (ci_t rfl))] at hp
      refine ⟨rfl, ?_⟩
      show ab_W _ _ _ (0, [.ref 0, .int (nI 2)], [], (0, 0), h)
      refine ab_W.go (mm _) 1 (c' := (1, [.ref 0, .int (nI 2)], [.int (nI 2)], (0, 0), h)) rfl ?_
      refine ab_W.go (mm _) 1 (c' := (44, [.ref 0, .int (nI 2)], [], (0, 0), h)) rfl ?_
      refine ab_W.go (mm _) 1 (c' := (45, [.ref 0, .int (nI 2)], [.ref 0], (0, 0), h)) rfl ?_
      refine ab_W.o (mm _) (r0) rfl (c' := (48, [.ref 0, .int (nI 2)], [.ref 1], (0, 0), h)) rfl ?_
      refine ab_W.callV (mm _) (rc.1) rfl (k := 10) (av := [.ref 1]) (c' := (51, [.ref 0, .int (nI 2)], [], (0, 0), h)) rfl ?_
      refine sp_befNone _ rc ?_
      show ab_W _ _ _ (51, [.ref 0, .int (nI 2)], [.int (nI (cn (fun s => pr σ.1 s = true ∧ ¬ ∃ t, t < 12 ∧ pr σ.1 t = true ∧ ordN (ht σ.1 s) (ht σ.1 t) = 1) 12))], (0, 0), h)
      refine ab_W.retI (mm _) (rt := some .int) (v := nI (cn (fun s => pr σ.1 s = true ∧ ¬ ∃ t, t < 12 ∧ pr σ.1 t = true ∧ ordN (ht σ.1 s) (ht σ.1 t) = 1) 12)) rfl rfl ?_
      exact hp h hR (fun _ _ => rfl)
    | n + 3, z => exact absurd z (by omega)
theorem sp_count (d : Nat) {h : ab_H} {σ : Sg} {y : Int32} (hR : relC h σ) {post : ab_P} (hp : okC h post (cntF σ y) σ) : mCC (d + 4) kSpanStamps_count [.ref 0, .int y] h post := by
  have r0 := hR.1
  have rc := hR.2.1
  rcases pk_ix y (n := 4) (by decide) with q | q | ⟨j, j1, rfl⟩
  · rw [show cntF σ y = _ from (((ci_f (nI_lt0 q (by decide))).trans (ci_f (nI_lt0 q (by decide)))).trans (ci_f (nI_lt0 q (by decide)))).trans (ci_f (nI_lt0 q (by decide)))] at hp
    refine ⟨rfl, ?_⟩
    show ab_W _ _ _ (0, [.ref 0, .int y], [], (0, 0), h)
    refine ab_W.go (mm _) 1 (c' := (1, [.ref 0, .int y], [.int y], (0, 0), h)) rfl ?_
    refine ab_W.swd (mm _) rfl (sw_lo q) ?_
    show ab_W _ _ _ (61, [.ref 0, .int y], [], (0, 0), h)
    refine ab_W.go (mm _) 1 (c' := (63, [.ref 0, .int y], [.int (-(nI 2))], (0, 0), h)) rfl ?_
    refine ab_W.retI (mm _) (rt := some .int) (v := -(nI 2)) rfl rfl ?_
    exact hp h hR (fun _ _ => rfl)
  · rw [show cntF σ y = _ from (((ci_f (nI_geN q (by decide) (by decide))).trans (ci_f (nI_geN q (by decide) (by decide)))).trans (ci_f (nI_geN q (by decide) (by decide)))).trans (ci_f (nI_geN q (by decide) (by decide)))] at hp
    refine ⟨rfl, ?_⟩
    show ab_W _ _ _ (0, [.ref 0, .int y], [], (0, 0), h)
    refine ab_W.go (mm _) 1 (c' := (1, [.ref 0, .int y], [.int y], (0, 0), h)) rfl ?_
    refine ab_W.swd (mm _) rfl (sw_hi q (by decide)) ?_
    show ab_W _ _ _ (61, [.ref 0, .int y], [], (0, 0), h)
    refine ab_W.go (mm _) 1 (c' := (63, [.ref 0, .int y], [.int (-(nI 2))], (0, 0), h)) rfl ?_
    refine ab_W.retI (mm _) (rt := some .int) (v := -(nI 2)) rfl rfl ?_
    exact hp h hR (fun _ _ => rfl)
  · match j, j1 with
    | 0, _ =>
      rw [show cntF σ (nI 0) = _ from ci_t rfl] at hp
      refine ⟨rfl, ?_⟩
      show ab_W _ _ _ (0, [.ref 0, .int (nI 0)], [], (0, 0), h)
      refine ab_W.go (mm _) 1 (c' := (1, [.ref 0, .int (nI 0)], [.int (nI 0)], (0, 0), h)) rfl ?_
      refine ab_W.go (mm _) 1 (c' := (32, [.ref 0, .int (nI 0)], [], (0, 0), h)) rfl ?_
      refine ab_W.go (mm _) 1 (c' := (33, [.ref 0, .int (nI 0)], [.ref 0], (0, 0), h)) rfl ?_
      refine ab_W.o (mm _) (r0) rfl (c' := (36, [.ref 0, .int (nI 0)], [.ref 1], (0, 0), h)) rfl ?_
      refine ab_W.callV (mm _) (rc.1) rfl (k := 4) (av := [.ref 1]) (c' := (39, [.ref 0, .int (nI 0)], [], (0, 0), h)) rfl ?_
      refine sp_howMany _ rc ?_
      show ab_W _ _ _ (39, [.ref 0, .int (nI 0)], [.int (nI (cb (pr σ.1) 12))], (0, 0), h)
      refine ab_W.retI (mm _) (rt := some .int) (v := nI (cb (pr σ.1) 12)) rfl rfl ?_
      exact hp h hR (fun _ _ => rfl)
    | 1, _ =>
      rw [show cntF σ (nI 1) = _ from (ci_f (by decide)).trans (ci_t rfl)] at hp
      refine ⟨rfl, ?_⟩
      show ab_W _ _ _ (0, [.ref 0, .int (nI 1)], [], (0, 0), h)
      refine ab_W.go (mm _) 1 (c' := (1, [.ref 0, .int (nI 1)], [.int (nI 1)], (0, 0), h)) rfl ?_
      refine ab_W.go (mm _) 1 (c' := (40, [.ref 0, .int (nI 1)], [], (0, 0), h)) rfl ?_
      refine ab_W.go (mm _) 1 (c' := (41, [.ref 0, .int (nI 1)], [.ref 0], (0, 0), h)) rfl ?_
      refine ab_W.o (mm _) (r0) rfl (c' := (44, [.ref 0, .int (nI 1)], [.ref 1], (0, 0), h)) rfl ?_
      refine ab_W.callV (mm _) (rc.1) rfl (k := 3) (av := [.ref 1]) (c' := (47, [.ref 0, .int (nI 1)], [], (0, 0), h)) rfl ?_
      refine sp_numbers _ rc ?_
      show ab_W _ _ _ (47, [.ref 0, .int (nI 1)], [.int (nI (mkN (pr σ.1) 12))], (0, 0), h)
      refine ab_W.retI (mm _) (rt := some .int) (v := nI (mkN (pr σ.1) 12)) rfl rfl ?_
      exact hp h hR (fun _ _ => rfl)
    | 2, _ =>
      rw [show cntF σ (nI 2) = _ from (ci_f (by decide)).trans ((ci_f (by decide)).trans (ci_t rfl))] at hp
      refine ⟨rfl, ?_⟩
      show ab_W _ _ _ (0, [.ref 0, .int (nI 2)], [], (0, 0), h)
      refine ab_W.go (mm _) 1 (c' := (1, [.ref 0, .int (nI 2)], [.int (nI 2)], (0, 0), h)) rfl ?_
      refine ab_W.go (mm _) 1 (c' := (48, [.ref 0, .int (nI 2)], [], (0, 0), h)) rfl ?_
      refine ab_W.go (mm _) 1 (c' := (49, [.ref 0, .int (nI 2)], [.ref 0], (0, 0), h)) rfl ?_
      refine ab_W.o (mm _) (r0) rfl (c' := (52, [.ref 0, .int (nI 2)], [.ref 1], (0, 0), h)) rfl ?_
      refine ab_W.o (mm _) (rc.1) rfl (c' := (55, [.ref 0, .int (nI 2)], [.int (nI (hn σ.1))], (0, 0), h)) rfl ?_
      refine ab_W.retI (mm _) (rt := some .int) (v := nI (hn σ.1)) rfl rfl ?_
      exact hp h hR (fun _ _ => rfl)
    | 3, _ =>
      rw [show cntF σ (nI 3) = _ from (ci_f (by decide)).trans ((ci_f (by decide)).trans ((ci_f (by decide)).trans (ci_t rfl)))] at hp
      refine ⟨rfl, ?_⟩
      show ab_W _ _ _ (0, [.ref 0, .int (nI 3)], [], (0, 0), h)
      refine ab_W.go (mm _) 1 (c' := (1, [.ref 0, .int (nI 3)], [.int (nI 3)], (0, 0), h)) rfl ?_
      refine ab_W.go (mm _) 1 (c' := (56, [.ref 0, .int (nI 3)], [], (0, 0), h)) rfl ?_
      refine ab_W.go (mm _) 1 (c' := (57, [.ref 0, .int (nI 3)], [.ref 0], (0, 0), h)) rfl ?_
      refine ab_W.o (mm _) (r0) rfl (c' := (60, [.ref 0, .int (nI 3)], [.int (nI (kpN σ.2.2))], (0, 0), h)) rfl ?_
      refine ab_W.retI (mm _) (rt := some .int) (v := nI (kpN σ.2.2)) rfl rfl ?_
      exact hp h hR (fun _ _ => rfl)
    | n + 4, z => exact absurd z (by omega)
