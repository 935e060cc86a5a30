/-! HAPPEN, IMAGE, RESTORE -/
theorem sp_happen (d : Nat) {h : ab_H} {σ : Sg} {x : Int32} (hR : relC h σ) (hn60 : hn σ.1 ≤ 60) {post : ab_P} (hp : okC h post ((happenO σ.1 (stN σ.1 x)).1) ((happenO σ.1 (stN σ.1 x)).2, σ.2)) : mCC (d + 13) kSpanStamps_happen [.ref 0, .int x] h post := by
  have r0 := hR.1
  have rc := hR.2.1
  rcases stamp_or σ.1 x with hx | ⟨s, hs, rfl, hx⟩
  · rw [stN_no hx] at hp
    refine ⟨rfl, ?_⟩
    show ab_W _ _ _ (0, [.ref 0, .int x, .retAddr 0, .retAddr 0], [], (0, 0), h)
    refine ab_W.go (mm _) 1 (c' := (1, [.ref 0, .int x, .retAddr 0, .retAddr 0], [.ref 0], (0, 0), h)) rfl ?_
    refine ab_W.o (mm _) (r0) rfl (c' := (4, [.ref 0, .int x, .retAddr 0, .retAddr 0], [.ref 1], (0, 0), h)) rfl ?_
    refine ab_W.go (mm _) 1 (c' := (5, [.ref 0, .int x, .retAddr 0, .retAddr 0], [.int x, .ref 1], (0, 0), h)) rfl ?_
    refine ab_W.callV (mm _) (rc.1) rfl (k := 1) (av := [.ref 1, .int x]) (c' := (8, [.ref 0, .int x, .retAddr 0, .retAddr 0], [], (0, 0), h)) rfl ?_
    refine sp_findN _ rc hx ?_
    show ab_W _ _ _ (8, [.ref 0, .int x, .retAddr 0, .retAddr 0], [.null], (0, 0), h)
    refine ab_W.go (mm _) 2 (c' := (10, [.ref 0, .int x, .null, .retAddr 0], [.null], (0, 0), h)) rfl ?_
    refine ab_W.go (mm _) 1 (c' := (13, [.ref 0, .int x, .null, .retAddr 0], [], (0, 0), h)) rfl ?_
    refine ab_W.go (mm _) 1 (c' := (14, [.ref 0, .int x, .null, .retAddr 0], [.int (-(nI 1))], (0, 0), h)) rfl ?_
    refine ab_W.retI (mm _) (rt := some .int) (v := -(nI 1)) rfl rfl ?_
    exact hp h hR (fun _ _ => rfl)
  · rw [stN_yes hs hx] at hp
    have e := (rc.2.2 s hs).1
    refine ⟨rfl, ?_⟩
    show ab_W _ _ _ (0, [.ref 0, .int (nI s), .retAddr 0, .retAddr 0], [], (0, 0), h)
    refine ab_W.go (mm _) 1 (c' := (1, [.ref 0, .int (nI s), .retAddr 0, .retAddr 0], [.ref 0], (0, 0), h)) rfl ?_
    refine ab_W.o (mm _) (r0) rfl (c' := (4, [.ref 0, .int (nI s), .retAddr 0, .retAddr 0], [.ref 1], (0, 0), h)) rfl ?_
    refine ab_W.go (mm _) 1 (c' := (5, [.ref 0, .int (nI s), .retAddr 0, .retAddr 0], [.int (nI s), .ref 1], (0, 0), h)) rfl ?_
    refine ab_W.callV (mm _) (rc.1) rfl (k := 1) (av := [.ref 1, .int (nI s)]) (c' := (8, [.ref 0, .int (nI s), .retAddr 0, .retAddr 0], [], (0, 0), h)) rfl ?_
    refine sp_find _ rc hs hx ?_
    show ab_W _ _ _ (8, [.ref 0, .int (nI s), .retAddr 0, .retAddr 0], [.ref (1 + 2 + 2 * s)], (0, 0), h)
    refine ab_W.go (mm _) 2 (c' := (10, [.ref 0, .int (nI s), .ref (1 + 2 + 2 * s), .retAddr 0], [.ref (1 + 2 + 2 * s)], (0, 0), h)) rfl ?_
    refine ab_W.go (mm _) 1 (c' := (15, [.ref 0, .int (nI s), .ref (1 + 2 + 2 * s), .retAddr 0], [], (0, 0), h)) rfl ?_
    refine ab_W.go (mm _) 1 (c' := (16, [.ref 0, .int (nI s), .ref (1 + 2 + 2 * s), .retAddr 0], [.ref (1 + 2 + 2 * s)], (0, 0), h)) rfl ?_
    obtain ⟨-, -, -, ⟨x1, x2, x3, x4, x5, r4⟩, ⟨gF, r5⟩, -⟩ := id hR
    obtain ⟨-, g, f2, f3⟩ := rc.2.2 s hs
    refine ab_W.o (mm _) (e) rfl (c' := (19, [.ref 0, .int (nI s), .ref (1 + 2 + 2 * s), .retAddr 0], [.long (nm σ.1 s)], (0, 0), h)) rfl ?_
    refine ab_W.go (mm _) 2 (c' := (21, [.ref 0, .int (nI s), .ref (1 + 2 + 2 * s), .retAddr 0], [.int (lg_cmp (nm σ.1 s) (lN 0))], (0, 0), h)) rfl ?_
    refine ab_W.ite (mm _) (p := (lg_cmp (nm σ.1 s) (lN 0)) = 0) (c1 := (24, [.ref 0, .int (nI s), .ref (1 + 2 + 2 * s), .retAddr 0], [], (0, 0), h)) (c2 := (27, [.ref 0, .int (nI s), .ref (1 + 2 + 2 * s), .retAddr 0], [], (0, 0), h)) rfl (fun q => ?_) (fun q => ?_)
    · skip
      rw [show happenO σ.1 (some s) = _ from ci_t ((lg_cmp0 _ _).mp q)] at hp
      refine ab_W.go (mm _) 1 (c' := (26, [.ref 0, .int (nI s), .ref (1 + 2 + 2 * s), .retAddr 0], [.int (-(nI 3))], (0, 0), h)) rfl ?_
      refine ab_W.retI (mm _) (rt := some .int) (v := -(nI 3)) rfl rfl ?_
      exact hp h hR (fun _ _ => rfl)
    · skip
      have q : ¬ nm σ.1 s = lN 0 := fun z => q ((lg_cmp0 _ _).mpr z)
      refine ab_W.go (mm _) 1 (c' := (28, [.ref 0, .int (nI s), .ref (1 + 2 + 2 * s), .retAddr 0], [.ref 0], (0, 0), h)) rfl ?_
      refine ab_W.o (mm _) (r0) rfl (c' := (31, [.ref 0, .int (nI s), .ref (1 + 2 + 2 * s), .retAddr 0], [.ref 1], (0, 0), h)) rfl ?_
      refine ab_W.o (mm _) (rc.1) rfl (c' := (34, [.ref 0, .int (nI s), .ref (1 + 2 + 2 * s), .retAddr 0], [.int (nI (hn σ.1))], (0, 0), h)) rfl ?_
      refine ab_W.go (mm _) 1 (c' := (36, [.ref 0, .int (nI s), .ref (1 + 2 + 2 * s), .retAddr 0], [.int (nI 60), .int (nI (hn σ.1))], (0, 0), h)) rfl ?_
      refine ab_W.ite (mm _) (p := (nI (hn σ.1)) < (nI 60)) (c1 := (42, [.ref 0, .int (nI s), .ref (1 + 2 + 2 * s), .retAddr 0], [], (0, 0), h)) (c2 := (39, [.ref 0, .int (nI s), .ref (1 + 2 + 2 * s), .retAddr 0], [], (0, 0), h)) rfl (fun q1 => ?_) (fun q1 => ?_)
      · skip
        have q1 : ¬ 60 ≤ hn σ.1 := fun z => Int32.not_le.mpr q1 ((nI_leI (by omega) (by omega)).mpr z)
        rw [show happenO σ.1 (some s) = _ from (ci_f q).trans (ci_f q1)] at hp
        refine ab_W.go (mm _) 1 (c' := (43, [.ref 0, .int (nI s), .ref (1 + 2 + 2 * s), .retAddr 0], [.ref 0], (0, 0), h)) rfl ?_
        refine ab_W.o (mm _) (r0) rfl (c' := (46, [.ref 0, .int (nI s), .ref (1 + 2 + 2 * s), .retAddr 0], [.ref 28], (0, 0), h)) rfl ?_
        refine ab_W.go (mm _) 1 (c' := (47, [.ref 0, .int (nI s), .ref (1 + 2 + 2 * s), .retAddr 0], [.ref (1 + 2 + 2 * s), .ref 28], (0, 0), h)) rfl ?_
        refine ab_W.callV (mm _) (r4) rfl (k := 13) (av := [.ref 28, .ref (1 + 2 + 2 * s)]) (c' := (50, [.ref 0, .int (nI s), .ref (1 + 2 + 2 * s), .retAddr 0], [], (0, 0), h)) rfl ?_
        refine sp_lookAt _ e f2 r4 r5 (by decide) (by omega) (by omega) (by omega) (by omega) (isP_ex q) (fun y1 y2 y3 y4 y5 G lk => ?_)
        obtain ⟨w1, w2, w3, w4, w5, w6⟩ := (lk.congr f3).ok
        have hR1 : relC (hX h 28 29 y1 y2 y3 y4 y5 G) σ := hR.fore
        have hk1 : ∀ i, 84 ≤ i → (hX h 28 29 y1 y2 y3 y4 y5 G)[i]? = h[i]? := fun i hi => hX_ne (by omega) (by omega)
        have m4 : (hX h 28 29 y1 y2 y3 y4 y5 G)[28]? = _ := hX_o (hA_lt r4) (by decide)
        have m5 : (hX h 28 29 y1 y2 y3 y4 y5 G)[29]? = _ := hX_oh (hA_lt r5)
        obtain ⟨h1, e1⟩ : ∃ h1, h1 = hX h 28 29 y1 y2 y3 y4 y5 G := ⟨_, rfl⟩
        rw [← e1] at hR1 hk1 m4 m5
        show ab_W _ _ _ (50, [.ref 0, .int (nI s), .ref (1 + 2 + 2 * s), .retAddr 0], [], (0, 0), hX h 28 29 y1 y2 y3 y4 y5 G)
        refine ab_W.hp (e1.symm) ?_
        show ab_W _ _ _ (50, [.ref 0, .int (nI s), .ref (1 + 2 + 2 * s), .retAddr 0], [], (0, 0), h1)
        have s0 := hR1.1
        have sc := hR1.2.1
        have cs := sc.2.2 s hs
        rw [hx] at cs
        obtain ⟨c1, gg, c2, -⟩ := cs
        refine ab_W.go (mm _) 1 (c' := (51, [.ref 0, .int (nI s), .ref (1 + 2 + 2 * s), .retAddr 0], [.ref 0], (0, 0), h1)) rfl ?_
        refine ab_W.o (mm _) (s0) rfl (c' := (54, [.ref 0, .int (nI s), .ref (1 + 2 + 2 * s), .retAddr 0], [.ref 28], (0, 0), h1)) rfl ?_
        refine ab_W.o (mm _) (m4) rfl (c' := (57, [.ref 0, .int (nI s), .ref (1 + 2 + 2 * s), .retAddr 0], [.ref 29], (0, 0), h1)) rfl ?_
        refine ab_W.go (mm _) 2 (c' := (59, [.ref 0, .int (nI s), .ref (1 + 2 + 2 * s), .retAddr 0], [.ref (1 + 2 + 2 * s), .int (nI 0), .ref 29], (0, 0), h1)) rfl ?_
        refine ab_W.o (mm _) (c1) rfl (c' := (62, [.ref 0, .int (nI s), .ref (1 + 2 + 2 * s), .retAddr 0], [.ref (1 + 2 + 2 * s + 1), .int (nI 0), .ref 29], (0, 0), h1)) rfl ?_
        refine ab_W.go (mm _) 2 (c' := (65, [.ref 0, .int (nI s), .ref (1 + 2 + 2 * s), .retAddr 0], [.int (nI 64), .int (nI 0), .ref (1 + 2 + 2 * s + 1), .int (nI 0), .ref 29], (0, 0), h1)) rfl ?_
        refine ab_W.copy64 (mm _) m5 c2 rfl rfl ?_
        obtain ⟨h2, e2⟩ : ∃ h2, h2 = hA h1 (1 + 2 + 2 * s + 1) (va_cpy G gg 0 0 64) := ⟨_, rfl⟩
        have k2 : ∀ i, i ≠ 1 + 2 + 2 * s + 1 → h2[i]? = h1[i]? := fun i hi => by rw [e2]; exact hA_ne (fun z => hi z.symm)
        have c2 : h2[1 + 2 + 2 * s + 1]? = some (.inl (0, 64, .inl (va_cpy G gg 0 0 64))) := by rw [e2]; exact hA_at (hA_lt c2)
        have c1 := (k2 _ (by omega)).trans c1
        show ab_W _ _ _ (68, [.ref 0, .int (nI s), .ref (1 + 2 + 2 * s), .retAddr 0], [], (0, 0), hA h1 (1 + 2 + 2 * s + 1) (va_cpy G gg 0 0 64))
        refine ab_W.hp (e2.symm) ?_
        show ab_W _ _ _ (68, [.ref 0, .int (nI s), .ref (1 + 2 + 2 * s), .retAddr 0], [], (0, 0), h2)
        refine ab_W.go (mm _) 1 (c' := (69, [.ref 0, .int (nI s), .ref (1 + 2 + 2 * s), .retAddr 0], [.ref 0], (0, 0), h2)) rfl ?_
        refine ab_W.o (mm _) ((k2 0 (by omega)).trans s0) rfl (c' := (72, [.ref 0, .int (nI s), .ref (1 + 2 + 2 * s), .retAddr 0], [.ref 1], (0, 0), h2)) rfl ?_
        refine ab_W.o (mm _) ((k2 1 (by omega)).trans sc.1) rfl (c' := (75, [.ref 0, .int (nI s), .ref (1 + 2 + 2 * s), .retAddr 0], [.int (nI (hn σ.1))], (0, 0), h2)) rfl ?_
        refine ab_W.go (mm _) 3 (c' := (78, [.ref 0, .int (nI s), .ref (1 + 2 + 2 * s), .int (nI (hn σ.1))], [.ref (1 + 2 + 2 * s), .ref (1 + 2 + 2 * s)], (0, 0), h2)) rfl ?_
        refine ab_W.o (mm _) (c1) rfl (c' := (81, [.ref 0, .int (nI s), .ref (1 + 2 + 2 * s), .int (nI (hn σ.1))], [.long (kn σ.1 s), .ref (1 + 2 + 2 * s)], (0, 0), h2)) rfl ?_
        refine ab_W.go (mm _) 4 (c' := (85, [.ref 0, .int (nI s), .ref (1 + 2 + 2 * s), .int (nI (hn σ.1))], [.long ((kn σ.1 s) ||| ((lN 1) <<< ((nI (hn σ.1)).toInt64 &&& 63))), .ref (1 + 2 + 2 * s)], (0, 0), h2)) rfl ?_
        refine ab_W.o (mm _) (c1) rfl (c' := (88, [.ref 0, .int (nI s), .ref (1 + 2 + 2 * s), .int (nI (hn σ.1))], [], (0, 0), h2.set (1 + 2 + 2 * s) (.inr (3, [.int (b2i true), .long (nm σ.1 s), .long (kn σ.1 s ||| (lN 1 <<< ((nI (hn σ.1)).toInt64 &&& 63))), .ref (1 + 2 + 2 * s + 1)])))) rfl ?_
        obtain ⟨h3, e3⟩ : ∃ h3, h3 = h2.set (1 + 2 + 2 * s) (.inr (3, [.int (b2i true), .long (nm σ.1 s), .long (kn σ.1 s ||| (lN 1 <<< ((nI (hn σ.1)).toInt64 &&& 63))), .ref (1 + 2 + 2 * s + 1)])) := ⟨_, rfl⟩
        have k3 : ∀ i, i ≠ 1 + 2 + 2 * s → h3[i]? = h2[i]? := fun i hi => by rw [e3]; exact set_ne (fun z => hi z.symm)
        have c1 : h3[1 + 2 + 2 * s]? = some (.inr (3, [.int (b2i true), .long (nm σ.1 s), .long (kn σ.1 s ||| (lN 1 <<< ((nI (hn σ.1)).toInt64 &&& 63))), .ref (1 + 2 + 2 * s + 1)])) := by rw [e3]; exact set_at c1
        have c2 := (k3 _ (by omega)).trans c2
        refine ab_W.hp (e3.symm) ?_
        show ab_W _ _ _ (88, [.ref 0, .int (nI s), .ref (1 + 2 + 2 * s), .int (nI (hn σ.1))], [], (0, 0), h3)
        have kA : ∀ i, i < 3 + 2 * s ∨ 5 + 2 * s ≤ i → h3[i]? = h1[i]? := fun i hi => (k3 i (by omega)).trans (k2 i (by omega))
        refine ab_W.go (mm _) 1 (c' := (89, [.ref 0, .int (nI s), .ref (1 + 2 + 2 * s), .int (nI (hn σ.1))], [.ref 0], (0, 0), h3)) rfl ?_
        refine ab_W.o (mm _) ((kA 0 (by omega)).trans s0) rfl (c' := (92, [.ref 0, .int (nI s), .ref (1 + 2 + 2 * s), .int (nI (hn σ.1))], [.ref 1], (0, 0), h3)) rfl ?_
        refine ab_W.go (mm _) 3 (c' := (95, [.ref 0, .int (nI s), .ref (1 + 2 + 2 * s), .int (nI (hn σ.1))], [.int ((nI (hn σ.1)) + (nI 1)), .ref 1], (0, 0), h3)) rfl ?_
        refine ab_W.topi (nI_add (hn σ.1) 1) ?_
        have z1 := (kA 1 (by omega)).trans sc.1
        refine ab_W.o (mm _) (z1) rfl (c' := (98, [.ref 0, .int (nI s), .ref (1 + 2 + 2 * s), .int (nI (hn σ.1))], [], (0, 0), h3.set 1 (.inr (0, [.ref 2, .int (nI (hn σ.1 + 1))])))) rfl ?_
        obtain ⟨h4, e4⟩ : ∃ h4, h4 = h3.set 1 (.inr (0, [.ref 2, .int (nI (hn σ.1 + 1))])) := ⟨_, rfl⟩
        have k4 : ∀ i, i ≠ 1 → h4[i]? = h3[i]? := fun i hi => by rw [e4]; exact set_ne (fun z => hi z.symm)
        refine ab_W.hp (e4.symm) ?_
        show ab_W _ _ _ (98, [.ref 0, .int (nI s), .ref (1 + 2 + 2 * s), .int (nI (hn σ.1))], [], (0, 0), h4)
        refine ab_W.go (mm _) 1 (c' := (99, [.ref 0, .int (nI s), .ref (1 + 2 + 2 * s), .int (nI (hn σ.1))], [.int (nI (hn σ.1))], (0, 0), h4)) rfl ?_
        refine ab_W.retI (mm _) (rt := some .int) (v := nI (hn σ.1)) rfl rfl ?_
        have p1 : st_P h4 (1 + 2 + 2 * s) true (nm σ.1 s) (kn σ.1 s ||| (lN 1 <<< ((nI (hn σ.1)).toInt64 &&& 63))) (hpF (nm σ.1 s) (ht σ.1 s)) := ⟨(k4 _ (by omega)).trans c1, _, (k4 _ (by omega)).trans c2, fun c hc => (cpy64 hc).trans (w6 c hc)⟩
        have c4 : cir h4 1 (setH (setS σ.1 s true (nm σ.1 s) (kn σ.1 s ||| (lN 1 <<< ((nI (hn σ.1)).toInt64 &&& 63))) (hpF (nm σ.1 s) (ht σ.1 s))) (hn σ.1 + 1)) := by
          obtain ⟨u1, ⟨uq, u2, u3⟩, u4⟩ := sc
          refine ⟨by rw [e4]; exact set_at z1, ⟨uq, (k4 _ (by omega)).trans ((kA _ (by omega)).trans u2), u3⟩, fun v hv => ?_⟩
          by_cases ev : v = s
          · subst ev
            show st_P h4 _ (va_up _ v _ v) (va_up _ v _ v) (va_up _ v _ v) (va_up _ v _ v)
            rw [va_up_self, va_up_self, va_up_self, va_up_self]
            exact p1
          · show st_P h4 _ (va_up _ s _ v) (va_up _ s _ v) (va_up _ s _ v) (va_up _ s _ v)
            rw [va_up_ne _ _ ev, va_up_ne _ _ ev, va_up_ne _ _ ev, va_up_ne _ _ ev]
            exact (u4 v hv).kept ((k4 _ (by omega)).trans (kA _ (by omega))) ((k4 _ (by omega)).trans (kA _ (by omega)))
        exact hp _ (hR1.cur c4 (fun i hi => (k4 i (by omega)).trans (kA i (by omega)))) (fun i hi => (k4 i (by omega)).trans ((kA i (by omega)).trans (hk1 i hi)))
      · skip
        have q1 : 60 ≤ hn σ.1 := (nI_leI (by omega) (by omega)).mp (Int32.not_lt.mp q1)
        rw [show happenO σ.1 (some s) = _ from (ci_f q).trans (ci_t q1)] at hp
        refine ab_W.go (mm _) 1 (c' := (41, [.ref 0, .int (nI s), .ref (1 + 2 + 2 * s), .retAddr 0], [.int (-(nI 4))], (0, 0), h)) rfl ?_
        refine ab_W.retI (mm _) (rt := some .int) (v := -(nI 4)) rfl rfl ?_
        exact hp h hR (fun _ _ => rfl)
theorem kp_or0 (k : Nat → Bool) : (nI (kpN k)) ||| ((nI 1) <<< ((nI 0) &&& 31)) = nI (kpN (va_up k 0 true)) := by
  unfold kpN
  rw [va_up_self, va_up_ne _ _ (show (1 : Nat) ≠ 0 by decide)]
  cases k 0 <;> cases k 1 <;> decide
theorem kp_and0 (k : Nat → Bool) : (nI (kpN k)) &&& ((nI 1) <<< ((nI 0) &&& 31)) = 0 ↔ k 0 = false := by
  unfold kpN
  cases k 0 <;> cases k 1 <;> decide
theorem kp_or1 (k : Nat → Bool) : (nI (kpN k)) ||| ((nI 1) <<< ((nI 1) &&& 31)) = nI (kpN (va_up k 1 true)) := by
  unfold kpN
  rw [va_up_self, va_up_ne _ _ (show (0 : Nat) ≠ 1 by decide)]
  cases k 0 <;> cases k 1 <;> decide
theorem kp_and1 (k : Nat → Bool) : (nI (kpN k)) &&& ((nI 1) <<< ((nI 1) &&& 31)) = 0 ↔ k 1 = false := by
  unfold kpN
  cases k 0 <;> cases k 1 <;> decide
theorem sp_image (d : Nat) {h : ab_H} {σ : Sg} {y : Int32} (hR : relC h σ) {post : ab_P} (hp : okC h post (imgF σ y).1 (imgF σ y).2) : mCC (d + 4) kSpanStamps_image [.ref 0, .int y] h post := by
  have r0 := hR.1
  have rc := hR.2.1
  rcases pk_ix y (n := 2) (by decide) with q | q | ⟨j, j1, rfl⟩
  · rw [show imgF σ y = _ from ci_t (Or.inl q)] at hp
    refine ⟨rfl, ?_⟩
    show ab_W _ _ _ (0, [.ref 0, .int y], [], (0, 0), h)
    refine ab_W.go (mm _) 1 (c' := (1, [.ref 0, .int y], [.int y], (0, 0), h)) rfl ?_
    refine ab_W.itT (mm _) (p := y < 0) (c1 := (9, [.ref 0, .int y], [], (0, 0), h)) (c2 := (4, [.ref 0, .int y], [], (0, 0), h)) rfl (q) ?_
    refine ab_W.go (mm _) 1 (c' := (11, [.ref 0, .int y], [.int (-(nI 2))], (0, 0), h)) rfl ?_
    refine ab_W.retI (mm _) (rt := some .int) (v := -(nI 2)) rfl rfl ?_
    exact hp h hR (fun _ _ => rfl)
  · rw [show imgF σ y = _ from ci_t (Or.inr q)] at hp
    refine ⟨rfl, ?_⟩
    show ab_W _ _ _ (0, [.ref 0, .int y], [], (0, 0), h)
    refine ab_W.go (mm _) 1 (c' := (1, [.ref 0, .int y], [.int y], (0, 0), h)) rfl ?_
    refine ab_W.itF (mm _) (p := y < 0) (c1 := (9, [.ref 0, .int y], [], (0, 0), h)) (c2 := (4, [.ref 0, .int y], [], (0, 0), h)) rfl (nI_le0 q (by decide)) ?_
    refine ab_W.go (mm _) 2 (c' := (6, [.ref 0, .int y], [.int (nI 2), .int y], (0, 0), h)) rfl ?_
    refine ab_W.itF (mm _) (p := y < (nI 2)) (c1 := (12, [.ref 0, .int y], [], (0, 0), h)) (c2 := (9, [.ref 0, .int y], [], (0, 0), h)) rfl (fun z => Int32.not_le.mpr z q) ?_
    refine ab_W.go (mm _) 1 (c' := (11, [.ref 0, .int y], [.int (-(nI 2))], (0, 0), h)) rfl ?_
    refine ab_W.retI (mm _) (rt := some .int) (v := -(nI 2)) rfl rfl ?_
    exact hp h hR (fun _ _ => rfl)
  · match j, j1 with
    | 0, _ =>
      rw [show imgF σ (nI 0) = _ from ci_f (by decide), show (nI 0).toNatClampNeg = 0 by decide] at hp
      obtain ⟨-, -, ⟨q, r2, q0, q1⟩, ⟨x1, x2, x3, x4, x5, r4⟩, ⟨gF, r5⟩, ⟨z, r6⟩, ⟨g2, r7⟩, r8, r9⟩ := id hR
      refine ⟨rfl, ?_⟩
      show ab_W _ _ _ (0, [.ref 0, .int (nI 0)], [], (0, 0), h)
      refine ab_W.go (mm _) 1 (c' := (1, [.ref 0, .int (nI 0)], [.int (nI 0)], (0, 0), h)) rfl ?_
      refine ab_W.itF (mm _) (p := (nI 0) < 0) (c1 := (9, [.ref 0, .int (nI 0)], [], (0, 0), h)) (c2 := (4, [.ref 0, .int (nI 0)], [], (0, 0), h)) rfl ((by decide)) ?_
      refine ab_W.go (mm _) 2 (c' := (6, [.ref 0, .int (nI 0)], [.int (nI 2), .int (nI 0)], (0, 0), h)) rfl ?_
      refine ab_W.itT (mm _) (p := (nI 0) < (nI 2)) (c1 := (12, [.ref 0, .int (nI 0)], [], (0, 0), h)) (c2 := (9, [.ref 0, .int (nI 0)], [], (0, 0), h)) rfl ((by decide)) ?_
      refine ab_W.go (mm _) 1 (c' := (13, [.ref 0, .int (nI 0)], [.ref 0], (0, 0), h)) rfl ?_
      refine ab_W.o (mm _) (r0) rfl (c' := (16, [.ref 0, .int (nI 0)], [.ref 27], (0, 0), h)) rfl ?_
      refine ab_W.go (mm _) 1 (c' := (17, [.ref 0, .int (nI 0)], [.int (nI 0), .ref 27], (0, 0), h)) rfl ?_
      refine ab_W.aref (mm _) (j := 0) (r2) (q0) rfl (by omega) rfl rfl rfl ?_
      show ab_W _ _ _ (18, [.ref 0, .int (nI 0)], [.ref 32], (0, 0), h)
      refine ab_W.go (mm _) 1 (c' := (19, [.ref 0, .int (nI 0)], [.ref 0, .ref 32], (0, 0), h)) rfl ?_
      refine ab_W.o (mm _) (r0) rfl (c' := (22, [.ref 0, .int (nI 0)], [.ref 1, .ref 32], (0, 0), h)) rfl ?_
      refine ab_W.callV (mm _) (r8.1) rfl (k := 5) (av := [.ref 32, .ref 1]) (c' := (25, [.ref 0, .int (nI 0)], [], (0, 0), h)) rfl ?_
      refine sp_ccopy _ r8 rc (by omega) (fun h1 c1 k1 => ?_)
      show ab_W _ _ _ (25, [.ref 0, .int (nI 0)], [], (0, 0), h1)
      have s0 := (k1 0 (by omega)).trans r0
      refine ab_W.go (mm _) 2 (c' := (27, [.ref 0, .int (nI 0)], [.ref 0, .ref 0], (0, 0), h1)) rfl ?_
      refine ab_W.o (mm _) (s0) rfl (c' := (30, [.ref 0, .int (nI 0)], [.int (nI (kpN σ.2.2)), .ref 0], (0, 0), h1)) rfl ?_
      refine ab_W.go (mm _) 4 (c' := (34, [.ref 0, .int (nI 0)], [.int ((nI (kpN σ.2.2)) ||| ((nI 1) <<< ((nI 0) &&& 31))), .ref 0], (0, 0), h1)) rfl ?_
      refine ab_W.topi (kp_or0 σ.2.2) ?_
      refine ab_W.o (mm _) (s0) rfl (c' := (37, [.ref 0, .int (nI 0)], [], (0, 0), h1.set 0 (.inr (4, [.ref 1, .ref 27, .int (nI (kpN (va_up σ.2.2 0 true))), .ref 28, .ref 30])))) rfl ?_
      refine ab_W.go (mm _) 1 (c' := (38, [.ref 0, .int (nI 0)], [.int (nI 1)], (0, 0), h1.set 0 (.inr (4, [.ref 1, .ref 27, .int (nI (kpN (va_up σ.2.2 0 true))), .ref 28, .ref 30])))) rfl ?_
      refine ab_W.retI (mm _) (rt := some .int) (v := nI 1) rfl rfl ?_
      have k2 : ∀ i, i ≠ 0 → i < 32 ∨ 58 ≤ i → (h1.set 0 (.inr (4, [.ref 1, .ref 27, .int (nI (kpN (va_up σ.2.2 0 true))), .ref 28, .ref 30])))[i]? = h[i]? := fun i i0 i1 => (set_ne (fun z => i0 z.symm)).trans (k1 i i1)
      refine hp _ ⟨set_at s0, rc.kept (fun i _ _ => k2 i (by omega) (by omega)), ⟨q, (k2 _ (by omega) (by omega)).trans r2, q0, q1⟩, ⟨x1, x2, x3, x4, x5, (k2 _ (by omega) (by omega)).trans r4⟩, ⟨gF, (k2 _ (by omega) (by omega)).trans r5⟩, ⟨z, (k2 _ (by omega) (by omega)).trans r6⟩, ⟨g2, (k2 _ (by omega) (by omega)).trans r7⟩, ?_, ?_⟩ (fun i hi => k2 i (by omega) (by omega))
      · show cir _ 32 (va_up σ.2.1 0 σ.1 0)
        rw [va_up_self]
        exact c1.kept (fun i _ _ => set_ne (by omega))
      · show cir _ 58 (va_up σ.2.1 0 σ.1 1)
        rw [va_up_ne _ _ (by decide)]
        exact r9.kept (fun i _ _ => k2 i (by omega) (by omega))
    | 1, _ =>
      rw [show imgF σ (nI 1) = _ from ci_f (by decide), show (nI 1).toNatClampNeg = 1 by decide] at hp
      obtain ⟨-, -, ⟨q, r2, q0, q1⟩, ⟨x1, x2, x3, x4, x5, r4⟩, ⟨gF, r5⟩, ⟨z, r6⟩, ⟨g2, r7⟩, r8, r9⟩ := id hR
      refine ⟨rfl, ?_⟩
      show ab_W _ _ _ (0, [.ref 0, .int (nI 1)], [], (0, 0), h)
      refine ab_W.go (mm _) 1 (c' := (1, [.ref 0, .int (nI 1)], [.int (nI 1)], (0, 0), h)) rfl ?_
      refine ab_W.itF (mm _) (p := (nI 1) < 0) (c1 := (9, [.ref 0, .int (nI 1)], [], (0, 0), h)) (c2 := (4, [.ref 0, .int (nI 1)], [], (0, 0), h)) rfl ((by decide)) ?_
      refine ab_W.go (mm _) 2 (c' := (6, [.ref 0, .int (nI 1)], [.int (nI 2), .int (nI 1)], (0, 0), h)) rfl ?_
      refine ab_W.itT (mm _) (p := (nI 1) < (nI 2)) (c1 := (12, [.ref 0, .int (nI 1)], [], (0, 0), h)) (c2 := (9, [.ref 0, .int (nI 1)], [], (0, 0), h)) rfl ((by decide)) ?_
      refine ab_W.go (mm _) 1 (c' := (13, [.ref 0, .int (nI 1)], [.ref 0], (0, 0), h)) rfl ?_
      refine ab_W.o (mm _) (r0) rfl (c' := (16, [.ref 0, .int (nI 1)], [.ref 27], (0, 0), h)) rfl ?_
      refine ab_W.go (mm _) 1 (c' := (17, [.ref 0, .int (nI 1)], [.int (nI 1), .ref 27], (0, 0), h)) rfl ?_
      refine ab_W.aref (mm _) (j := 1) (r2) (q1) rfl (by omega) rfl rfl rfl ?_
      show ab_W _ _ _ (18, [.ref 0, .int (nI 1)], [.ref 58], (0, 0), h)
      refine ab_W.go (mm _) 1 (c' := (19, [.ref 0, .int (nI 1)], [.ref 0, .ref 58], (0, 0), h)) rfl ?_
      refine ab_W.o (mm _) (r0) rfl (c' := (22, [.ref 0, .int (nI 1)], [.ref 1, .ref 58], (0, 0), h)) rfl ?_
      refine ab_W.callV (mm _) (r9.1) rfl (k := 5) (av := [.ref 58, .ref 1]) (c' := (25, [.ref 0, .int (nI 1)], [], (0, 0), h)) rfl ?_
      refine sp_ccopy _ r9 rc (by omega) (fun h1 c1 k1 => ?_)
      show ab_W _ _ _ (25, [.ref 0, .int (nI 1)], [], (0, 0), h1)
      have s0 := (k1 0 (by omega)).trans r0
      refine ab_W.go (mm _) 2 (c' := (27, [.ref 0, .int (nI 1)], [.ref 0, .ref 0], (0, 0), h1)) rfl ?_
      refine ab_W.o (mm _) (s0) rfl (c' := (30, [.ref 0, .int (nI 1)], [.int (nI (kpN σ.2.2)), .ref 0], (0, 0), h1)) rfl ?_
      refine ab_W.go (mm _) 4 (c' := (34, [.ref 0, .int (nI 1)], [.int ((nI (kpN σ.2.2)) ||| ((nI 1) <<< ((nI 1) &&& 31))), .ref 0], (0, 0), h1)) rfl ?_
      refine ab_W.topi (kp_or1 σ.2.2) ?_
      refine ab_W.o (mm _) (s0) rfl (c' := (37, [.ref 0, .int (nI 1)], [], (0, 0), h1.set 0 (.inr (4, [.ref 1, .ref 27, .int (nI (kpN (va_up σ.2.2 1 true))), .ref 28, .ref 30])))) rfl ?_
      refine ab_W.go (mm _) 1 (c' := (38, [.ref 0, .int (nI 1)], [.int (nI 1)], (0, 0), h1.set 0 (.inr (4, [.ref 1, .ref 27, .int (nI (kpN (va_up σ.2.2 1 true))), .ref 28, .ref 30])))) rfl ?_
      refine ab_W.retI (mm _) (rt := some .int) (v := nI 1) rfl rfl ?_
      have k2 : ∀ i, i ≠ 0 → i < 58 ∨ 84 ≤ i → (h1.set 0 (.inr (4, [.ref 1, .ref 27, .int (nI (kpN (va_up σ.2.2 1 true))), .ref 28, .ref 30])))[i]? = h[i]? := fun i i0 i1 => (set_ne (fun z => i0 z.symm)).trans (k1 i i1)
      refine hp _ ⟨set_at s0, rc.kept (fun i _ _ => k2 i (by omega) (by omega)), ⟨q, (k2 _ (by omega) (by omega)).trans r2, q0, q1⟩, ⟨x1, x2, x3, x4, x5, (k2 _ (by omega) (by omega)).trans r4⟩, ⟨gF, (k2 _ (by omega) (by omega)).trans r5⟩, ⟨z, (k2 _ (by omega) (by omega)).trans r6⟩, ⟨g2, (k2 _ (by omega) (by omega)).trans r7⟩, ?_, ?_⟩ (fun i hi => k2 i (by omega) (by omega))
      · show cir _ 32 (va_up σ.2.1 1 σ.1 0)
        rw [va_up_ne _ _ (by decide)]
        exact r8.kept (fun i _ _ => k2 i (by omega) (by omega))
      · show cir _ 58 (va_up σ.2.1 1 σ.1 1)
        rw [va_up_self]
        exact c1.kept (fun i _ _ => set_ne (by omega))
    | n + 2, z => exact absurd z (by omega)
theorem sp_restore (d : Nat) {h : ab_H} {σ : Sg} {y : Int32} (hR : relC h σ) {post : ab_P} (hp : okC h post (resF σ y).1 (resF σ y).2) : mCC (d + 4) kSpanStamps_restore [.ref 0, .int y] h post := by
  have r0 := hR.1
  have rc := hR.2.1
  rcases pk_ix y (n := 2) (by decide) with q | q | ⟨j, j1, rfl⟩
  · rw [show resF σ y = _ from ci_t (Or.inl q)] at hp
    refine ⟨rfl, ?_⟩
    show ab_W _ _ _ (0, [.ref 0, .int y], [], (0, 0), h)
    refine ab_W.go (mm _) 1 (c' := (1, [.ref 0, .int y], [.int y], (0, 0), h)) rfl ?_
    refine ab_W.itT (mm _) (p := y < 0) (c1 := (9, [.ref 0, .int y], [], (0, 0), h)) (c2 := (4, [.ref 0, .int y], [], (0, 0), h)) rfl (q) ?_
    refine ab_W.go (mm _) 1 (c' := (11, [.ref 0, .int y], [.int (-(nI 2))], (0, 0), h)) rfl ?_
    refine ab_W.retI (mm _) (rt := some .int) (v := -(nI 2)) rfl rfl ?_
    exact hp h hR (fun _ _ => rfl)
  · rw [show resF σ y = _ from ci_t (Or.inr q)] at hp
    refine ⟨rfl, ?_⟩
    show ab_W _ _ _ (0, [.ref 0, .int y], [], (0, 0), h)
    refine ab_W.go (mm _) 1 (c' := (1, [.ref 0, .int y], [.int y], (0, 0), h)) rfl ?_
    refine ab_W.itF (mm _) (p := y < 0) (c1 := (9, [.ref 0, .int y], [], (0, 0), h)) (c2 := (4, [.ref 0, .int y], [], (0, 0), h)) rfl (nI_le0 q (by decide)) ?_
    refine ab_W.go (mm _) 2 (c' := (6, [.ref 0, .int y], [.int (nI 2), .int y], (0, 0), h)) rfl ?_
    refine ab_W.itF (mm _) (p := y < (nI 2)) (c1 := (12, [.ref 0, .int y], [], (0, 0), h)) (c2 := (9, [.ref 0, .int y], [], (0, 0), h)) rfl (fun z => Int32.not_le.mpr z q) ?_
    refine ab_W.go (mm _) 1 (c' := (11, [.ref 0, .int y], [.int (-(nI 2))], (0, 0), h)) rfl ?_
    refine ab_W.retI (mm _) (rt := some .int) (v := -(nI 2)) rfl rfl ?_
    exact hp h hR (fun _ _ => rfl)
  · match j, j1 with
    | 0, _ =>
      rw [show resF σ (nI 0) = _ from ci_f (by decide), show (nI 0).toNatClampNeg = 0 by decide] at hp
      obtain ⟨-, -, ⟨q, r2, q0, q1⟩, ⟨x1, x2, x3, x4, x5, r4⟩, ⟨gF, r5⟩, ⟨z, r6⟩, ⟨g2, r7⟩, r8, r9⟩ := id hR
      refine ⟨rfl, ?_⟩
      show ab_W _ _ _ (0, [.ref 0, .int (nI 0)], [], (0, 0), h)
      refine ab_W.go (mm _) 1 (c' := (1, [.ref 0, .int (nI 0)], [.int (nI 0)], (0, 0), h)) rfl ?_
      refine ab_W.itF (mm _) (p := (nI 0) < 0) (c1 := (9, [.ref 0, .int (nI 0)], [], (0, 0), h)) (c2 := (4, [.ref 0, .int (nI 0)], [], (0, 0), h)) rfl ((by decide)) ?_
      refine ab_W.go (mm _) 2 (c' := (6, [.ref 0, .int (nI 0)], [.int (nI 2), .int (nI 0)], (0, 0), h)) rfl ?_
      refine ab_W.itT (mm _) (p := (nI 0) < (nI 2)) (c1 := (12, [.ref 0, .int (nI 0)], [], (0, 0), h)) (c2 := (9, [.ref 0, .int (nI 0)], [], (0, 0), h)) rfl ((by decide)) ?_
      refine ab_W.go (mm _) 1 (c' := (13, [.ref 0, .int (nI 0)], [.ref 0], (0, 0), h)) rfl ?_
      refine ab_W.o (mm _) (r0) rfl (c' := (16, [.ref 0, .int (nI 0)], [.int (nI (kpN σ.2.2))], (0, 0), h)) rfl ?_
      refine ab_W.go (mm _) 4 (c' := (20, [.ref 0, .int (nI 0)], [.int ((nI (kpN σ.2.2)) &&& ((nI 1) <<< ((nI 0) &&& 31)))], (0, 0), h)) rfl ?_
      refine ab_W.ite (mm _) (p := ((nI (kpN σ.2.2)) &&& ((nI 1) <<< ((nI 0) &&& 31))) = 0) (c1 := (23, [.ref 0, .int (nI 0)], [], (0, 0), h)) (c2 := (26, [.ref 0, .int (nI 0)], [], (0, 0), h)) rfl (fun qk => ?_) (fun qk => ?_)
      · skip
        have qk := (kp_and0 σ.2.2).mp qk
        rw [ci_f (fun z => by rw [qk] at z; cases z)] at hp
        refine ab_W.go (mm _) 1 (c' := (25, [.ref 0, .int (nI 0)], [.int (-(nI 3))], (0, 0), h)) rfl ?_
        refine ab_W.retI (mm _) (rt := some .int) (v := -(nI 3)) rfl rfl ?_
        exact hp h hR (fun _ _ => rfl)
      · skip
        have qk : σ.2.2 0 = true := by
          cases hb : σ.2.2 0 with
          | true => rfl
          | false => exact absurd ((kp_and0 σ.2.2).mpr hb) qk
        rw [ci_t qk] at hp
        refine ab_W.go (mm _) 1 (c' := (27, [.ref 0, .int (nI 0)], [.ref 0], (0, 0), h)) rfl ?_
        refine ab_W.o (mm _) (r0) rfl (c' := (30, [.ref 0, .int (nI 0)], [.ref 1], (0, 0), h)) rfl ?_
        refine ab_W.go (mm _) 1 (c' := (31, [.ref 0, .int (nI 0)], [.ref 0, .ref 1], (0, 0), h)) rfl ?_
        refine ab_W.o (mm _) (r0) rfl (c' := (34, [.ref 0, .int (nI 0)], [.ref 27, .ref 1], (0, 0), h)) rfl ?_
        refine ab_W.go (mm _) 1 (c' := (35, [.ref 0, .int (nI 0)], [.int (nI 0), .ref 27, .ref 1], (0, 0), h)) rfl ?_
        refine ab_W.aref (mm _) (j := 0) (r2) (q0) rfl (by omega) rfl rfl rfl ?_
        show ab_W _ _ _ (36, [.ref 0, .int (nI 0)], [.ref 32, .ref 1], (0, 0), h)
        refine ab_W.callV (mm _) (rc.1) rfl (k := 5) (av := [.ref 1, .ref 32]) (c' := (39, [.ref 0, .int (nI 0)], [], (0, 0), h)) rfl ?_
        refine sp_ccopy _ rc r8 (by omega) (fun h1 c1 k1 => ?_)
        show ab_W _ _ _ (39, [.ref 0, .int (nI 0)], [], (0, 0), h1)
        refine ab_W.go (mm _) 1 (c' := (40, [.ref 0, .int (nI 0)], [.int (nI 1)], (0, 0), h1)) rfl ?_
        refine ab_W.retI (mm _) (rt := some .int) (v := nI 1) rfl rfl ?_
        exact hp _ (hR.cur c1 (fun i hi => k1 i (by omega))) (fun i hi => k1 i (by omega))
    | 1, _ =>
      rw [show resF σ (nI 1) = _ from ci_f (by decide), show (nI 1).toNatClampNeg = 1 by decide] at hp
      obtain ⟨-, -, ⟨q, r2, q0, q1⟩, ⟨x1, x2, x3, x4, x5, r4⟩, ⟨gF, r5⟩, ⟨z, r6⟩, ⟨g2, r7⟩, r8, r9⟩ := id hR
      refine ⟨rfl, ?_⟩
      show ab_W _ _ _ (0, [.ref 0, .int (nI 1)], [], (0, 0), h)
      refine ab_W.go (mm _) 1 (c' := (1, [.ref 0, .int (nI 1)], [.int (nI 1)], (0, 0), h)) rfl ?_
      refine ab_W.itF (mm _) (p := (nI 1) < 0) (c1 := (9, [.ref 0, .int (nI 1)], [], (0, 0), h)) (c2 := (4, [.ref 0, .int (nI 1)], [], (0, 0), h)) rfl ((by decide)) ?_
      refine ab_W.go (mm _) 2 (c' := (6, [.ref 0, .int (nI 1)], [.int (nI 2), .int (nI 1)], (0, 0), h)) rfl ?_
      refine ab_W.itT (mm _) (p := (nI 1) < (nI 2)) (c1 := (12, [.ref 0, .int (nI 1)], [], (0, 0), h)) (c2 := (9, [.ref 0, .int (nI 1)], [], (0, 0), h)) rfl ((by decide)) ?_
      refine ab_W.go (mm _) 1 (c' := (13, [.ref 0, .int (nI 1)], [.ref 0], (0, 0), h)) rfl ?_
      refine ab_W.o (mm _) (r0) rfl (c' := (16, [.ref 0, .int (nI 1)], [.int (nI (kpN σ.2.2))], (0, 0), h)) rfl ?_
      refine ab_W.go (mm _) 4 (c' := (20, [.ref 0, .int (nI 1)], [.int ((nI (kpN σ.2.2)) &&& ((nI 1) <<< ((nI 1) &&& 31)))], (0, 0), h)) rfl ?_
      refine ab_W.ite (mm _) (p := ((nI (kpN σ.2.2)) &&& ((nI 1) <<< ((nI 1) &&& 31))) = 0) (c1 := (23, [.ref 0, .int (nI 1)], [], (0, 0), h)) (c2 := (26, [.ref 0, .int (nI 1)], [], (0, 0), h)) rfl (fun qk => ?_) (fun qk => ?_)
      · skip
        have qk := (kp_and1 σ.2.2).mp qk
        rw [ci_f (fun z => by rw [qk] at z; cases z)] at hp
        refine ab_W.go (mm _) 1 (c' := (25, [.ref 0, .int (nI 1)], [.int (-(nI 3))], (0, 0), h)) rfl ?_
        refine ab_W.retI (mm _) (rt := some .int) (v := -(nI 3)) rfl rfl ?_
        exact hp h hR (fun _ _ => rfl)
      · skip
        have qk : σ.2.2 1 = true := by
          cases hb : σ.2.2 1 with
          | true => rfl
          | false => exact absurd ((kp_and1 σ.2.2).mpr hb) qk
        rw [ci_t qk] at hp
        refine ab_W.go (mm _) 1 (c' := (27, [.ref 0, .int (nI 1)], [.ref 0], (0, 0), h)) rfl ?_
        refine ab_W.o (mm _) (r0) rfl (c' := (30, [.ref 0, .int (nI 1)], [.ref 1], (0, 0), h)) rfl ?_
        refine ab_W.go (mm _) 1 (c' := (31, [.ref 0, .int (nI 1)], [.ref 0, .ref 1], (0, 0), h)) rfl ?_
        refine ab_W.o (mm _) (r0) rfl (c' := (34, [.ref 0, .int (nI 1)], [.ref 27, .ref 1], (0, 0), h)) rfl ?_
        refine ab_W.go (mm _) 1 (c' := (35, [.ref 0, .int (nI 1)], [.int (nI 1), .ref 27, .ref 1], (0, 0), h)) rfl ?_
        refine ab_W.aref (mm _) (j := 1) (r2) (q1) rfl (by omega) rfl rfl rfl ?_
        show ab_W _ _ _ (36, [.ref 0, .int (nI 1)], [.ref 58, .ref 1], (0, 0), h)
        refine ab_W.callV (mm _) (rc.1) rfl (k := 5) (av := [.ref 1, .ref 58]) (c' := (39, [.ref 0, .int (nI 1)], [], (0, 0), h)) rfl ?_
        refine sp_ccopy _ rc r9 (by omega) (fun h1 c1 k1 => ?_)
        show ab_W _ _ _ (39, [.ref 0, .int (nI 1)], [], (0, 0), h1)
        refine ab_W.go (mm _) 1 (c' := (40, [.ref 0, .int (nI 1)], [.int (nI 1)], (0, 0), h1)) rfl ?_
        refine ab_W.retI (mm _) (rt := some .int) (v := nI 1) rfl rfl ?_
        exact hp _ (hR.cur c1 (fun i hi => k1 i (by omega))) (fun i hi => k1 i (by omega))
    | n + 2, z => exact absurd z (by omega)
