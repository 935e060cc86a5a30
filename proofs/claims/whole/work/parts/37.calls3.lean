/-! THE LAST CALLS OF THE CLASS -/
theorem sp_share (d : Nat) {h : ab_H} {σ : Sg} {x : Int32} {y : Int32} (hR : relC h σ) {post : ab_P} (hp : okC h post ((shareO σ.1 (stN σ.1 x) (stN σ.1 y)).1) ((shareO σ.1 (stN σ.1 x) (stN σ.1 y)).2, σ.2)) : mCC (d + 6) kSpanStamps_share [.ref 0, .int x, .int y] h post := by
  have r0 := hR.1
  have rc := hR.2.1
  rcases stamp_or σ.1 x with hx | ⟨s, hs, rfl, hx⟩
  · rw [stN_no hx] at hp
    rcases stamp_or σ.1 y with hy | ⟨t, ht', rfl, hy⟩
    · refine ⟨rfl, ?_⟩
      show ab_W _ _ _ (0, [.ref 0, .int x, .int y, .retAddr 0, .retAddr 0, .retAddr 0, .retAddr 0], [], (0, 0), h)
      refine ab_W.go (mm _) 1 (c' := (1, [.ref 0, .int x, .int y, .retAddr 0, .retAddr 0, .retAddr 0, .retAddr 0], [.ref 0], (0, 0), h)) rfl ?_
      refine ab_W.o (mm _) (r0) rfl (c' := (4, [.ref 0, .int x, .int y, .retAddr 0, .retAddr 0, .retAddr 0, .retAddr 0], [.ref 1], (0, 0), h)) rfl ?_
      refine ab_W.go (mm _) 1 (c' := (5, [.ref 0, .int x, .int y, .retAddr 0, .retAddr 0, .retAddr 0, .retAddr 0], [.int x, .ref 1], (0, 0), h)) rfl ?_
      refine ab_W.callV (mm _) (rc.1) rfl (k := 1) (av := [.ref 1, .int x]) (c' := (8, [.ref 0, .int x, .int y, .retAddr 0, .retAddr 0, .retAddr 0, .retAddr 0], [], (0, 0), h)) rfl ?_
      refine sp_findN _ rc hx ?_
      show ab_W _ _ _ (8, [.ref 0, .int x, .int y, .retAddr 0, .retAddr 0, .retAddr 0, .retAddr 0], [.null], (0, 0), h)
      refine ab_W.go (mm _) 2 (c' := (10, [.ref 0, .int x, .int y, .null, .retAddr 0, .retAddr 0, .retAddr 0], [.ref 0], (0, 0), h)) rfl ?_
      refine ab_W.o (mm _) (r0) rfl (c' := (13, [.ref 0, .int x, .int y, .null, .retAddr 0, .retAddr 0, .retAddr 0], [.ref 1], (0, 0), h)) rfl ?_
      refine ab_W.go (mm _) 1 (c' := (14, [.ref 0, .int x, .int y, .null, .retAddr 0, .retAddr 0, .retAddr 0], [.int y, .ref 1], (0, 0), h)) rfl ?_
      refine ab_W.callV (mm _) (rc.1) rfl (k := 1) (av := [.ref 1, .int y]) (c' := (17, [.ref 0, .int x, .int y, .null, .retAddr 0, .retAddr 0, .retAddr 0], [], (0, 0), h)) rfl ?_
      refine sp_findN _ rc hy ?_
      show ab_W _ _ _ (17, [.ref 0, .int x, .int y, .null, .retAddr 0, .retAddr 0, .retAddr 0], [.null], (0, 0), h)
      refine ab_W.go (mm _) 2 (c' := (20, [.ref 0, .int x, .int y, .null, .null, .retAddr 0, .retAddr 0], [.null], (0, 0), h)) rfl ?_
      refine ab_W.go (mm _) 1 (c' := (28, [.ref 0, .int x, .int y, .null, .null, .retAddr 0, .retAddr 0], [], (0, 0), h)) rfl ?_
      refine ab_W.go (mm _) 1 (c' := (29, [.ref 0, .int x, .int y, .null, .null, .retAddr 0, .retAddr 0], [.int (-(nI 1))], (0, 0), h)) rfl ?_
      refine ab_W.retI (mm _) (rt := some .int) (v := -(nI 1)) rfl rfl ?_
      exact hp h hR (fun _ _ => rfl)
    · refine ⟨rfl, ?_⟩
      show ab_W _ _ _ (0, [.ref 0, .int x, .int (nI t), .retAddr 0, .retAddr 0, .retAddr 0, .retAddr 0], [], (0, 0), h)
      refine ab_W.go (mm _) 1 (c' := (1, [.ref 0, .int x, .int (nI t), .retAddr 0, .retAddr 0, .retAddr 0, .retAddr 0], [.ref 0], (0, 0), h)) rfl ?_
      refine ab_W.o (mm _) (r0) rfl (c' := (4, [.ref 0, .int x, .int (nI t), .retAddr 0, .retAddr 0, .retAddr 0, .retAddr 0], [.ref 1], (0, 0), h)) rfl ?_
      refine ab_W.go (mm _) 1 (c' := (5, [.ref 0, .int x, .int (nI t), .retAddr 0, .retAddr 0, .retAddr 0, .retAddr 0], [.int x, .ref 1], (0, 0), h)) rfl ?_
      refine ab_W.callV (mm _) (rc.1) rfl (k := 1) (av := [.ref 1, .int x]) (c' := (8, [.ref 0, .int x, .int (nI t), .retAddr 0, .retAddr 0, .retAddr 0, .retAddr 0], [], (0, 0), h)) rfl ?_
      refine sp_findN _ rc hx ?_
      show ab_W _ _ _ (8, [.ref 0, .int x, .int (nI t), .retAddr 0, .retAddr 0, .retAddr 0, .retAddr 0], [.null], (0, 0), h)
      refine ab_W.go (mm _) 2 (c' := (10, [.ref 0, .int x, .int (nI t), .null, .retAddr 0, .retAddr 0, .retAddr 0], [.ref 0], (0, 0), h)) rfl ?_
      refine ab_W.o (mm _) (r0) rfl (c' := (13, [.ref 0, .int x, .int (nI t), .null, .retAddr 0, .retAddr 0, .retAddr 0], [.ref 1], (0, 0), h)) rfl ?_
      refine ab_W.go (mm _) 1 (c' := (14, [.ref 0, .int x, .int (nI t), .null, .retAddr 0, .retAddr 0, .retAddr 0], [.int (nI t), .ref 1], (0, 0), h)) rfl ?_
      refine ab_W.callV (mm _) (rc.1) rfl (k := 1) (av := [.ref 1, .int (nI t)]) (c' := (17, [.ref 0, .int x, .int (nI t), .null, .retAddr 0, .retAddr 0, .retAddr 0], [], (0, 0), h)) rfl ?_
      refine sp_find _ rc ht' hy ?_
      show ab_W _ _ _ (17, [.ref 0, .int x, .int (nI t), .null, .retAddr 0, .retAddr 0, .retAddr 0], [.ref (1 + 2 + 2 * t)], (0, 0), h)
      refine ab_W.go (mm _) 2 (c' := (20, [.ref 0, .int x, .int (nI t), .null, .ref (1 + 2 + 2 * t), .retAddr 0, .retAddr 0], [.null], (0, 0), h)) rfl ?_
      refine ab_W.go (mm _) 1 (c' := (28, [.ref 0, .int x, .int (nI t), .null, .ref (1 + 2 + 2 * t), .retAddr 0, .retAddr 0], [], (0, 0), h)) rfl ?_
      refine ab_W.go (mm _) 1 (c' := (29, [.ref 0, .int x, .int (nI t), .null, .ref (1 + 2 + 2 * t), .retAddr 0, .retAddr 0], [.int (-(nI 1))], (0, 0), h)) rfl ?_
      refine ab_W.retI (mm _) (rt := some .int) (v := -(nI 1)) rfl rfl ?_
      exact hp h hR (fun _ _ => rfl)
  · rw [stN_yes hs hx] at hp
    rcases stamp_or σ.1 y with hy | ⟨t, ht', rfl, hy⟩
    · rw [stN_no hy] at hp
      refine ⟨rfl, ?_⟩
      show ab_W _ _ _ (0, [.ref 0, .int (nI s), .int y, .retAddr 0, .retAddr 0, .retAddr 0, .retAddr 0], [], (0, 0), h)
      refine ab_W.go (mm _) 1 (c' := (1, [.ref 0, .int (nI s), .int y, .retAddr 0, .retAddr 0, .retAddr 0, .retAddr 0], [.ref 0], (0, 0), h)) rfl ?_
      refine ab_W.o (mm _) (r0) rfl (c' := (4, [.ref 0, .int (nI s), .int y, .retAddr 0, .retAddr 0, .retAddr 0, .retAddr 0], [.ref 1], (0, 0), h)) rfl ?_
      refine ab_W.go (mm _) 1 (c' := (5, [.ref 0, .int (nI s), .int y, .retAddr 0, .retAddr 0, .retAddr 0, .retAddr 0], [.int (nI s), .ref 1], (0, 0), h)) rfl ?_
      refine ab_W.callV (mm _) (rc.1) rfl (k := 1) (av := [.ref 1, .int (nI s)]) (c' := (8, [.ref 0, .int (nI s), .int y, .retAddr 0, .retAddr 0, .retAddr 0, .retAddr 0], [], (0, 0), h)) rfl ?_
      refine sp_find _ rc hs hx ?_
      show ab_W _ _ _ (8, [.ref 0, .int (nI s), .int y, .retAddr 0, .retAddr 0, .retAddr 0, .retAddr 0], [.ref (1 + 2 + 2 * s)], (0, 0), h)
      refine ab_W.go (mm _) 2 (c' := (10, [.ref 0, .int (nI s), .int y, .ref (1 + 2 + 2 * s), .retAddr 0, .retAddr 0, .retAddr 0], [.ref 0], (0, 0), h)) rfl ?_
      refine ab_W.o (mm _) (r0) rfl (c' := (13, [.ref 0, .int (nI s), .int y, .ref (1 + 2 + 2 * s), .retAddr 0, .retAddr 0, .retAddr 0], [.ref 1], (0, 0), h)) rfl ?_
      refine ab_W.go (mm _) 1 (c' := (14, [.ref 0, .int (nI s), .int y, .ref (1 + 2 + 2 * s), .retAddr 0, .retAddr 0, .retAddr 0], [.int y, .ref 1], (0, 0), h)) rfl ?_
      refine ab_W.callV (mm _) (rc.1) rfl (k := 1) (av := [.ref 1, .int y]) (c' := (17, [.ref 0, .int (nI s), .int y, .ref (1 + 2 + 2 * s), .retAddr 0, .retAddr 0, .retAddr 0], [], (0, 0), h)) rfl ?_
      refine sp_findN _ rc hy ?_
      show ab_W _ _ _ (17, [.ref 0, .int (nI s), .int y, .ref (1 + 2 + 2 * s), .retAddr 0, .retAddr 0, .retAddr 0], [.null], (0, 0), h)
      refine ab_W.go (mm _) 2 (c' := (20, [.ref 0, .int (nI s), .int y, .ref (1 + 2 + 2 * s), .null, .retAddr 0, .retAddr 0], [.ref (1 + 2 + 2 * s)], (0, 0), h)) rfl ?_
      refine ab_W.go (mm _) 1 (c' := (23, [.ref 0, .int (nI s), .int y, .ref (1 + 2 + 2 * s), .null, .retAddr 0, .retAddr 0], [], (0, 0), h)) rfl ?_
      refine ab_W.go (mm _) 1 (c' := (25, [.ref 0, .int (nI s), .int y, .ref (1 + 2 + 2 * s), .null, .retAddr 0, .retAddr 0], [.null], (0, 0), h)) rfl ?_
      refine ab_W.go (mm _) 1 (c' := (28, [.ref 0, .int (nI s), .int y, .ref (1 + 2 + 2 * s), .null, .retAddr 0, .retAddr 0], [], (0, 0), h)) rfl ?_
      refine ab_W.go (mm _) 1 (c' := (29, [.ref 0, .int (nI s), .int y, .ref (1 + 2 + 2 * s), .null, .retAddr 0, .retAddr 0], [.int (-(nI 1))], (0, 0), h)) rfl ?_
      refine ab_W.retI (mm _) (rt := some .int) (v := -(nI 1)) rfl rfl ?_
      exact hp h hR (fun _ _ => rfl)
    · rw [stN_yes ht' hy] at hp
      have e := (rc.2.2 s hs).1
      have e' := (rc.2.2 t ht').1
      refine ⟨rfl, ?_⟩
      show ab_W _ _ _ (0, [.ref 0, .int (nI s), .int (nI t), .retAddr 0, .retAddr 0, .retAddr 0, .retAddr 0], [], (0, 0), h)
      refine ab_W.go (mm _) 1 (c' := (1, [.ref 0, .int (nI s), .int (nI t), .retAddr 0, .retAddr 0, .retAddr 0, .retAddr 0], [.ref 0], (0, 0), h)) rfl ?_
      refine ab_W.o (mm _) (r0) rfl (c' := (4, [.ref 0, .int (nI s), .int (nI t), .retAddr 0, .retAddr 0, .retAddr 0, .retAddr 0], [.ref 1], (0, 0), h)) rfl ?_
      refine ab_W.go (mm _) 1 (c' := (5, [.ref 0, .int (nI s), .int (nI t), .retAddr 0, .retAddr 0, .retAddr 0, .retAddr 0], [.int (nI s), .ref 1], (0, 0), h)) rfl ?_
      refine ab_W.callV (mm _) (rc.1) rfl (k := 1) (av := [.ref 1, .int (nI s)]) (c' := (8, [.ref 0, .int (nI s), .int (nI t), .retAddr 0, .retAddr 0, .retAddr 0, .retAddr 0], [], (0, 0), h)) rfl ?_
      refine sp_find _ rc hs hx ?_
      show ab_W _ _ _ (8, [.ref 0, .int (nI s), .int (nI t), .retAddr 0, .retAddr 0, .retAddr 0, .retAddr 0], [.ref (1 + 2 + 2 * s)], (0, 0), h)
      refine ab_W.go (mm _) 2 (c' := (10, [.ref 0, .int (nI s), .int (nI t), .ref (1 + 2 + 2 * s), .retAddr 0, .retAddr 0, .retAddr 0], [.ref 0], (0, 0), h)) rfl ?_
      refine ab_W.o (mm _) (r0) rfl (c' := (13, [.ref 0, .int (nI s), .int (nI t), .ref (1 + 2 + 2 * s), .retAddr 0, .retAddr 0, .retAddr 0], [.ref 1], (0, 0), h)) rfl ?_
      refine ab_W.go (mm _) 1 (c' := (14, [.ref 0, .int (nI s), .int (nI t), .ref (1 + 2 + 2 * s), .retAddr 0, .retAddr 0, .retAddr 0], [.int (nI t), .ref 1], (0, 0), h)) rfl ?_
      refine ab_W.callV (mm _) (rc.1) rfl (k := 1) (av := [.ref 1, .int (nI t)]) (c' := (17, [.ref 0, .int (nI s), .int (nI t), .ref (1 + 2 + 2 * s), .retAddr 0, .retAddr 0, .retAddr 0], [], (0, 0), h)) rfl ?_
      refine sp_find _ rc ht' hy ?_
      show ab_W _ _ _ (17, [.ref 0, .int (nI s), .int (nI t), .ref (1 + 2 + 2 * s), .retAddr 0, .retAddr 0, .retAddr 0], [.ref (1 + 2 + 2 * t)], (0, 0), h)
      refine ab_W.go (mm _) 2 (c' := (20, [.ref 0, .int (nI s), .int (nI t), .ref (1 + 2 + 2 * s), .ref (1 + 2 + 2 * t), .retAddr 0, .retAddr 0], [.ref (1 + 2 + 2 * s)], (0, 0), h)) rfl ?_
      refine ab_W.go (mm _) 1 (c' := (23, [.ref 0, .int (nI s), .int (nI t), .ref (1 + 2 + 2 * s), .ref (1 + 2 + 2 * t), .retAddr 0, .retAddr 0], [], (0, 0), h)) rfl ?_
      refine ab_W.go (mm _) 1 (c' := (25, [.ref 0, .int (nI s), .int (nI t), .ref (1 + 2 + 2 * s), .ref (1 + 2 + 2 * t), .retAddr 0, .retAddr 0], [.ref (1 + 2 + 2 * t)], (0, 0), h)) rfl ?_
      refine ab_W.go (mm _) 1 (c' := (30, [.ref 0, .int (nI s), .int (nI t), .ref (1 + 2 + 2 * s), .ref (1 + 2 + 2 * t), .retAddr 0, .retAddr 0], [], (0, 0), h)) rfl ?_
      refine ab_W.go (mm _) 2 (c' := (32, [.ref 0, .int (nI s), .int (nI t), .ref (1 + 2 + 2 * s), .ref (1 + 2 + 2 * t), .retAddr 0, .retAddr 0], [.int (nI t), .int (nI s)], (0, 0), h)) rfl ?_
      refine ab_W.ite (mm _) (p := (nI s) = (nI t)) (c1 := (35, [.ref 0, .int (nI s), .int (nI t), .ref (1 + 2 + 2 * s), .ref (1 + 2 + 2 * t), .retAddr 0, .retAddr 0], [], (0, 0), h)) (c2 := (38, [.ref 0, .int (nI s), .int (nI t), .ref (1 + 2 + 2 * s), .ref (1 + 2 + 2 * t), .retAddr 0, .retAddr 0], [], (0, 0), h)) rfl (fun q => ?_) (fun q => ?_)
      · skip
        have q := (nI_eq (by omega) (by omega)).mp q
        rw [show shareO σ.1 (some s) (some t) = _ from ci_t q] at hp
        refine ab_W.go (mm _) 1 (c' := (37, [.ref 0, .int (nI s), .int (nI t), .ref (1 + 2 + 2 * s), .ref (1 + 2 + 2 * t), .retAddr 0, .retAddr 0], [.int (-(nI 2))], (0, 0), h)) rfl ?_
        refine ab_W.retI (mm _) (rt := some .int) (v := -(nI 2)) rfl rfl ?_
        exact hp h hR (fun _ _ => rfl)
      · skip
        have q : ¬ s = t := fun z => q (by rw [z])
        refine ab_W.go (mm _) 1 (c' := (39, [.ref 0, .int (nI s), .int (nI t), .ref (1 + 2 + 2 * s), .ref (1 + 2 + 2 * t), .retAddr 0, .retAddr 0], [.ref (1 + 2 + 2 * s)], (0, 0), h)) rfl ?_
        refine ab_W.o (mm _) (e) rfl (c' := (42, [.ref 0, .int (nI s), .int (nI t), .ref (1 + 2 + 2 * s), .ref (1 + 2 + 2 * t), .retAddr 0, .retAddr 0], [.long (nm σ.1 s)], (0, 0), h)) rfl ?_
        refine ab_W.go (mm _) 1 (c' := (44, [.ref 0, .int (nI s), .int (nI t), .ref (1 + 2 + 2 * s), .ref (1 + 2 + 2 * t), .retAddr 0, .retAddr 0], [.ref (1 + 2 + 2 * t), .long (nm σ.1 s)], (0, 0), h)) rfl ?_
        refine ab_W.o (mm _) (e') rfl (c' := (47, [.ref 0, .int (nI s), .int (nI t), .ref (1 + 2 + 2 * s), .ref (1 + 2 + 2 * t), .retAddr 0, .retAddr 0], [.long (nm σ.1 t), .long (nm σ.1 s)], (0, 0), h)) rfl ?_
        refine ab_W.go (mm _) 5 (c' := (54, [.ref 0, .int (nI s), .int (nI t), .ref (1 + 2 + 2 * s), .ref (1 + 2 + 2 * t), .long ((nm σ.1 s) ||| (nm σ.1 t)), .retAddr 0], [.int (lg_cmp ((nm σ.1 s) ||| (nm σ.1 t)) (lN 0))], (0, 0), h)) rfl ?_
        refine ab_W.ite (mm _) (p := (lg_cmp ((nm σ.1 s) ||| (nm σ.1 t)) (lN 0)) = 0) (c1 := (57, [.ref 0, .int (nI s), .int (nI t), .ref (1 + 2 + 2 * s), .ref (1 + 2 + 2 * t), .long ((nm σ.1 s) ||| (nm σ.1 t)), .retAddr 0], [], (0, 0), h)) (c2 := (60, [.ref 0, .int (nI s), .int (nI t), .ref (1 + 2 + 2 * s), .ref (1 + 2 + 2 * t), .long ((nm σ.1 s) ||| (nm σ.1 t)), .retAddr 0], [], (0, 0), h)) rfl (fun q1 => ?_) (fun q1 => ?_)
        · skip
          have q1 := (lg_cmp0 _ _).mp q1
          rw [show shareO σ.1 (some s) (some t) = _ from (ci_f q).trans (ci_t q1)] at hp
          refine ab_W.go (mm _) 1 (c' := (59, [.ref 0, .int (nI s), .int (nI t), .ref (1 + 2 + 2 * s), .ref (1 + 2 + 2 * t), .long ((nm σ.1 s) ||| (nm σ.1 t)), .retAddr 0], [.int (-(nI 3))], (0, 0), h)) rfl ?_
          refine ab_W.retI (mm _) (rt := some .int) (v := -(nI 3)) rfl rfl ?_
          exact hp h hR (fun _ _ => rfl)
        · skip
          have q1 : ¬ (nm σ.1 s ||| nm σ.1 t) = lN 0 := fun z => q1 ((lg_cmp0 _ _).mpr z)
          refine ab_W.go (mm _) 1 (c' := (62, [.ref 0, .int (nI s), .int (nI t), .ref (1 + 2 + 2 * s), .ref (1 + 2 + 2 * t), .long ((nm σ.1 s) ||| (nm σ.1 t)), .retAddr 0], [.long ((nm σ.1 s) ||| (nm σ.1 t))], (0, 0), h)) rfl ?_
          refine ab_W.call (mm _) (k := 122) (av := [.long ((nm σ.1 s) ||| (nm σ.1 t))]) (c' := (65, [.ref 0, .int (nI s), .int (nI t), .ref (1 + 2 + 2 * s), .ref (1 + 2 + 2 * t), .long ((nm σ.1 s) ||| (nm σ.1 t)), .retAddr 0], [], (0, 0), h)) rfl ?_
          refine bit_count _ ?_
          show ab_W _ _ _ (65, [.ref 0, .int (nI s), .int (nI t), .ref (1 + 2 + 2 * s), .ref (1 + 2 + 2 * t), .long ((nm σ.1 s) ||| (nm σ.1 t)), .retAddr 0], [.int (nI (cnt (nm σ.1 s ||| nm σ.1 t) 64))], (0, 0), h)
          refine ab_W.go (mm _) 1 (c' := (66, [.ref 0, .int (nI s), .int (nI t), .ref (1 + 2 + 2 * s), .ref (1 + 2 + 2 * t), .long ((nm σ.1 s) ||| (nm σ.1 t)), .retAddr 0], [.int (nI 1), .int (nI (cnt (nm σ.1 s ||| nm σ.1 t) 64))], (0, 0), h)) rfl ?_
          have l64 : cnt (nm σ.1 s ||| nm σ.1 t) 64 ≤ 64 := cnt_le _ 64
          refine ab_W.ite (mm _) (p := (nI (cnt (nm σ.1 s ||| nm σ.1 t) 64)) = (nI 1)) (c1 := (69, [.ref 0, .int (nI s), .int (nI t), .ref (1 + 2 + 2 * s), .ref (1 + 2 + 2 * t), .long ((nm σ.1 s) ||| (nm σ.1 t)), .retAddr 0], [], (0, 0), h)) (c2 := (72, [.ref 0, .int (nI s), .int (nI t), .ref (1 + 2 + 2 * s), .ref (1 + 2 + 2 * t), .long ((nm σ.1 s) ||| (nm σ.1 t)), .retAddr 0], [], (0, 0), h)) rfl (fun q2 => ?_) (fun q2 => ?_)
          · skip
            have q2 := (nI_eq (by omega) (by omega)).mp q2
            rw [show shareO σ.1 (some s) (some t) = _ from (ci_f q).trans ((ci_f q1).trans (ci_t q2))] at hp
            refine ab_W.go (mm _) 1 (c' := (71, [.ref 0, .int (nI s), .int (nI t), .ref (1 + 2 + 2 * s), .ref (1 + 2 + 2 * t), .long ((nm σ.1 s) ||| (nm σ.1 t)), .retAddr 0], [.int (-(nI 5))], (0, 0), h)) rfl ?_
            refine ab_W.retI (mm _) (rt := some .int) (v := -(nI 5)) rfl rfl ?_
            exact hp h hR (fun _ _ => rfl)
          · skip
            have q2 : ¬ cnt (nm σ.1 s ||| nm σ.1 t) 64 = 1 := fun z => q2 (by rw [z])
            rw [show shareO σ.1 (some s) (some t) = _ from (ci_f q).trans ((ci_f q1).trans (ci_f q2))] at hp
            refine ab_W.go (mm _) 2 (c' := (75, [.ref 0, .int (nI s), .int (nI t), .ref (1 + 2 + 2 * s), .ref (1 + 2 + 2 * t), .long ((nm σ.1 s) ||| (nm σ.1 t)), .retAddr 0], [.ref (1 + 2 + 2 * t), .ref (1 + 2 + 2 * s)], (0, 0), h)) rfl ?_
            refine ab_W.callV (mm _) (e) rfl (k := 39) (av := [.ref (1 + 2 + 2 * s), .ref (1 + 2 + 2 * t)]) (c' := (78, [.ref 0, .int (nI s), .int (nI t), .ref (1 + 2 + 2 * s), .ref (1 + 2 + 2 * t), .long ((nm σ.1 s) ||| (nm σ.1 t)), .retAddr 0], [], (0, 0), h)) rfl ?_
            refine sp_learn _ (rc.2.2 s hs) (rc.2.2 t ht') (by omega) (by omega) (by omega) (fun h1 f1 k1 => ?_)
            have d2 : st_P h1 (1 + 2 + 2 * t) (pr σ.1 t) (nm σ.1 t) (kn σ.1 t) (ht σ.1 t) := (rc.2.2 t ht').kept (k1 _ (by omega) (by omega)) (k1 _ (by omega) (by omega))
            show ab_W _ _ _ (78, [.ref 0, .int (nI s), .int (nI t), .ref (1 + 2 + 2 * s), .ref (1 + 2 + 2 * t), .long (nm σ.1 s ||| nm σ.1 t), .retAddr 0], [.int (nI (cn (fun c => ht σ.1 s c < ht σ.1 t c) 64))], (0, 0), h1)
            refine ab_W.go (mm _) 3 (c' := (82, [.ref 0, .int (nI s), .int (nI t), .ref (1 + 2 + 2 * s), .ref (1 + 2 + 2 * t), .long (nm σ.1 s ||| nm σ.1 t), .retAddr 0], [.ref (1 + 2 + 2 * s), .ref (1 + 2 + 2 * t)], (0, 0), h1)) rfl ?_
            refine ab_W.callV (mm _) (d2.1) rfl (k := 39) (av := [.ref (1 + 2 + 2 * t), .ref (1 + 2 + 2 * s)]) (c' := (85, [.ref 0, .int (nI s), .int (nI t), .ref (1 + 2 + 2 * s), .ref (1 + 2 + 2 * t), .long (nm σ.1 s ||| nm σ.1 t), .retAddr 0], [], (0, 0), h1)) rfl ?_
            refine sp_learn _ d2 f1 (by omega) (by omega) (by omega) (fun h2 g1 k2 => ?_)
            have f1 := f1.kept (k2 _ (by omega) (by omega)) (k2 _ (by omega) (by omega))
            rw [hx] at f1
            rw [hy] at g1
            obtain ⟨a1, fa, a2, a3⟩ := f1
            obtain ⟨b1, fb, b2, b3⟩ := g1
            show ab_W _ _ _ (85, [.ref 0, .int (nI s), .int (nI t), .ref (1 + 2 + 2 * s), .ref (1 + 2 + 2 * t), .long (nm σ.1 s ||| nm σ.1 t), .retAddr 0], [.int (nI (cn (fun c => ht σ.1 t c < mxI (ht σ.1 s c) (ht σ.1 t c)) 64))], (0, 0), h2)
            refine ab_W.go (mm _) 3 (c' := (89, [.ref 0, .int (nI s), .int (nI t), .ref (1 + 2 + 2 * s), .ref (1 + 2 + 2 * t), .long (nm σ.1 s ||| nm σ.1 t), .retAddr 0], [.long (nm σ.1 s ||| nm σ.1 t), .ref (1 + 2 + 2 * s)], (0, 0), h2)) rfl ?_
            refine ab_W.call (mm _) (k := 28) (av := [.long (nm σ.1 s ||| nm σ.1 t)]) (c' := (92, [.ref 0, .int (nI s), .int (nI t), .ref (1 + 2 + 2 * s), .ref (1 + 2 + 2 * t), .long (nm σ.1 s ||| nm σ.1 t), .retAddr 0], [.ref (1 + 2 + 2 * s)], (0, 0), h2)) rfl ?_
            refine sp_lowerPart _ q1 q2 ?_
            show ab_W _ _ _ (92, [.ref 0, .int (nI s), .int (nI t), .ref (1 + 2 + 2 * s), .ref (1 + 2 + 2 * t), .long (nm σ.1 s ||| nm σ.1 t), .retAddr 0], [.long (lowN (nm σ.1 s ||| nm σ.1 t)), .ref (1 + 2 + 2 * s)], (0, 0), h2)
            refine ab_W.o (mm _) (a1) rfl (c' := (95, [.ref 0, .int (nI s), .int (nI t), .ref (1 + 2 + 2 * s), .ref (1 + 2 + 2 * t), .long (nm σ.1 s ||| nm σ.1 t), .retAddr 0], [], (0, 0), h2.set (1 + 2 + 2 * s) (.inr (3, [.int (b2i true), .long (lowN (nm σ.1 s ||| nm σ.1 t)), .long (kn σ.1 s ||| kn σ.1 t), .ref (1 + 2 + 2 * s + 1)])))) rfl ?_
            obtain ⟨h3, e3⟩ : ∃ h3, h3 = h2.set (1 + 2 + 2 * s) (.inr (3, [.int (b2i true), .long (lowN (nm σ.1 s ||| nm σ.1 t)), .long (kn σ.1 s ||| kn σ.1 t), .ref (1 + 2 + 2 * s + 1)])) := ⟨_, rfl⟩
            refine ab_W.hp (e3.symm) ?_
            show ab_W _ _ _ (95, [.ref 0, .int (nI s), .int (nI t), .ref (1 + 2 + 2 * s), .ref (1 + 2 + 2 * t), .long (nm σ.1 s ||| nm σ.1 t), .retAddr 0], [], (0, 0), h3)
            have k3 : ∀ i, i ≠ 1 + 2 + 2 * s → h3[i]? = h2[i]? := fun i hi => by rw [e3]; exact set_ne (fun z => hi z.symm)
            have a1 : h3[1 + 2 + 2 * s]? = some (.inr (3, [.int (b2i true), .long (lowN (nm σ.1 s ||| nm σ.1 t)), .long (kn σ.1 s ||| kn σ.1 t), .ref (1 + 2 + 2 * s + 1)])) := by rw [e3]; exact set_at a1
            have b1 := (k3 _ (by omega)).trans b1
            have kA : ∀ i, i < 3 + 2 * s ∨ 5 + 2 * s ≤ i → i < 3 + 2 * t ∨ 5 + 2 * t ≤ i → h3[i]? = h[i]? := fun i i1 i2 => (k3 i (by omega)).trans ((k2 i (by omega) (by omega)).trans (k1 i (by omega) (by omega)))
            refine ab_W.go (mm _) 3 (c' := (100, [.ref 0, .int (nI s), .int (nI t), .ref (1 + 2 + 2 * s), .ref (1 + 2 + 2 * t), .long (nm σ.1 s ||| nm σ.1 t), .retAddr 0], [.ref (1 + 2 + 2 * s), .long (nm σ.1 s ||| nm σ.1 t), .ref (1 + 2 + 2 * t)], (0, 0), h3)) rfl ?_
            refine ab_W.o (mm _) (a1) rfl (c' := (103, [.ref 0, .int (nI s), .int (nI t), .ref (1 + 2 + 2 * s), .ref (1 + 2 + 2 * t), .long (nm σ.1 s ||| nm σ.1 t), .retAddr 0], [.long (lowN (nm σ.1 s ||| nm σ.1 t)), .long (nm σ.1 s ||| nm σ.1 t), .ref (1 + 2 + 2 * t)], (0, 0), h3)) rfl ?_
            refine ab_W.go (mm _) 3 (c' := (108, [.ref 0, .int (nI s), .int (nI t), .ref (1 + 2 + 2 * s), .ref (1 + 2 + 2 * t), .long (nm σ.1 s ||| nm σ.1 t), .retAddr 0], [.long ((nm σ.1 s ||| nm σ.1 t) &&& ((lowN (nm σ.1 s ||| nm σ.1 t)) ^^^ (-(lN 1)))), .ref (1 + 2 + 2 * t)], (0, 0), h3)) rfl ?_
            refine ab_W.topl (upp_eq _ _) ?_
            refine ab_W.o (mm _) (b1) rfl (c' := (111, [.ref 0, .int (nI s), .int (nI t), .ref (1 + 2 + 2 * s), .ref (1 + 2 + 2 * t), .long (nm σ.1 s ||| nm σ.1 t), .retAddr 0], [], (0, 0), h3.set (1 + 2 + 2 * t) (.inr (3, [.int (b2i true), .long (uppN (nm σ.1 s ||| nm σ.1 t)), .long (kn σ.1 t ||| (kn σ.1 s ||| kn σ.1 t)), .ref (1 + 2 + 2 * t + 1)])))) rfl ?_
            obtain ⟨h4, e4⟩ : ∃ h4, h4 = h3.set (1 + 2 + 2 * t) (.inr (3, [.int (b2i true), .long (uppN (nm σ.1 s ||| nm σ.1 t)), .long (kn σ.1 t ||| (kn σ.1 s ||| kn σ.1 t)), .ref (1 + 2 + 2 * t + 1)])) := ⟨_, rfl⟩
            refine ab_W.hp (e4.symm) ?_
            show ab_W _ _ _ (111, [.ref 0, .int (nI s), .int (nI t), .ref (1 + 2 + 2 * s), .ref (1 + 2 + 2 * t), .long (nm σ.1 s ||| nm σ.1 t), .retAddr 0], [], (0, 0), h4)
            have k4 : ∀ i, i ≠ 1 + 2 + 2 * t → h4[i]? = h3[i]? := fun i hi => by rw [e4]; exact set_ne (fun z => hi z.symm)
            have c4 : cir h4 1 (shareC σ.1 s t) := by
              have p1 : st_P h4 (1 + 2 + 2 * s) true (lowN (nm σ.1 s ||| nm σ.1 t)) (kn σ.1 s ||| kn σ.1 t) (mxH (ht σ.1 s) (ht σ.1 t)) := ⟨(k4 _ (by omega)).trans a1, fa, (k4 _ (by omega)).trans ((k3 _ (by omega)).trans a2), a3⟩
              have p2 : st_P h4 (1 + 2 + 2 * t) true (uppN (nm σ.1 s ||| nm σ.1 t)) (kn σ.1 t ||| (kn σ.1 s ||| kn σ.1 t)) (mxH (ht σ.1 t) (mxH (ht σ.1 s) (ht σ.1 t))) := ⟨by rw [e4]; exact set_at b1, fb, (k4 _ (by omega)).trans ((k3 _ (by omega)).trans b2), b3⟩
              obtain ⟨u1, ⟨uq, u2, u3⟩, u4⟩ := rc
              refine ⟨(k4 _ (by omega)).trans ((kA _ (by omega) (by omega)).trans u1), ⟨uq, (k4 _ (by omega)).trans ((kA _ (by omega) (by omega)).trans u2), u3⟩, fun v hv => ?_⟩
              by_cases ev : v = t
              · subst ev
                show st_P h4 _ (va_up _ v _ v) (va_up _ v _ v) (va_up _ v _ v) (va_up _ v _ v)
                rw [va_up_self, va_up_self, va_up_self, va_up_self]
                exact p2
              · show st_P h4 _ (va_up _ t _ v) (va_up _ t _ v) (va_up _ t _ v) (va_up _ t _ v)
                rw [va_up_ne _ _ ev, va_up_ne _ _ ev, va_up_ne _ _ ev, va_up_ne _ _ ev]
                by_cases ew : v = s
                · subst ew
                  show st_P h4 _ (va_up _ v _ v) (va_up _ v _ v) (va_up _ v _ v) (va_up _ v _ v)
                  rw [va_up_self, va_up_self, va_up_self, va_up_self]
                  exact p1
                · show st_P h4 _ (va_up _ s _ v) (va_up _ s _ v) (va_up _ s _ v) (va_up _ s _ v)
                  rw [va_up_ne _ _ ew, va_up_ne _ _ ew, va_up_ne _ _ ew, va_up_ne _ _ ew]
                  exact (u4 v hv).kept ((k4 _ (by omega)).trans (kA _ (by omega) (by omega))) ((k4 _ (by omega)).trans (kA _ (by omega) (by omega)))
            refine ab_W.go (mm _) 1 (c' := (112, [.ref 0, .int (nI s), .int (nI t), .ref (1 + 2 + 2 * s), .ref (1 + 2 + 2 * t), .long (nm σ.1 s ||| nm σ.1 t), .retAddr 0], [.ref (1 + 2 + 2 * s)], (0, 0), h4)) rfl ?_
            refine ab_W.o (mm _) ((k4 _ (by omega)).trans a1) rfl (c' := (115, [.ref 0, .int (nI s), .int (nI t), .ref (1 + 2 + 2 * s), .ref (1 + 2 + 2 * t), .long (nm σ.1 s ||| nm σ.1 t), .retAddr 0], [.long (lowN (nm σ.1 s ||| nm σ.1 t))], (0, 0), h4)) rfl ?_
            refine ab_W.call (mm _) (k := 122) (av := [.long (lowN (nm σ.1 s ||| nm σ.1 t))]) (c' := (118, [.ref 0, .int (nI s), .int (nI t), .ref (1 + 2 + 2 * s), .ref (1 + 2 + 2 * t), .long (nm σ.1 s ||| nm σ.1 t), .retAddr 0], [], (0, 0), h4)) rfl ?_
            refine bit_count _ ?_
            show ab_W _ _ _ (118, [.ref 0, .int (nI s), .int (nI t), .ref (1 + 2 + 2 * s), .ref (1 + 2 + 2 * t), .long (nm σ.1 s ||| nm σ.1 t), .retAddr 0], [.int (nI (cnt (lowN (nm σ.1 s ||| nm σ.1 t)) 64))], (0, 0), h4)
            refine ab_W.retI (mm _) (rt := some .int) (v := nI (cnt (lowN (nm σ.1 s ||| nm σ.1 t)) 64)) rfl rfl ?_
            exact hp _ (hR.cur c4 (fun i hi => (k4 i (by omega)).trans (kA i (by omega) (by omega)))) (fun i hi => (k4 i (by omega)).trans (kA i (by omega) (by omega)))
/-- the names of the present stamps lie apart -/
def apart (c : Ci) : Prop := ∀ s t j, s < 12 → t < 12 → j < 64 → pr c s = true → pr c t = true → bt (nm c s) j = true → bt (nm c t) j = true → s = t
theorem own_eq {c : Ci} {j s : Nat} (ha : apart c) (hj : j < 64) (h : ownP c j s) : @Classical.epsilon Nat ⟨0⟩ (ownP c j) = s := by
  obtain ⟨a1, a2, a3⟩ := @Classical.epsilon_spec Nat (ownP c j) ⟨s, h⟩
  exact ha _ _ j a1 h.1 hj a2 h.2.1 a3 h.2.2
theorem sp_owner (d : Nat) {h : ab_H} {σ : Sg} {y : Int32} (hR : relC h σ) (ha : apart σ.1) {post : ab_P} (hp : okC h post (ownF σ.1 y) σ) : mCC (d + 3) kSpanStamps_owner [.ref 0, .int y] h post := by
  have r0 := hR.1
  have rc := hR.2.1
  rcases pk_ix y (n := 64) (by decide) with q | q | ⟨j, j1, rfl⟩
  · rw [show ownF σ.1 y = _ from ci_t (Or.inl q)] at hp
    refine ⟨rfl, ?_⟩
    show ab_W _ _ _ (0, [.ref 0, .int y, .retAddr 0, .retAddr 0], [], (0, 0), h)
    refine ab_W.go (mm _) 1 (c' := (1, [.ref 0, .int y, .retAddr 0, .retAddr 0], [.int y], (0, 0), h)) rfl ?_
    refine ab_W.itT (mm _) (p := y < 0) (c1 := (10, [.ref 0, .int y, .retAddr 0, .retAddr 0], [], (0, 0), h)) (c2 := (4, [.ref 0, .int y, .retAddr 0, .retAddr 0], [], (0, 0), h)) rfl (q) ?_
    refine ab_W.go (mm _) 1 (c' := (12, [.ref 0, .int y, .retAddr 0, .retAddr 0], [.int (-(nI 2))], (0, 0), h)) rfl ?_
    refine ab_W.retI (mm _) (rt := some .int) (v := -(nI 2)) rfl rfl ?_
    exact hp h hR (fun _ _ => rfl)
  · rw [show ownF σ.1 y = _ from ci_t (Or.inr q)] at hp
    refine ⟨rfl, ?_⟩
    show ab_W _ _ _ (0, [.ref 0, .int y, .retAddr 0, .retAddr 0], [], (0, 0), h)
    refine ab_W.go (mm _) 1 (c' := (1, [.ref 0, .int y, .retAddr 0, .retAddr 0], [.int y], (0, 0), h)) rfl ?_
    refine ab_W.itF (mm _) (p := y < 0) (c1 := (10, [.ref 0, .int y, .retAddr 0, .retAddr 0], [], (0, 0), h)) (c2 := (4, [.ref 0, .int y, .retAddr 0, .retAddr 0], [], (0, 0), h)) rfl (nI_le0 q (by decide)) ?_
    refine ab_W.go (mm _) 2 (c' := (7, [.ref 0, .int y, .retAddr 0, .retAddr 0], [.int (nI 64), .int y], (0, 0), h)) rfl ?_
    refine ab_W.itF (mm _) (p := y < (nI 64)) (c1 := (13, [.ref 0, .int y, .retAddr 0, .retAddr 0], [], (0, 0), h)) (c2 := (10, [.ref 0, .int y, .retAddr 0, .retAddr 0], [], (0, 0), h)) rfl (fun z => Int32.not_le.mpr z q) ?_
    refine ab_W.go (mm _) 1 (c' := (12, [.ref 0, .int y, .retAddr 0, .retAddr 0], [.int (-(nI 2))], (0, 0), h)) rfl ?_
    refine ab_W.retI (mm _) (rt := some .int) (v := -(nI 2)) rfl rfl ?_
    exact hp h hR (fun _ _ => rfl)
  · rw [show ownF σ.1 (nI j) = _ from ci_f (fun z => z.elim (nI_pos (by omega)) (fun z => absurd ((nI_leI (by omega) (by omega)).mp z) (by omega))), nI_clamp (by omega)] at hp
    have loop : ∀ s, s ≤ 12 → (∀ t, t < s → ¬ ownP σ.1 j t) → ∀ v0, ab_W (ab_st (mT kSpanStamps_owner) mB mF (mR kSpanStamps_owner) none) (mCC (d + 2)) post (15, [.ref 0, .int (nI j), .int (nI s), v0], [], (0, 0), h) := by
      refine down 12 ?_ ?_
      · intro hno v0
        rw [ci_f (fun ⟨t, z⟩ => hno t z.1 z)] at hp
        refine ab_W.go (mm _) 2 (c' := (18, [.ref 0, .int (nI j), .int (nI 12), v0], [.int (nI 12), .int (nI 12)], (0, 0), h)) rfl ?_
        refine ab_W.itT (mm _) (p := (nI 12) ≤ (nI 12)) (c1 := (55, [.ref 0, .int (nI j), .int (nI 12), v0], [], (0, 0), h)) (c2 := (21, [.ref 0, .int (nI j), .int (nI 12), v0], [], (0, 0), h)) rfl ((by decide)) ?_
        refine ab_W.go (mm _) 1 (c' := (57, [.ref 0, .int (nI j), .int (nI 12), v0], [.int (-(nI 6))], (0, 0), h)) rfl ?_
        refine ab_W.retI (mm _) (rt := some .int) (v := -(nI 6)) rfl rfl ?_
        exact hp h hR (fun _ _ => rfl)
      · intro s hs ih hno v0
        refine ab_W.go (mm _) 2 (c' := (18, [.ref 0, .int (nI j), .int (nI s), v0], [.int (nI 12), .int (nI s)], (0, 0), h)) rfl ?_
        refine ab_W.itF (mm _) (p := (nI 12) ≤ (nI s)) (c1 := (55, [.ref 0, .int (nI j), .int (nI s), v0], [], (0, 0), h)) (c2 := (21, [.ref 0, .int (nI j), .int (nI s), v0], [], (0, 0), h)) rfl (fun z => absurd ((nI_leI (by omega) (by omega)).mp z) (by omega)) ?_
        refine ab_W.go (mm _) 1 (c' := (22, [.ref 0, .int (nI j), .int (nI s), v0], [.ref 0], (0, 0), h)) rfl ?_
        refine ab_W.o (mm _) (r0) rfl (c' := (25, [.ref 0, .int (nI j), .int (nI s), v0], [.ref 1], (0, 0), h)) rfl ?_
        refine ab_W.go (mm _) 1 (c' := (26, [.ref 0, .int (nI j), .int (nI s), v0], [.int (nI s), .ref 1], (0, 0), h)) rfl ?_
        rcases stamp_or σ.1 (nI s) with hx | ⟨s', hs', es, hx⟩
        · have hnp : ¬ pr σ.1 s = true := by
            intro z
            rcases hx with hx | hx | ⟨t, t1, t2, t3⟩
            · exact nI_pos (by omega) hx
            · have := (nI_leI (a := 12) (b := s) (by omega) (by omega)).mp hx
              omega
            · have := (nI_eq (by omega) (by omega)).mp t2
              rw [this, t3] at z
              cases z
          refine ab_W.callV (mm _) (rc.1) rfl (k := 1) (av := [.ref 1, .int (nI s)]) (c' := (29, [.ref 0, .int (nI j), .int (nI s), v0], [], (0, 0), h)) rfl ?_
          refine sp_findN _ rc hx ?_
          show ab_W _ _ _ (29, [.ref 0, .int (nI j), .int (nI s), v0], [.null], (0, 0), h)
          refine ab_W.go (mm _) 2 (c' := (31, [.ref 0, .int (nI j), .int (nI s), .null], [.null], (0, 0), h)) rfl ?_
          refine ab_W.go (mm _) 1 (c' := (49, [.ref 0, .int (nI j), .int (nI s), .null], [], (0, 0), h)) rfl ?_
          refine ab_W.go (mm _) 1 (c' := (52, [.ref 0, .int (nI j), .int (nI s + nI 1), .null], [], (0, 0), h)) rfl ?_
          rw [nI_add s 1]
          refine ab_W.go (mm _) 1 (c' := (15, [.ref 0, .int (nI j), .int (nI (s + 1)), .null], [], (0, 0), h)) rfl ?_
          refine ih (fun t ht z => ?_) _
          by_cases et : t = s
          · rw [et] at z
            exact hnp z.2.1
          · exact hno t (by omega) z
        · have es : s' = s := ((nI_eq (by omega) (by omega)).mp es).symm
          rw [es] at hx
          refine ab_W.callV (mm _) (rc.1) rfl (k := 1) (av := [.ref 1, .int (nI s)]) (c' := (29, [.ref 0, .int (nI j), .int (nI s), v0], [], (0, 0), h)) rfl ?_
          refine sp_find _ rc hs hx ?_
          show ab_W _ _ _ (29, [.ref 0, .int (nI j), .int (nI s), v0], [.ref (1 + 2 + 2 * s)], (0, 0), h)
          refine ab_W.go (mm _) 2 (c' := (31, [.ref 0, .int (nI j), .int (nI s), .ref (1 + 2 + 2 * s)], [.ref (1 + 2 + 2 * s)], (0, 0), h)) rfl ?_
          refine ab_W.go (mm _) 1 (c' := (34, [.ref 0, .int (nI j), .int (nI s), .ref (1 + 2 + 2 * s)], [], (0, 0), h)) rfl ?_
          refine ab_W.go (mm _) 1 (c' := (35, [.ref 0, .int (nI j), .int (nI s), .ref (1 + 2 + 2 * s)], [.ref (1 + 2 + 2 * s)], (0, 0), h)) rfl ?_
          refine ab_W.o (mm _) ((rc.2.2 s hs).1) rfl (c' := (38, [.ref 0, .int (nI j), .int (nI s), .ref (1 + 2 + 2 * s)], [.long (nm σ.1 s)], (0, 0), h)) rfl ?_
          refine ab_W.go (mm _) 6 (c' := (44, [.ref 0, .int (nI j), .int (nI s), .ref (1 + 2 + 2 * s)], [.int (lg_cmp ((nm σ.1 s) &&& ((lN 1) <<< ((nI j).toInt64 &&& 63))) (lN 0))], (0, 0), h)) rfl ?_
          refine ab_W.ite (mm _) (p := (lg_cmp ((nm σ.1 s) &&& ((lN 1) <<< ((nI j).toInt64 &&& 63))) (lN 0)) = 0) (c1 := (49, [.ref 0, .int (nI j), .int (nI s), .ref (1 + 2 + 2 * s)], [], (0, 0), h)) (c2 := (47, [.ref 0, .int (nI j), .int (nI s), .ref (1 + 2 + 2 * s)], [], (0, 0), h)) rfl (fun q => ?_) (fun q => ?_)
          · skip
            have q := (and_one j1).mp ((lg_cmp0 _ _).mp q)
            refine ab_W.go (mm _) 1 (c' := (52, [.ref 0, .int (nI j), .int (nI s + nI 1), .ref (1 + 2 + 2 * s)], [], (0, 0), h)) rfl ?_
            rw [nI_add s 1]
            refine ab_W.go (mm _) 1 (c' := (15, [.ref 0, .int (nI j), .int (nI (s + 1)), .ref (1 + 2 + 2 * s)], [], (0, 0), h)) rfl ?_
            refine ih (fun t ht z => ?_) _
            by_cases et : t = s
            · rw [et] at z
              rw [z.2.2] at q
              cases q
            · exact hno t (by omega) z
          · skip
            have q : bt (nm σ.1 s) j = true := by
              cases hb : bt (nm σ.1 s) j with
              | true => rfl
              | false => exact absurd ((lg_cmp0 _ _).mpr ((and_one j1).mpr hb)) q
            rw [ci_t ⟨s, hs, hx, q⟩, own_eq ha j1 ⟨hs, hx, q⟩] at hp
            refine ab_W.go (mm _) 1 (c' := (48, [.ref 0, .int (nI j), .int (nI s), .ref (1 + 2 + 2 * s)], [.int (nI s)], (0, 0), h)) rfl ?_
            refine ab_W.retI (mm _) (rt := some .int) (v := nI s) rfl rfl ?_
            exact hp h hR (fun _ _ => rfl)
    refine ⟨rfl, ?_⟩
    show ab_W _ _ _ (0, [.ref 0, .int (nI j), .retAddr 0, .retAddr 0], [], (0, 0), h)
    refine ab_W.go (mm _) 1 (c' := (1, [.ref 0, .int (nI j), .retAddr 0, .retAddr 0], [.int (nI j)], (0, 0), h)) rfl ?_
    refine ab_W.itF (mm _) (p := (nI j) < 0) (c1 := (10, [.ref 0, .int (nI j), .retAddr 0, .retAddr 0], [], (0, 0), h)) (c2 := (4, [.ref 0, .int (nI j), .retAddr 0, .retAddr 0], [], (0, 0), h)) rfl (nI_pos (by omega)) ?_
    refine ab_W.go (mm _) 2 (c' := (7, [.ref 0, .int (nI j), .retAddr 0, .retAddr 0], [.int (nI 64), .int (nI j)], (0, 0), h)) rfl ?_
    refine ab_W.itT (mm _) (p := (nI j) < (nI 64)) (c1 := (13, [.ref 0, .int (nI j), .retAddr 0, .retAddr 0], [], (0, 0), h)) (c2 := (10, [.ref 0, .int (nI j), .retAddr 0, .retAddr 0], [], (0, 0), h)) rfl (nI_lt j1 (by omega)) ?_
    refine ab_W.go (mm _) 2 (c' := (15, [.ref 0, .int (nI j), .int (nI 0), .retAddr 0], [], (0, 0), h)) rfl ?_
    exact loop 0 (by omega) (fun t ht => absurd ht (Nat.not_lt_zero _)) _
