/-! THE LAW, from its entry on -/
theorem ab_W.callG {F : ab_S → ab_R} {C : ab_C} {post : ab_P} {c : ab_S} (hC : ab_mono C) {k nx : Nat} {av lv rest : List Value} {b : Nat × Nat} {h : ab_H} (e : F c = ab_call mB k av lv rest nx b h) (g1 : Nat.ble (ab_ws rest) 8 = true) (g2 : Nat.ble (mB k).1 b.1 = true) (g3 : Nat.ble (mB k).2 b.2 = true) (g4 : ab_clo lv rest h = true) (w : C k av h (fun v h' => ab_W F C post (nx, lv, v.toList ++ rest, (b.1 - (mB k).1, b.2 - (mB k).2), h'))) : ab_W F C post c := by
  refine ab_W.fold hC ?_
  rw [e]
  unfold ab_call
  rw [g1, g2, g3, g4, Bool.or_true]
  exact w
theorem ab_law (L : Nat) (xs : Nat → Int32) (hL : L ≤ 1536) : ab_W (ab_st (mT kSpanStampsLaw_law) mB mF (mR kSpanStampsLaw_law) (some (L, xs))) (mCC 40) (fun r _ => r = some (.int 1)) (0, ab_lv 4 [.retAddr 1], [], mB kSpanStampsLaw_law, []) := by
  obtain ⟨s1, s2, s3, s4, s5, s6, s7⟩ := start_ok
  refine ab_W.go (mm _) 2 (c' := (4, [.retAddr 1, .retAddr 0, .retAddr 0, .retAddr 0], [.ref 0, .ref 0], (599999, 7302245), hS1)) rfl ?_
  refine ab_W.callG (mm _) (k := kSpanStamps_init) (av := [.ref 0]) (lv := [.retAddr 1, .retAddr 0, .retAddr 0, .retAddr 0]) (rest := [.ref 0]) (nx := 7) (b := (599999, 7302245)) (h := hS1) rfl rfl rfl rfl rfl ?_
  refine ⟨rfl, ab_ev.ok 600 39 _ _ none hC _ s1 ?_⟩
  have s4' : ab_clo lvL [.ref 84] (hC ++ [.inr (5, mF 5)]) = true := s4
  have s5' : ab_ev 600 39 kSpanStampsModel_init (0, ab_lv (mL kSpanStampsModel_init) [.ref 84], [], mB kSpanStampsModel_init, hC ++ [.inr (5, mF 5)]) = some (none, hM) := s5
  clear s1 s4 s5
  revert s2 s3 s4' s5'
  generalize hC = hq
  intro s2 s3 s4 s5
  show ab_W _ _ _ (7, [.retAddr 1, .retAddr 0, .retAddr 0, .retAddr 0], [.ref 0], (599916, 7299491), hq)
  refine ab_W.go (mm _) 1 (c' := (8, [.retAddr 1, .ref 0, .retAddr 0, .retAddr 0], [], (599916, 7299491), hq)) rfl ?_
  refine ab_W.gd (mm _) (b := Nat.ble 18 7299491 && ab_clo lvL [] hq) (c1 := (11, [.retAddr 1, .ref 0, .retAddr 0, .retAddr 0], [.ref hq.length], (599915, 7299473), hq ++ [.inr (5, mF 5)])) rfl (by rw [s3]; rfl) ?_
  rw [s2]
  refine ab_W.go (mm _) 1 (c' := (12, [.retAddr 1, .ref 0, .retAddr 0, .retAddr 0], [.ref 84, .ref 84], (599915, 7299473), hq ++ [.inr (5, mF 5)])) rfl ?_
  refine ab_W.callG (mm _) (k := kSpanStampsModel_init) (av := [.ref 84]) (lv := [.retAddr 1, .ref 0, .retAddr 0, .retAddr 0]) (rest := [.ref 84]) (nx := 15) (b := (599915, 7299473)) (h := hq ++ [(.inr (5, mF 5) : va_E)]) rfl rfl rfl rfl s4 ?_
  refine ⟨rfl, ab_ev.ok 600 39 _ _ none hM _ s5 ?_⟩
  clear s5
  revert s6 s7
  generalize hM = hr
  intro s6 s7
  show ab_W _ _ _ (15, [.retAddr 1, .ref 0, .retAddr 0, .retAddr 0], [.ref 84], (599900, 7296577), hr)
  refine ab_W.go (mm _) 3 (c' := (18, [.retAddr 1, .ref 0, .ref 84, .int (nI 0)], [], (599900, 7296577), hr)) rfl ?_
  exact lw_loop hL L 0 hr σ0 (by omega) (by omega) ⟨s6, s7, inv0⟩
