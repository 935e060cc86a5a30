/-! THE LAW: one call on both sides -/
theorem ab_W.sald {F : ab_S → ab_R} {C : ab_C} {post : ab_P} {c : ab_S} (hC : ab_mono C) {h : ab_H} {L j nx : Nat} {xs : Nat → Int32} {i : Int32} {lv r : List Value} {b : Nat × Nat} (hi : i = nI j) (hj : j < L) (hL : L ≤ 1536) (e : F c = ab_gd (ab_in i L) (ab_nx nx lv (.int (xs i.toNatClampNeg) :: r) b h)) (w : ab_W F C post (nx, lv, .int (xs j) :: r, b, h)) : ab_W F C post c := by
  obtain ⟨h1, h2⟩ := ab_in_nI hi hj (Nat.ble_eq_true_of_le (by omega))
  refine ab_W.fold hC ?_
  rw [e, h1, h2]
  exact w
abbrev lwW (L : Nat) (xs : Nat → Int32) (i pc : Nat) (st : List Value) (h : ab_H) : Prop := ab_W (ab_st (mT kSpanStampsLaw_law) mB mF (mR kSpanStampsLaw_law) (some (L, xs))) (mCC 40) (fun r _ => r = some (.int 1)) (pc, [.retAddr 1, .ref 0, .ref 84, .int (nI i)], st, (599900, 7296577), h)
def okL (h : ab_H) (σ : Sg) : Prop := relC h σ ∧ relM h σ ∧ inv σ
theorem lc_fork {L : Nat} {xs : Nat → Int32} {i : Nat} {h : ab_H} {σ : Sg} (hL : L ≤ 1536) (hi : i + 3 ≤ L) (ok : okL h σ) (K : ∀ h' σ', okL h' σ' → lwW L xs i 661 [] h') : lwW L xs i 124 [] h := by
  obtain ⟨hR, hM, hI⟩ := ok
  refine ab_W.go (mm _) 5 (c' := (129, [.retAddr 1, .ref 0, .ref 84, .int (nI i)], [.int ((nI i) + (nI 1)), .retAddr 1, .ref 0], (599900, 7296577), h)) rfl ?_
  refine ab_W.topi (nI_add i 1) ?_
  refine ab_W.sald (mm _) (j := i + 1) rfl (by omega) hL rfl ?_
  show ab_W _ _ _ (130, [.retAddr 1, .ref 0, .ref 84, .int (nI i)], [.int (xs (i + 1)), .ref 0], (599900, 7296577), h)
  refine ab_W.callV (mm _) (hR.1) rfl (k := 42) (av := [.ref 0, .int (xs (i + 1))]) (c' := (133, [.retAddr 1, .ref 0, .ref 84, .int (nI i)], [], (599900, 7296577), h)) rfl ?_
  refine sp_fork 34 hR (fun h1 C1 k1 => ?_)
  have M1 := hM.kept k1
  obtain ⟨sz, op, m0⟩ := M1.1
  show ab_W _ _ _ (133, [.retAddr 1, .ref 0, .ref 84, .int (nI i)], [.int ((forkO σ.1 (stN σ.1 (xs (i + 1)))).1)], (599900, 7296577), h1)
  refine ab_W.go (mm _) 5 (c' := (138, [.retAddr 1, .ref 0, .ref 84, .int (nI i)], [.int ((nI i) + (nI 1)), .retAddr 1, .ref 84, .int ((forkO σ.1 (stN σ.1 (xs (i + 1)))).1)], (599900, 7296577), h1)) rfl ?_
  refine ab_W.topi (nI_add i 1) ?_
  refine ab_W.sald (mm _) (j := i + 1) rfl (by omega) hL rfl ?_
  show ab_W _ _ _ (139, [.retAddr 1, .ref 0, .ref 84, .int (nI i)], [.int (xs (i + 1)), .ref 84, .int ((forkO σ.1 (stN σ.1 (xs (i + 1)))).1)], (599900, 7296577), h1)
  refine ab_W.callV (mm _) (m0) rfl (k := 79) (av := [.ref 84, .int (xs (i + 1))]) (c' := (142, [.retAddr 1, .ref 0, .ref 84, .int (nI i)], [.int ((forkO σ.1 (stN σ.1 (xs (i + 1)))).1)], (599900, 7296577), h1)) rfl ?_
  refine sp_m_fork 32 M1 (fun h2 M2 k2 => ?_)
  show ab_W _ _ _ (142, [.retAddr 1, .ref 0, .ref 84, .int (nI i)], [.int ((forkO σ.1 (stN σ.1 (xs (i + 1)))).1), .int ((forkO σ.1 (stN σ.1 (xs (i + 1)))).1)], (599900, 7296577), h2)
  refine ab_W.itT (mm _) (p := ((forkO σ.1 (stN σ.1 (xs (i + 1)))).1) = ((forkO σ.1 (stN σ.1 (xs (i + 1)))).1)) (c1 := (661, [.retAddr 1, .ref 0, .ref 84, .int (nI i)], [], (599900, 7296577), h2)) (c2 := (145, [.retAddr 1, .ref 0, .ref 84, .int (nI i)], [], (599900, 7296577), h2)) rfl (rfl) ?_
  exact K h2 ((forkO σ.1 (stN σ.1 (xs (i + 1)))).2, σ.2) ⟨C1.kept k2, M2, hI.cur (good_fork hI.1)⟩
theorem lc_peek {L : Nat} {xs : Nat → Int32} {i : Nat} {h : ab_H} {σ : Sg} (hL : L ≤ 1536) (hi : i + 3 ≤ L) (ok : okL h σ) (K : ∀ h' σ', okL h' σ' → lwW L xs i 661 [] h') : lwW L xs i 147 [] h := by
  obtain ⟨hR, hM, hI⟩ := ok
  refine ab_W.go (mm _) 5 (c' := (152, [.retAddr 1, .ref 0, .ref 84, .int (nI i)], [.int ((nI i) + (nI 1)), .retAddr 1, .ref 0], (599900, 7296577), h)) rfl ?_
  refine ab_W.topi (nI_add i 1) ?_
  refine ab_W.sald (mm _) (j := i + 1) rfl (by omega) hL rfl ?_
  show ab_W _ _ _ (153, [.retAddr 1, .ref 0, .ref 84, .int (nI i)], [.int (xs (i + 1)), .ref 0], (599900, 7296577), h)
  refine ab_W.callV (mm _) (hR.1) rfl (k := 43) (av := [.ref 0, .int (xs (i + 1))]) (c' := (156, [.retAddr 1, .ref 0, .ref 84, .int (nI i)], [], (599900, 7296577), h)) rfl ?_
  refine sp_peek 34 hR (fun h1 C1 k1 => ?_)
  have M1 := hM.kept k1
  obtain ⟨sz, op, m0⟩ := M1.1
  show ab_W _ _ _ (156, [.retAddr 1, .ref 0, .ref 84, .int (nI i)], [.int ((peekO σ.1 (stN σ.1 (xs (i + 1)))).1)], (599900, 7296577), h1)
  refine ab_W.go (mm _) 5 (c' := (161, [.retAddr 1, .ref 0, .ref 84, .int (nI i)], [.int ((nI i) + (nI 1)), .retAddr 1, .ref 84, .int ((peekO σ.1 (stN σ.1 (xs (i + 1)))).1)], (599900, 7296577), h1)) rfl ?_
  refine ab_W.topi (nI_add i 1) ?_
  refine ab_W.sald (mm _) (j := i + 1) rfl (by omega) hL rfl ?_
  show ab_W _ _ _ (162, [.retAddr 1, .ref 0, .ref 84, .int (nI i)], [.int (xs (i + 1)), .ref 84, .int ((peekO σ.1 (stN σ.1 (xs (i + 1)))).1)], (599900, 7296577), h1)
  refine ab_W.callV (mm _) (m0) rfl (k := 80) (av := [.ref 84, .int (xs (i + 1))]) (c' := (165, [.retAddr 1, .ref 0, .ref 84, .int (nI i)], [.int ((peekO σ.1 (stN σ.1 (xs (i + 1)))).1)], (599900, 7296577), h1)) rfl ?_
  refine sp_m_peek 35 M1 (fun h2 M2 k2 => ?_)
  show ab_W _ _ _ (165, [.retAddr 1, .ref 0, .ref 84, .int (nI i)], [.int ((peekO σ.1 (stN σ.1 (xs (i + 1)))).1), .int ((peekO σ.1 (stN σ.1 (xs (i + 1)))).1)], (599900, 7296577), h2)
  refine ab_W.itT (mm _) (p := ((peekO σ.1 (stN σ.1 (xs (i + 1)))).1) = ((peekO σ.1 (stN σ.1 (xs (i + 1)))).1)) (c1 := (661, [.retAddr 1, .ref 0, .ref 84, .int (nI i)], [], (599900, 7296577), h2)) (c2 := (168, [.retAddr 1, .ref 0, .ref 84, .int (nI i)], [], (599900, 7296577), h2)) rfl (rfl) ?_
  exact K h2 ((peekO σ.1 (stN σ.1 (xs (i + 1)))).2, σ.2) ⟨C1.kept k2, M2, hI.cur (good_peek hI.1)⟩
theorem lc_happen {L : Nat} {xs : Nat → Int32} {i : Nat} {h : ab_H} {σ : Sg} (hL : L ≤ 1536) (hi : i + 3 ≤ L) (ok : okL h σ) (K : ∀ h' σ', okL h' σ' → lwW L xs i 661 [] h') : lwW L xs i 170 [] h := by
  obtain ⟨hR, hM, hI⟩ := ok
  refine ab_W.go (mm _) 5 (c' := (175, [.retAddr 1, .ref 0, .ref 84, .int (nI i)], [.int ((nI i) + (nI 1)), .retAddr 1, .ref 0], (599900, 7296577), h)) rfl ?_
  refine ab_W.topi (nI_add i 1) ?_
  refine ab_W.sald (mm _) (j := i + 1) rfl (by omega) hL rfl ?_
  show ab_W _ _ _ (176, [.retAddr 1, .ref 0, .ref 84, .int (nI i)], [.int (xs (i + 1)), .ref 0], (599900, 7296577), h)
  refine ab_W.callV (mm _) (hR.1) rfl (k := 44) (av := [.ref 0, .int (xs (i + 1))]) (c' := (179, [.retAddr 1, .ref 0, .ref 84, .int (nI i)], [], (599900, 7296577), h)) rfl ?_
  refine sp_happen 27 hR hI.1.1 (fun h1 C1 k1 => ?_)
  have M1 := hM.kept k1
  obtain ⟨sz, op, m0⟩ := M1.1
  show ab_W _ _ _ (179, [.retAddr 1, .ref 0, .ref 84, .int (nI i)], [.int ((happenO σ.1 (stN σ.1 (xs (i + 1)))).1)], (599900, 7296577), h1)
  refine ab_W.go (mm _) 5 (c' := (184, [.retAddr 1, .ref 0, .ref 84, .int (nI i)], [.int ((nI i) + (nI 1)), .retAddr 1, .ref 84, .int ((happenO σ.1 (stN σ.1 (xs (i + 1)))).1)], (599900, 7296577), h1)) rfl ?_
  refine ab_W.topi (nI_add i 1) ?_
  refine ab_W.sald (mm _) (j := i + 1) rfl (by omega) hL rfl ?_
  show ab_W _ _ _ (185, [.retAddr 1, .ref 0, .ref 84, .int (nI i)], [.int (xs (i + 1)), .ref 84, .int ((happenO σ.1 (stN σ.1 (xs (i + 1)))).1)], (599900, 7296577), h1)
  refine ab_W.callV (mm _) (m0) rfl (k := 93) (av := [.ref 84, .int (xs (i + 1))]) (c' := (188, [.retAddr 1, .ref 0, .ref 84, .int (nI i)], [.int ((happenO σ.1 (stN σ.1 (xs (i + 1)))).1)], (599900, 7296577), h1)) rfl ?_
  refine sp_m_happen 31 M1 hI.1.1 (fun h2 M2 k2 => ?_)
  show ab_W _ _ _ (188, [.retAddr 1, .ref 0, .ref 84, .int (nI i)], [.int ((happenO σ.1 (stN σ.1 (xs (i + 1)))).1), .int ((happenO σ.1 (stN σ.1 (xs (i + 1)))).1)], (599900, 7296577), h2)
  refine ab_W.itT (mm _) (p := ((happenO σ.1 (stN σ.1 (xs (i + 1)))).1) = ((happenO σ.1 (stN σ.1 (xs (i + 1)))).1)) (c1 := (661, [.retAddr 1, .ref 0, .ref 84, .int (nI i)], [], (599900, 7296577), h2)) (c2 := (191, [.retAddr 1, .ref 0, .ref 84, .int (nI i)], [], (599900, 7296577), h2)) rfl (rfl) ?_
  exact K h2 ((happenO σ.1 (stN σ.1 (xs (i + 1)))).2, σ.2) ⟨C1.kept k2, M2, hI.cur (good_happen hI.1)⟩
theorem lc_hear {L : Nat} {xs : Nat → Int32} {i : Nat} {h : ab_H} {σ : Sg} (hL : L ≤ 1536) (hi : i + 3 ≤ L) (ok : okL h σ) (K : ∀ h' σ', okL h' σ' → lwW L xs i 661 [] h') : lwW L xs i 193 [] h := by
  obtain ⟨hR, hM, hI⟩ := ok
  refine ab_W.go (mm _) 5 (c' := (198, [.retAddr 1, .ref 0, .ref 84, .int (nI i)], [.int ((nI i) + (nI 1)), .retAddr 1, .ref 0], (599900, 7296577), h)) rfl ?_
  refine ab_W.topi (nI_add i 1) ?_
  refine ab_W.sald (mm _) (j := i + 1) rfl (by omega) hL rfl ?_
  show ab_W _ _ _ (199, [.retAddr 1, .ref 0, .ref 84, .int (nI i)], [.int (xs (i + 1)), .ref 0], (599900, 7296577), h)
  refine ab_W.go (mm _) 4 (c' := (203, [.retAddr 1, .ref 0, .ref 84, .int (nI i)], [.int ((nI i) + (nI 2)), .retAddr 1, .int (xs (i + 1)), .ref 0], (599900, 7296577), h)) rfl ?_
  refine ab_W.topi (nI_add i 2) ?_
  refine ab_W.sald (mm _) (j := i + 2) rfl (by omega) hL rfl ?_
  show ab_W _ _ _ (204, [.retAddr 1, .ref 0, .ref 84, .int (nI i)], [.int (xs (i + 2)), .int (xs (i + 1)), .ref 0], (599900, 7296577), h)
  refine ab_W.callV (mm _) (hR.1) rfl (k := 45) (av := [.ref 0, .int (xs (i + 1)), .int (xs (i + 2))]) (c' := (207, [.retAddr 1, .ref 0, .ref 84, .int (nI i)], [], (599900, 7296577), h)) rfl ?_
  refine sp_hear 37 hR (fun h1 C1 k1 => ?_)
  have M1 := hM.kept k1
  obtain ⟨sz, op, m0⟩ := M1.1
  show ab_W _ _ _ (207, [.retAddr 1, .ref 0, .ref 84, .int (nI i)], [.int ((hearO σ.1 (stN σ.1 (xs (i + 1))) (stN σ.1 (xs (i + 2)))).1)], (599900, 7296577), h1)
  refine ab_W.go (mm _) 5 (c' := (212, [.retAddr 1, .ref 0, .ref 84, .int (nI i)], [.int ((nI i) + (nI 1)), .retAddr 1, .ref 84, .int ((hearO σ.1 (stN σ.1 (xs (i + 1))) (stN σ.1 (xs (i + 2)))).1)], (599900, 7296577), h1)) rfl ?_
  refine ab_W.topi (nI_add i 1) ?_
  refine ab_W.sald (mm _) (j := i + 1) rfl (by omega) hL rfl ?_
  show ab_W _ _ _ (213, [.retAddr 1, .ref 0, .ref 84, .int (nI i)], [.int (xs (i + 1)), .ref 84, .int ((hearO σ.1 (stN σ.1 (xs (i + 1))) (stN σ.1 (xs (i + 2)))).1)], (599900, 7296577), h1)
  refine ab_W.go (mm _) 4 (c' := (217, [.retAddr 1, .ref 0, .ref 84, .int (nI i)], [.int ((nI i) + (nI 2)), .retAddr 1, .int (xs (i + 1)), .ref 84, .int ((hearO σ.1 (stN σ.1 (xs (i + 1))) (stN σ.1 (xs (i + 2)))).1)], (599900, 7296577), h1)) rfl ?_
  refine ab_W.topi (nI_add i 2) ?_
  refine ab_W.sald (mm _) (j := i + 2) rfl (by omega) hL rfl ?_
  show ab_W _ _ _ (218, [.retAddr 1, .ref 0, .ref 84, .int (nI i)], [.int (xs (i + 2)), .int (xs (i + 1)), .ref 84, .int ((hearO σ.1 (stN σ.1 (xs (i + 1))) (stN σ.1 (xs (i + 2)))).1)], (599900, 7296577), h1)
  refine ab_W.callV (mm _) (m0) rfl (k := 95) (av := [.ref 84, .int (xs (i + 1)), .int (xs (i + 2))]) (c' := (221, [.retAddr 1, .ref 0, .ref 84, .int (nI i)], [.int ((hearO σ.1 (stN σ.1 (xs (i + 1))) (stN σ.1 (xs (i + 2)))).1)], (599900, 7296577), h1)) rfl ?_
  refine sp_m_hear 36 M1 (fun h2 M2 k2 => ?_)
  show ab_W _ _ _ (221, [.retAddr 1, .ref 0, .ref 84, .int (nI i)], [.int ((hearO σ.1 (stN σ.1 (xs (i + 1))) (stN σ.1 (xs (i + 2)))).1), .int ((hearO σ.1 (stN σ.1 (xs (i + 1))) (stN σ.1 (xs (i + 2)))).1)], (599900, 7296577), h2)
  refine ab_W.itT (mm _) (p := ((hearO σ.1 (stN σ.1 (xs (i + 1))) (stN σ.1 (xs (i + 2)))).1) = ((hearO σ.1 (stN σ.1 (xs (i + 1))) (stN σ.1 (xs (i + 2)))).1)) (c1 := (661, [.retAddr 1, .ref 0, .ref 84, .int (nI i)], [], (599900, 7296577), h2)) (c2 := (224, [.retAddr 1, .ref 0, .ref 84, .int (nI i)], [], (599900, 7296577), h2)) rfl (rfl) ?_
  exact K h2 ((hearO σ.1 (stN σ.1 (xs (i + 1))) (stN σ.1 (xs (i + 2)))).2, σ.2) ⟨C1.kept k2, M2, hI.cur (good_hear hI.1)⟩
theorem lc_join {L : Nat} {xs : Nat → Int32} {i : Nat} {h : ab_H} {σ : Sg} (hL : L ≤ 1536) (hi : i + 3 ≤ L) (ok : okL h σ) (K : ∀ h' σ', okL h' σ' → lwW L xs i 661 [] h') : lwW L xs i 226 [] h := by
  obtain ⟨hR, hM, hI⟩ := ok
  refine ab_W.go (mm _) 5 (c' := (231, [.retAddr 1, .ref 0, .ref 84, .int (nI i)], [.int ((nI i) + (nI 1)), .retAddr 1, .ref 0], (599900, 7296577), h)) rfl ?_
  refine ab_W.topi (nI_add i 1) ?_
  refine ab_W.sald (mm _) (j := i + 1) rfl (by omega) hL rfl ?_
  show ab_W _ _ _ (232, [.retAddr 1, .ref 0, .ref 84, .int (nI i)], [.int (xs (i + 1)), .ref 0], (599900, 7296577), h)
  refine ab_W.go (mm _) 4 (c' := (236, [.retAddr 1, .ref 0, .ref 84, .int (nI i)], [.int ((nI i) + (nI 2)), .retAddr 1, .int (xs (i + 1)), .ref 0], (599900, 7296577), h)) rfl ?_
  refine ab_W.topi (nI_add i 2) ?_
  refine ab_W.sald (mm _) (j := i + 2) rfl (by omega) hL rfl ?_
  show ab_W _ _ _ (237, [.retAddr 1, .ref 0, .ref 84, .int (nI i)], [.int (xs (i + 2)), .int (xs (i + 1)), .ref 0], (599900, 7296577), h)
  refine ab_W.callV (mm _) (hR.1) rfl (k := 46) (av := [.ref 0, .int (xs (i + 1)), .int (xs (i + 2))]) (c' := (240, [.retAddr 1, .ref 0, .ref 84, .int (nI i)], [], (599900, 7296577), h)) rfl ?_
  refine sp_join 34 hR (fun h1 C1 k1 => ?_)
  have M1 := hM.kept k1
  obtain ⟨sz, op, m0⟩ := M1.1
  show ab_W _ _ _ (240, [.retAddr 1, .ref 0, .ref 84, .int (nI i)], [.int ((joinO σ.1 (stN σ.1 (xs (i + 1))) (stN σ.1 (xs (i + 2)))).1)], (599900, 7296577), h1)
  refine ab_W.go (mm _) 5 (c' := (245, [.retAddr 1, .ref 0, .ref 84, .int (nI i)], [.int ((nI i) + (nI 1)), .retAddr 1, .ref 84, .int ((joinO σ.1 (stN σ.1 (xs (i + 1))) (stN σ.1 (xs (i + 2)))).1)], (599900, 7296577), h1)) rfl ?_
  refine ab_W.topi (nI_add i 1) ?_
  refine ab_W.sald (mm _) (j := i + 1) rfl (by omega) hL rfl ?_
  show ab_W _ _ _ (246, [.retAddr 1, .ref 0, .ref 84, .int (nI i)], [.int (xs (i + 1)), .ref 84, .int ((joinO σ.1 (stN σ.1 (xs (i + 1))) (stN σ.1 (xs (i + 2)))).1)], (599900, 7296577), h1)
  refine ab_W.go (mm _) 4 (c' := (250, [.retAddr 1, .ref 0, .ref 84, .int (nI i)], [.int ((nI i) + (nI 2)), .retAddr 1, .int (xs (i + 1)), .ref 84, .int ((joinO σ.1 (stN σ.1 (xs (i + 1))) (stN σ.1 (xs (i + 2)))).1)], (599900, 7296577), h1)) rfl ?_
  refine ab_W.topi (nI_add i 2) ?_
  refine ab_W.sald (mm _) (j := i + 2) rfl (by omega) hL rfl ?_
  show ab_W _ _ _ (251, [.retAddr 1, .ref 0, .ref 84, .int (nI i)], [.int (xs (i + 2)), .int (xs (i + 1)), .ref 84, .int ((joinO σ.1 (stN σ.1 (xs (i + 1))) (stN σ.1 (xs (i + 2)))).1)], (599900, 7296577), h1)
  refine ab_W.callV (mm _) (m0) rfl (k := 96) (av := [.ref 84, .int (xs (i + 1)), .int (xs (i + 2))]) (c' := (254, [.retAddr 1, .ref 0, .ref 84, .int (nI i)], [.int ((joinO σ.1 (stN σ.1 (xs (i + 1))) (stN σ.1 (xs (i + 2)))).1)], (599900, 7296577), h1)) rfl ?_
  refine sp_m_join 36 M1 (fun h2 M2 k2 => ?_)
  show ab_W _ _ _ (254, [.retAddr 1, .ref 0, .ref 84, .int (nI i)], [.int ((joinO σ.1 (stN σ.1 (xs (i + 1))) (stN σ.1 (xs (i + 2)))).1), .int ((joinO σ.1 (stN σ.1 (xs (i + 1))) (stN σ.1 (xs (i + 2)))).1)], (599900, 7296577), h2)
  refine ab_W.itT (mm _) (p := ((joinO σ.1 (stN σ.1 (xs (i + 1))) (stN σ.1 (xs (i + 2)))).1) = ((joinO σ.1 (stN σ.1 (xs (i + 1))) (stN σ.1 (xs (i + 2)))).1)) (c1 := (661, [.retAddr 1, .ref 0, .ref 84, .int (nI i)], [], (599900, 7296577), h2)) (c2 := (257, [.retAddr 1, .ref 0, .ref 84, .int (nI i)], [], (599900, 7296577), h2)) rfl (rfl) ?_
  exact K h2 ((joinO σ.1 (stN σ.1 (xs (i + 1))) (stN σ.1 (xs (i + 2)))).2, σ.2) ⟨C1.kept k2, M2, hI.cur (good_join hI.1)⟩
theorem lc_share {L : Nat} {xs : Nat → Int32} {i : Nat} {h : ab_H} {σ : Sg} (hL : L ≤ 1536) (hi : i + 3 ≤ L) (ok : okL h σ) (K : ∀ h' σ', okL h' σ' → lwW L xs i 661 [] h') : lwW L xs i 259 [] h := by
  obtain ⟨hR, hM, hI⟩ := ok
  refine ab_W.go (mm _) 5 (c' := (264, [.retAddr 1, .ref 0, .ref 84, .int (nI i)], [.int ((nI i) + (nI 1)), .retAddr 1, .ref 0], (599900, 7296577), h)) rfl ?_
  refine ab_W.topi (nI_add i 1) ?_
  refine ab_W.sald (mm _) (j := i + 1) rfl (by omega) hL rfl ?_
  show ab_W _ _ _ (265, [.retAddr 1, .ref 0, .ref 84, .int (nI i)], [.int (xs (i + 1)), .ref 0], (599900, 7296577), h)
  refine ab_W.go (mm _) 4 (c' := (269, [.retAddr 1, .ref 0, .ref 84, .int (nI i)], [.int ((nI i) + (nI 2)), .retAddr 1, .int (xs (i + 1)), .ref 0], (599900, 7296577), h)) rfl ?_
  refine ab_W.topi (nI_add i 2) ?_
  refine ab_W.sald (mm _) (j := i + 2) rfl (by omega) hL rfl ?_
  show ab_W _ _ _ (270, [.retAddr 1, .ref 0, .ref 84, .int (nI i)], [.int (xs (i + 2)), .int (xs (i + 1)), .ref 0], (599900, 7296577), h)
  refine ab_W.callV (mm _) (hR.1) rfl (k := 47) (av := [.ref 0, .int (xs (i + 1)), .int (xs (i + 2))]) (c' := (273, [.retAddr 1, .ref 0, .ref 84, .int (nI i)], [], (599900, 7296577), h)) rfl ?_
  refine sp_share 34 hR (fun h1 C1 k1 => ?_)
  have M1 := hM.kept k1
  obtain ⟨sz, op, m0⟩ := M1.1
  show ab_W _ _ _ (273, [.retAddr 1, .ref 0, .ref 84, .int (nI i)], [.int ((shareO σ.1 (stN σ.1 (xs (i + 1))) (stN σ.1 (xs (i + 2)))).1)], (599900, 7296577), h1)
  refine ab_W.go (mm _) 5 (c' := (278, [.retAddr 1, .ref 0, .ref 84, .int (nI i)], [.int ((nI i) + (nI 1)), .retAddr 1, .ref 84, .int ((shareO σ.1 (stN σ.1 (xs (i + 1))) (stN σ.1 (xs (i + 2)))).1)], (599900, 7296577), h1)) rfl ?_
  refine ab_W.topi (nI_add i 1) ?_
  refine ab_W.sald (mm _) (j := i + 1) rfl (by omega) hL rfl ?_
  show ab_W _ _ _ (279, [.retAddr 1, .ref 0, .ref 84, .int (nI i)], [.int (xs (i + 1)), .ref 84, .int ((shareO σ.1 (stN σ.1 (xs (i + 1))) (stN σ.1 (xs (i + 2)))).1)], (599900, 7296577), h1)
  refine ab_W.go (mm _) 4 (c' := (283, [.retAddr 1, .ref 0, .ref 84, .int (nI i)], [.int ((nI i) + (nI 2)), .retAddr 1, .int (xs (i + 1)), .ref 84, .int ((shareO σ.1 (stN σ.1 (xs (i + 1))) (stN σ.1 (xs (i + 2)))).1)], (599900, 7296577), h1)) rfl ?_
  refine ab_W.topi (nI_add i 2) ?_
  refine ab_W.sald (mm _) (j := i + 2) rfl (by omega) hL rfl ?_
  show ab_W _ _ _ (284, [.retAddr 1, .ref 0, .ref 84, .int (nI i)], [.int (xs (i + 2)), .int (xs (i + 1)), .ref 84, .int ((shareO σ.1 (stN σ.1 (xs (i + 1))) (stN σ.1 (xs (i + 2)))).1)], (599900, 7296577), h1)
  refine ab_W.callV (mm _) (m0) rfl (k := 97) (av := [.ref 84, .int (xs (i + 1)), .int (xs (i + 2))]) (c' := (287, [.retAddr 1, .ref 0, .ref 84, .int (nI i)], [.int ((shareO σ.1 (stN σ.1 (xs (i + 1))) (stN σ.1 (xs (i + 2)))).1)], (599900, 7296577), h1)) rfl ?_
  refine sp_m_share 32 M1 (fun h2 M2 k2 => ?_)
  show ab_W _ _ _ (287, [.retAddr 1, .ref 0, .ref 84, .int (nI i)], [.int ((shareO σ.1 (stN σ.1 (xs (i + 1))) (stN σ.1 (xs (i + 2)))).1), .int ((shareO σ.1 (stN σ.1 (xs (i + 1))) (stN σ.1 (xs (i + 2)))).1)], (599900, 7296577), h2)
  refine ab_W.itT (mm _) (p := ((shareO σ.1 (stN σ.1 (xs (i + 1))) (stN σ.1 (xs (i + 2)))).1) = ((shareO σ.1 (stN σ.1 (xs (i + 1))) (stN σ.1 (xs (i + 2)))).1)) (c1 := (661, [.retAddr 1, .ref 0, .ref 84, .int (nI i)], [], (599900, 7296577), h2)) (c2 := (290, [.retAddr 1, .ref 0, .ref 84, .int (nI i)], [], (599900, 7296577), h2)) rfl (rfl) ?_
  exact K h2 ((shareO σ.1 (stN σ.1 (xs (i + 1))) (stN σ.1 (xs (i + 2)))).2, σ.2) ⟨C1.kept k2, M2, hI.cur (good_share hI.1)⟩
theorem lc_drop {L : Nat} {xs : Nat → Int32} {i : Nat} {h : ab_H} {σ : Sg} (hL : L ≤ 1536) (hi : i + 3 ≤ L) (ok : okL h σ) (K : ∀ h' σ', okL h' σ' → lwW L xs i 661 [] h') : lwW L xs i 292 [] h := by
  obtain ⟨hR, hM, hI⟩ := ok
  refine ab_W.go (mm _) 5 (c' := (297, [.retAddr 1, .ref 0, .ref 84, .int (nI i)], [.int ((nI i) + (nI 1)), .retAddr 1, .ref 0], (599900, 7296577), h)) rfl ?_
  refine ab_W.topi (nI_add i 1) ?_
  refine ab_W.sald (mm _) (j := i + 1) rfl (by omega) hL rfl ?_
  show ab_W _ _ _ (298, [.retAddr 1, .ref 0, .ref 84, .int (nI i)], [.int (xs (i + 1)), .ref 0], (599900, 7296577), h)
  refine ab_W.callV (mm _) (hR.1) rfl (k := 48) (av := [.ref 0, .int (xs (i + 1))]) (c' := (301, [.retAddr 1, .ref 0, .ref 84, .int (nI i)], [], (599900, 7296577), h)) rfl ?_
  refine sp_drop 34 hR (fun h1 C1 k1 => ?_)
  have M1 := hM.kept k1
  obtain ⟨sz, op, m0⟩ := M1.1
  show ab_W _ _ _ (301, [.retAddr 1, .ref 0, .ref 84, .int (nI i)], [.int ((dropO σ.1 (stN σ.1 (xs (i + 1)))).1)], (599900, 7296577), h1)
  refine ab_W.go (mm _) 5 (c' := (306, [.retAddr 1, .ref 0, .ref 84, .int (nI i)], [.int ((nI i) + (nI 1)), .retAddr 1, .ref 84, .int ((dropO σ.1 (stN σ.1 (xs (i + 1)))).1)], (599900, 7296577), h1)) rfl ?_
  refine ab_W.topi (nI_add i 1) ?_
  refine ab_W.sald (mm _) (j := i + 1) rfl (by omega) hL rfl ?_
  show ab_W _ _ _ (307, [.retAddr 1, .ref 0, .ref 84, .int (nI i)], [.int (xs (i + 1)), .ref 84, .int ((dropO σ.1 (stN σ.1 (xs (i + 1)))).1)], (599900, 7296577), h1)
  refine ab_W.callV (mm _) (m0) rfl (k := 98) (av := [.ref 84, .int (xs (i + 1))]) (c' := (310, [.retAddr 1, .ref 0, .ref 84, .int (nI i)], [.int ((dropO σ.1 (stN σ.1 (xs (i + 1)))).1)], (599900, 7296577), h1)) rfl ?_
  refine sp_m_drop 35 M1 (fun h2 M2 k2 => ?_)
  show ab_W _ _ _ (310, [.retAddr 1, .ref 0, .ref 84, .int (nI i)], [.int ((dropO σ.1 (stN σ.1 (xs (i + 1)))).1), .int ((dropO σ.1 (stN σ.1 (xs (i + 1)))).1)], (599900, 7296577), h2)
  refine ab_W.itT (mm _) (p := ((dropO σ.1 (stN σ.1 (xs (i + 1)))).1) = ((dropO σ.1 (stN σ.1 (xs (i + 1)))).1)) (c1 := (661, [.retAddr 1, .ref 0, .ref 84, .int (nI i)], [], (599900, 7296577), h2)) (c2 := (313, [.retAddr 1, .ref 0, .ref 84, .int (nI i)], [], (599900, 7296577), h2)) rfl (rfl) ?_
  exact K h2 ((dropO σ.1 (stN σ.1 (xs (i + 1)))).2, σ.2) ⟨C1.kept k2, M2, hI.cur (good_drop hI.1)⟩
theorem lc_order {L : Nat} {xs : Nat → Int32} {i : Nat} {h : ab_H} {σ : Sg} (hL : L ≤ 1536) (hi : i + 3 ≤ L) (ok : okL h σ) (K : ∀ h' σ', okL h' σ' → lwW L xs i 661 [] h') : lwW L xs i 315 [] h := by
  obtain ⟨hR, hM, hI⟩ := ok
  refine ab_W.go (mm _) 5 (c' := (320, [.retAddr 1, .ref 0, .ref 84, .int (nI i)], [.int ((nI i) + (nI 1)), .retAddr 1, .ref 0], (599900, 7296577), h)) rfl ?_
  refine ab_W.topi (nI_add i 1) ?_
  refine ab_W.sald (mm _) (j := i + 1) rfl (by omega) hL rfl ?_
  show ab_W _ _ _ (321, [.retAddr 1, .ref 0, .ref 84, .int (nI i)], [.int (xs (i + 1)), .ref 0], (599900, 7296577), h)
  refine ab_W.go (mm _) 4 (c' := (325, [.retAddr 1, .ref 0, .ref 84, .int (nI i)], [.int ((nI i) + (nI 2)), .retAddr 1, .int (xs (i + 1)), .ref 0], (599900, 7296577), h)) rfl ?_
  refine ab_W.topi (nI_add i 2) ?_
  refine ab_W.sald (mm _) (j := i + 2) rfl (by omega) hL rfl ?_
  show ab_W _ _ _ (326, [.retAddr 1, .ref 0, .ref 84, .int (nI i)], [.int (xs (i + 2)), .int (xs (i + 1)), .ref 0], (599900, 7296577), h)
  refine ab_W.callV (mm _) (hR.1) rfl (k := 49) (av := [.ref 0, .int (xs (i + 1)), .int (xs (i + 2))]) (c' := (329, [.retAddr 1, .ref 0, .ref 84, .int (nI i)], [], (599900, 7296577), h)) rfl ?_
  refine sp_order 37 hR (fun h1 C1 k1 => ?_)
  have M1 := hM.kept k1
  obtain ⟨sz, op, m0⟩ := M1.1
  show ab_W _ _ _ (329, [.retAddr 1, .ref 0, .ref 84, .int (nI i)], [.int (orderO σ.1 (stN σ.1 (xs (i + 1))) (stN σ.1 (xs (i + 2))))], (599900, 7296577), h1)
  refine ab_W.go (mm _) 5 (c' := (334, [.retAddr 1, .ref 0, .ref 84, .int (nI i)], [.int ((nI i) + (nI 1)), .retAddr 1, .ref 84, .int (orderO σ.1 (stN σ.1 (xs (i + 1))) (stN σ.1 (xs (i + 2))))], (599900, 7296577), h1)) rfl ?_
  refine ab_W.topi (nI_add i 1) ?_
  refine ab_W.sald (mm _) (j := i + 1) rfl (by omega) hL rfl ?_
  show ab_W _ _ _ (335, [.retAddr 1, .ref 0, .ref 84, .int (nI i)], [.int (xs (i + 1)), .ref 84, .int (orderO σ.1 (stN σ.1 (xs (i + 1))) (stN σ.1 (xs (i + 2))))], (599900, 7296577), h1)
  refine ab_W.go (mm _) 4 (c' := (339, [.retAddr 1, .ref 0, .ref 84, .int (nI i)], [.int ((nI i) + (nI 2)), .retAddr 1, .int (xs (i + 1)), .ref 84, .int (orderO σ.1 (stN σ.1 (xs (i + 1))) (stN σ.1 (xs (i + 2))))], (599900, 7296577), h1)) rfl ?_
  refine ab_W.topi (nI_add i 2) ?_
  refine ab_W.sald (mm _) (j := i + 2) rfl (by omega) hL rfl ?_
  show ab_W _ _ _ (340, [.retAddr 1, .ref 0, .ref 84, .int (nI i)], [.int (xs (i + 2)), .int (xs (i + 1)), .ref 84, .int (orderO σ.1 (stN σ.1 (xs (i + 1))) (stN σ.1 (xs (i + 2))))], (599900, 7296577), h1)
  refine ab_W.callV (mm _) (m0) rfl (k := 100) (av := [.ref 84, .int (xs (i + 1)), .int (xs (i + 2))]) (c' := (343, [.retAddr 1, .ref 0, .ref 84, .int (nI i)], [.int (orderO σ.1 (stN σ.1 (xs (i + 1))) (stN σ.1 (xs (i + 2))))], (599900, 7296577), h1)) rfl ?_
  refine sp_m_order 36 M1 (fun h2 M2 k2 => ?_)
  show ab_W _ _ _ (343, [.retAddr 1, .ref 0, .ref 84, .int (nI i)], [.int (orderO σ.1 (stN σ.1 (xs (i + 1))) (stN σ.1 (xs (i + 2)))), .int (orderO σ.1 (stN σ.1 (xs (i + 1))) (stN σ.1 (xs (i + 2))))], (599900, 7296577), h2)
  refine ab_W.itT (mm _) (p := (orderO σ.1 (stN σ.1 (xs (i + 1))) (stN σ.1 (xs (i + 2)))) = (orderO σ.1 (stN σ.1 (xs (i + 1))) (stN σ.1 (xs (i + 2))))) (c1 := (661, [.retAddr 1, .ref 0, .ref 84, .int (nI i)], [], (599900, 7296577), h2)) (c2 := (346, [.retAddr 1, .ref 0, .ref 84, .int (nI i)], [], (599900, 7296577), h2)) rfl (rfl) ?_
  exact K h2 σ ⟨C1.kept k2, M2, hI⟩
theorem lc_knows {L : Nat} {xs : Nat → Int32} {i : Nat} {h : ab_H} {σ : Sg} (hL : L ≤ 1536) (hi : i + 3 ≤ L) (ok : okL h σ) (K : ∀ h' σ', okL h' σ' → lwW L xs i 661 [] h') : lwW L xs i 348 [] h := by
  obtain ⟨hR, hM, hI⟩ := ok
  refine ab_W.go (mm _) 5 (c' := (353, [.retAddr 1, .ref 0, .ref 84, .int (nI i)], [.int ((nI i) + (nI 1)), .retAddr 1, .ref 0], (599900, 7296577), h)) rfl ?_
  refine ab_W.topi (nI_add i 1) ?_
  refine ab_W.sald (mm _) (j := i + 1) rfl (by omega) hL rfl ?_
  show ab_W _ _ _ (354, [.retAddr 1, .ref 0, .ref 84, .int (nI i)], [.int (xs (i + 1)), .ref 0], (599900, 7296577), h)
  refine ab_W.go (mm _) 4 (c' := (358, [.retAddr 1, .ref 0, .ref 84, .int (nI i)], [.int ((nI i) + (nI 2)), .retAddr 1, .int (xs (i + 1)), .ref 0], (599900, 7296577), h)) rfl ?_
  refine ab_W.topi (nI_add i 2) ?_
  refine ab_W.sald (mm _) (j := i + 2) rfl (by omega) hL rfl ?_
  show ab_W _ _ _ (359, [.retAddr 1, .ref 0, .ref 84, .int (nI i)], [.int (xs (i + 2)), .int (xs (i + 1)), .ref 0], (599900, 7296577), h)
  refine ab_W.callV (mm _) (hR.1) rfl (k := 50) (av := [.ref 0, .int (xs (i + 1)), .int (xs (i + 2))]) (c' := (362, [.retAddr 1, .ref 0, .ref 84, .int (nI i)], [], (599900, 7296577), h)) rfl ?_
  refine sp_knows 37 hR hI.1.1 (fun h1 C1 k1 => ?_)
  have M1 := hM.kept k1
  obtain ⟨sz, op, m0⟩ := M1.1
  show ab_W _ _ _ (362, [.retAddr 1, .ref 0, .ref 84, .int (nI i)], [.int (knowsO σ.1 (xs (i + 2)) (stN σ.1 (xs (i + 1))))], (599900, 7296577), h1)
  refine ab_W.go (mm _) 5 (c' := (367, [.retAddr 1, .ref 0, .ref 84, .int (nI i)], [.int ((nI i) + (nI 1)), .retAddr 1, .ref 84, .int (knowsO σ.1 (xs (i + 2)) (stN σ.1 (xs (i + 1))))], (599900, 7296577), h1)) rfl ?_
  refine ab_W.topi (nI_add i 1) ?_
  refine ab_W.sald (mm _) (j := i + 1) rfl (by omega) hL rfl ?_
  show ab_W _ _ _ (368, [.retAddr 1, .ref 0, .ref 84, .int (nI i)], [.int (xs (i + 1)), .ref 84, .int (knowsO σ.1 (xs (i + 2)) (stN σ.1 (xs (i + 1))))], (599900, 7296577), h1)
  refine ab_W.go (mm _) 4 (c' := (372, [.retAddr 1, .ref 0, .ref 84, .int (nI i)], [.int ((nI i) + (nI 2)), .retAddr 1, .int (xs (i + 1)), .ref 84, .int (knowsO σ.1 (xs (i + 2)) (stN σ.1 (xs (i + 1))))], (599900, 7296577), h1)) rfl ?_
  refine ab_W.topi (nI_add i 2) ?_
  refine ab_W.sald (mm _) (j := i + 2) rfl (by omega) hL rfl ?_
  show ab_W _ _ _ (373, [.retAddr 1, .ref 0, .ref 84, .int (nI i)], [.int (xs (i + 2)), .int (xs (i + 1)), .ref 84, .int (knowsO σ.1 (xs (i + 2)) (stN σ.1 (xs (i + 1))))], (599900, 7296577), h1)
  refine ab_W.callV (mm _) (m0) rfl (k := 101) (av := [.ref 84, .int (xs (i + 1)), .int (xs (i + 2))]) (c' := (376, [.retAddr 1, .ref 0, .ref 84, .int (nI i)], [.int (knowsO σ.1 (xs (i + 2)) (stN σ.1 (xs (i + 1))))], (599900, 7296577), h1)) rfl ?_
  refine sp_m_knows 36 M1 hI.1.1 (fun h2 M2 k2 => ?_)
  show ab_W _ _ _ (376, [.retAddr 1, .ref 0, .ref 84, .int (nI i)], [.int (knowsO σ.1 (xs (i + 2)) (stN σ.1 (xs (i + 1)))), .int (knowsO σ.1 (xs (i + 2)) (stN σ.1 (xs (i + 1))))], (599900, 7296577), h2)
  refine ab_W.itT (mm _) (p := (knowsO σ.1 (xs (i + 2)) (stN σ.1 (xs (i + 1)))) = (knowsO σ.1 (xs (i + 2)) (stN σ.1 (xs (i + 1))))) (c1 := (661, [.retAddr 1, .ref 0, .ref 84, .int (nI i)], [], (599900, 7296577), h2)) (c2 := (379, [.retAddr 1, .ref 0, .ref 84, .int (nI i)], [], (599900, 7296577), h2)) rfl (rfl) ?_
  exact K h2 σ ⟨C1.kept k2, M2, hI⟩
theorem lc_height {L : Nat} {xs : Nat → Int32} {i : Nat} {h : ab_H} {σ : Sg} (hL : L ≤ 1536) (hi : i + 3 ≤ L) (ok : okL h σ) (K : ∀ h' σ', okL h' σ' → lwW L xs i 661 [] h') : lwW L xs i 381 [] h := by
  obtain ⟨hR, hM, hI⟩ := ok
  refine ab_W.go (mm _) 5 (c' := (386, [.retAddr 1, .ref 0, .ref 84, .int (nI i)], [.int ((nI i) + (nI 1)), .retAddr 1, .ref 0], (599900, 7296577), h)) rfl ?_
  refine ab_W.topi (nI_add i 1) ?_
  refine ab_W.sald (mm _) (j := i + 1) rfl (by omega) hL rfl ?_
  show ab_W _ _ _ (387, [.retAddr 1, .ref 0, .ref 84, .int (nI i)], [.int (xs (i + 1)), .ref 0], (599900, 7296577), h)
  refine ab_W.go (mm _) 4 (c' := (391, [.retAddr 1, .ref 0, .ref 84, .int (nI i)], [.int ((nI i) + (nI 2)), .retAddr 1, .int (xs (i + 1)), .ref 0], (599900, 7296577), h)) rfl ?_
  refine ab_W.topi (nI_add i 2) ?_
  refine ab_W.sald (mm _) (j := i + 2) rfl (by omega) hL rfl ?_
  show ab_W _ _ _ (392, [.retAddr 1, .ref 0, .ref 84, .int (nI i)], [.int (xs (i + 2)), .int (xs (i + 1)), .ref 0], (599900, 7296577), h)
  refine ab_W.callV (mm _) (hR.1) rfl (k := 51) (av := [.ref 0, .int (xs (i + 1)), .int (xs (i + 2))]) (c' := (395, [.retAddr 1, .ref 0, .ref 84, .int (nI i)], [], (599900, 7296577), h)) rfl ?_
  refine sp_height 37 hR (fun h1 C1 k1 => ?_)
  have M1 := hM.kept k1
  obtain ⟨sz, op, m0⟩ := M1.1
  show ab_W _ _ _ (395, [.retAddr 1, .ref 0, .ref 84, .int (nI i)], [.int (heightO σ.1 (xs (i + 2)) (stN σ.1 (xs (i + 1))))], (599900, 7296577), h1)
  refine ab_W.go (mm _) 5 (c' := (400, [.retAddr 1, .ref 0, .ref 84, .int (nI i)], [.int ((nI i) + (nI 1)), .retAddr 1, .ref 84, .int (heightO σ.1 (xs (i + 2)) (stN σ.1 (xs (i + 1))))], (599900, 7296577), h1)) rfl ?_
  refine ab_W.topi (nI_add i 1) ?_
  refine ab_W.sald (mm _) (j := i + 1) rfl (by omega) hL rfl ?_
  show ab_W _ _ _ (401, [.retAddr 1, .ref 0, .ref 84, .int (nI i)], [.int (xs (i + 1)), .ref 84, .int (heightO σ.1 (xs (i + 2)) (stN σ.1 (xs (i + 1))))], (599900, 7296577), h1)
  refine ab_W.go (mm _) 4 (c' := (405, [.retAddr 1, .ref 0, .ref 84, .int (nI i)], [.int ((nI i) + (nI 2)), .retAddr 1, .int (xs (i + 1)), .ref 84, .int (heightO σ.1 (xs (i + 2)) (stN σ.1 (xs (i + 1))))], (599900, 7296577), h1)) rfl ?_
  refine ab_W.topi (nI_add i 2) ?_
  refine ab_W.sald (mm _) (j := i + 2) rfl (by omega) hL rfl ?_
  show ab_W _ _ _ (406, [.retAddr 1, .ref 0, .ref 84, .int (nI i)], [.int (xs (i + 2)), .int (xs (i + 1)), .ref 84, .int (heightO σ.1 (xs (i + 2)) (stN σ.1 (xs (i + 1))))], (599900, 7296577), h1)
  refine ab_W.callV (mm _) (m0) rfl (k := 102) (av := [.ref 84, .int (xs (i + 1)), .int (xs (i + 2))]) (c' := (409, [.retAddr 1, .ref 0, .ref 84, .int (nI i)], [.int (heightO σ.1 (xs (i + 2)) (stN σ.1 (xs (i + 1))))], (599900, 7296577), h1)) rfl ?_
  refine sp_m_height 36 M1 (fun h2 M2 k2 => ?_)
  show ab_W _ _ _ (409, [.retAddr 1, .ref 0, .ref 84, .int (nI i)], [.int (heightO σ.1 (xs (i + 2)) (stN σ.1 (xs (i + 1)))), .int (heightO σ.1 (xs (i + 2)) (stN σ.1 (xs (i + 1))))], (599900, 7296577), h2)
  refine ab_W.itT (mm _) (p := (heightO σ.1 (xs (i + 2)) (stN σ.1 (xs (i + 1)))) = (heightO σ.1 (xs (i + 2)) (stN σ.1 (xs (i + 1))))) (c1 := (661, [.retAddr 1, .ref 0, .ref 84, .int (nI i)], [], (599900, 7296577), h2)) (c2 := (412, [.retAddr 1, .ref 0, .ref 84, .int (nI i)], [], (599900, 7296577), h2)) rfl (rfl) ?_
  exact K h2 σ ⟨C1.kept k2, M2, hI⟩
theorem lc_owner {L : Nat} {xs : Nat → Int32} {i : Nat} {h : ab_H} {σ : Sg} (hL : L ≤ 1536) (hi : i + 3 ≤ L) (ok : okL h σ) (K : ∀ h' σ', okL h' σ' → lwW L xs i 661 [] h') : lwW L xs i 414 [] h := by
  obtain ⟨hR, hM, hI⟩ := ok
  refine ab_W.go (mm _) 5 (c' := (419, [.retAddr 1, .ref 0, .ref 84, .int (nI i)], [.int ((nI i) + (nI 1)), .retAddr 1, .ref 0], (599900, 7296577), h)) rfl ?_
  refine ab_W.topi (nI_add i 1) ?_
  refine ab_W.sald (mm _) (j := i + 1) rfl (by omega) hL rfl ?_
  show ab_W _ _ _ (420, [.retAddr 1, .ref 0, .ref 84, .int (nI i)], [.int (xs (i + 1)), .ref 0], (599900, 7296577), h)
  refine ab_W.callV (mm _) (hR.1) rfl (k := 52) (av := [.ref 0, .int (xs (i + 1))]) (c' := (423, [.retAddr 1, .ref 0, .ref 84, .int (nI i)], [], (599900, 7296577), h)) rfl ?_
  refine sp_owner 37 hR hI.1.2 (fun h1 C1 k1 => ?_)
  have M1 := hM.kept k1
  obtain ⟨sz, op, m0⟩ := M1.1
  show ab_W _ _ _ (423, [.retAddr 1, .ref 0, .ref 84, .int (nI i)], [.int (ownF σ.1 (xs (i + 1)))], (599900, 7296577), h1)
  refine ab_W.go (mm _) 5 (c' := (428, [.retAddr 1, .ref 0, .ref 84, .int (nI i)], [.int ((nI i) + (nI 1)), .retAddr 1, .ref 84, .int (ownF σ.1 (xs (i + 1)))], (599900, 7296577), h1)) rfl ?_
  refine ab_W.topi (nI_add i 1) ?_
  refine ab_W.sald (mm _) (j := i + 1) rfl (by omega) hL rfl ?_
  show ab_W _ _ _ (429, [.retAddr 1, .ref 0, .ref 84, .int (nI i)], [.int (xs (i + 1)), .ref 84, .int (ownF σ.1 (xs (i + 1)))], (599900, 7296577), h1)
  refine ab_W.callV (mm _) (m0) rfl (k := 103) (av := [.ref 84, .int (xs (i + 1))]) (c' := (432, [.retAddr 1, .ref 0, .ref 84, .int (nI i)], [.int (ownF σ.1 (xs (i + 1)))], (599900, 7296577), h1)) rfl ?_
  refine sp_m_owner 37 M1 hI.1.2 (fun h2 M2 k2 => ?_)
  show ab_W _ _ _ (432, [.retAddr 1, .ref 0, .ref 84, .int (nI i)], [.int (ownF σ.1 (xs (i + 1))), .int (ownF σ.1 (xs (i + 1)))], (599900, 7296577), h2)
  refine ab_W.itT (mm _) (p := (ownF σ.1 (xs (i + 1))) = (ownF σ.1 (xs (i + 1)))) (c1 := (661, [.retAddr 1, .ref 0, .ref 84, .int (nI i)], [], (599900, 7296577), h2)) (c2 := (435, [.retAddr 1, .ref 0, .ref 84, .int (nI i)], [], (599900, 7296577), h2)) rfl (rfl) ?_
  exact K h2 σ ⟨C1.kept k2, M2, hI⟩
theorem lc_name {L : Nat} {xs : Nat → Int32} {i : Nat} {h : ab_H} {σ : Sg} (hL : L ≤ 1536) (hi : i + 3 ≤ L) (ok : okL h σ) (K : ∀ h' σ', okL h' σ' → lwW L xs i 661 [] h') : lwW L xs i 437 [] h := by
  obtain ⟨hR, hM, hI⟩ := ok
  refine ab_W.go (mm _) 5 (c' := (442, [.retAddr 1, .ref 0, .ref 84, .int (nI i)], [.int ((nI i) + (nI 1)), .retAddr 1, .ref 0], (599900, 7296577), h)) rfl ?_
  refine ab_W.topi (nI_add i 1) ?_
  refine ab_W.sald (mm _) (j := i + 1) rfl (by omega) hL rfl ?_
  show ab_W _ _ _ (443, [.retAddr 1, .ref 0, .ref 84, .int (nI i)], [.int (xs (i + 1)), .ref 0], (599900, 7296577), h)
  refine ab_W.go (mm _) 4 (c' := (447, [.retAddr 1, .ref 0, .ref 84, .int (nI i)], [.int ((nI i) + (nI 2)), .retAddr 1, .int (xs (i + 1)), .ref 0], (599900, 7296577), h)) rfl ?_
  refine ab_W.topi (nI_add i 2) ?_
  refine ab_W.sald (mm _) (j := i + 2) rfl (by omega) hL rfl ?_
  show ab_W _ _ _ (448, [.retAddr 1, .ref 0, .ref 84, .int (nI i)], [.int (xs (i + 2)), .int (xs (i + 1)), .ref 0], (599900, 7296577), h)
  refine ab_W.callV (mm _) (hR.1) rfl (k := 53) (av := [.ref 0, .int (xs (i + 1)), .int (xs (i + 2))]) (c' := (451, [.retAddr 1, .ref 0, .ref 84, .int (nI i)], [], (599900, 7296577), h)) rfl ?_
  refine sp_name 27 hR (fun h1 C1 k1 => ?_)
  have M1 := hM.kept k1
  obtain ⟨sz, op, m0⟩ := M1.1
  show ab_W _ _ _ (451, [.retAddr 1, .ref 0, .ref 84, .int (nI i)], [.int (nameO σ.1 (xs (i + 2)) (stN σ.1 (xs (i + 1))))], (599900, 7296577), h1)
  refine ab_W.go (mm _) 5 (c' := (456, [.retAddr 1, .ref 0, .ref 84, .int (nI i)], [.int ((nI i) + (nI 1)), .retAddr 1, .ref 84, .int (nameO σ.1 (xs (i + 2)) (stN σ.1 (xs (i + 1))))], (599900, 7296577), h1)) rfl ?_
  refine ab_W.topi (nI_add i 1) ?_
  refine ab_W.sald (mm _) (j := i + 1) rfl (by omega) hL rfl ?_
  show ab_W _ _ _ (457, [.retAddr 1, .ref 0, .ref 84, .int (nI i)], [.int (xs (i + 1)), .ref 84, .int (nameO σ.1 (xs (i + 2)) (stN σ.1 (xs (i + 1))))], (599900, 7296577), h1)
  refine ab_W.go (mm _) 4 (c' := (461, [.retAddr 1, .ref 0, .ref 84, .int (nI i)], [.int ((nI i) + (nI 2)), .retAddr 1, .int (xs (i + 1)), .ref 84, .int (nameO σ.1 (xs (i + 2)) (stN σ.1 (xs (i + 1))))], (599900, 7296577), h1)) rfl ?_
  refine ab_W.topi (nI_add i 2) ?_
  refine ab_W.sald (mm _) (j := i + 2) rfl (by omega) hL rfl ?_
  show ab_W _ _ _ (462, [.retAddr 1, .ref 0, .ref 84, .int (nI i)], [.int (xs (i + 2)), .int (xs (i + 1)), .ref 84, .int (nameO σ.1 (xs (i + 2)) (stN σ.1 (xs (i + 1))))], (599900, 7296577), h1)
  refine ab_W.callV (mm _) (m0) rfl (k := 109) (av := [.ref 84, .int (xs (i + 1)), .int (xs (i + 2))]) (c' := (465, [.retAddr 1, .ref 0, .ref 84, .int (nI i)], [.int (nameO σ.1 (xs (i + 2)) (stN σ.1 (xs (i + 1))))], (599900, 7296577), h1)) rfl ?_
  refine sp_m_name 32 M1 (fun h2 M2 k2 => ?_)
  show ab_W _ _ _ (465, [.retAddr 1, .ref 0, .ref 84, .int (nI i)], [.int (nameO σ.1 (xs (i + 2)) (stN σ.1 (xs (i + 1)))), .int (nameO σ.1 (xs (i + 2)) (stN σ.1 (xs (i + 1))))], (599900, 7296577), h2)
  refine ab_W.itT (mm _) (p := (nameO σ.1 (xs (i + 2)) (stN σ.1 (xs (i + 1)))) = (nameO σ.1 (xs (i + 2)) (stN σ.1 (xs (i + 1))))) (c1 := (661, [.retAddr 1, .ref 0, .ref 84, .int (nI i)], [], (599900, 7296577), h2)) (c2 := (468, [.retAddr 1, .ref 0, .ref 84, .int (nI i)], [], (599900, 7296577), h2)) rfl (rfl) ?_
  exact K h2 σ ⟨C1.kept k2, M2, hI⟩
theorem lc_tree {L : Nat} {xs : Nat → Int32} {i : Nat} {h : ab_H} {σ : Sg} (hL : L ≤ 1536) (hi : i + 3 ≤ L) (ok : okL h σ) (K : ∀ h' σ', okL h' σ' → lwW L xs i 661 [] h') : lwW L xs i 470 [] h := by
  obtain ⟨hR, hM, hI⟩ := ok
  refine ab_W.go (mm _) 5 (c' := (475, [.retAddr 1, .ref 0, .ref 84, .int (nI i)], [.int ((nI i) + (nI 1)), .retAddr 1, .ref 0], (599900, 7296577), h)) rfl ?_
  refine ab_W.topi (nI_add i 1) ?_
  refine ab_W.sald (mm _) (j := i + 1) rfl (by omega) hL rfl ?_
  show ab_W _ _ _ (476, [.retAddr 1, .ref 0, .ref 84, .int (nI i)], [.int (xs (i + 1)), .ref 0], (599900, 7296577), h)
  refine ab_W.go (mm _) 4 (c' := (480, [.retAddr 1, .ref 0, .ref 84, .int (nI i)], [.int ((nI i) + (nI 2)), .retAddr 1, .int (xs (i + 1)), .ref 0], (599900, 7296577), h)) rfl ?_
  refine ab_W.topi (nI_add i 2) ?_
  refine ab_W.sald (mm _) (j := i + 2) rfl (by omega) hL rfl ?_
  show ab_W _ _ _ (481, [.retAddr 1, .ref 0, .ref 84, .int (nI i)], [.int (xs (i + 2)), .int (xs (i + 1)), .ref 0], (599900, 7296577), h)
  refine ab_W.callV (mm _) (hR.1) rfl (k := 54) (av := [.ref 0, .int (xs (i + 1)), .int (xs (i + 2))]) (c' := (484, [.retAddr 1, .ref 0, .ref 84, .int (nI i)], [], (599900, 7296577), h)) rfl ?_
  refine sp_tree 27 hR (fun h1 C1 k1 => ?_)
  have M1 := hM.kept k1
  obtain ⟨sz, op, m0⟩ := M1.1
  show ab_W _ _ _ (484, [.retAddr 1, .ref 0, .ref 84, .int (nI i)], [.int (treeO σ.1 (xs (i + 2)) (stN σ.1 (xs (i + 1))))], (599900, 7296577), h1)
  refine ab_W.go (mm _) 5 (c' := (489, [.retAddr 1, .ref 0, .ref 84, .int (nI i)], [.int ((nI i) + (nI 1)), .retAddr 1, .ref 84, .int (treeO σ.1 (xs (i + 2)) (stN σ.1 (xs (i + 1))))], (599900, 7296577), h1)) rfl ?_
  refine ab_W.topi (nI_add i 1) ?_
  refine ab_W.sald (mm _) (j := i + 1) rfl (by omega) hL rfl ?_
  show ab_W _ _ _ (490, [.retAddr 1, .ref 0, .ref 84, .int (nI i)], [.int (xs (i + 1)), .ref 84, .int (treeO σ.1 (xs (i + 2)) (stN σ.1 (xs (i + 1))))], (599900, 7296577), h1)
  refine ab_W.go (mm _) 4 (c' := (494, [.retAddr 1, .ref 0, .ref 84, .int (nI i)], [.int ((nI i) + (nI 2)), .retAddr 1, .int (xs (i + 1)), .ref 84, .int (treeO σ.1 (xs (i + 2)) (stN σ.1 (xs (i + 1))))], (599900, 7296577), h1)) rfl ?_
  refine ab_W.topi (nI_add i 2) ?_
  refine ab_W.sald (mm _) (j := i + 2) rfl (by omega) hL rfl ?_
  show ab_W _ _ _ (495, [.retAddr 1, .ref 0, .ref 84, .int (nI i)], [.int (xs (i + 2)), .int (xs (i + 1)), .ref 84, .int (treeO σ.1 (xs (i + 2)) (stN σ.1 (xs (i + 1))))], (599900, 7296577), h1)
  refine ab_W.callV (mm _) (m0) rfl (k := 110) (av := [.ref 84, .int (xs (i + 1)), .int (xs (i + 2))]) (c' := (498, [.retAddr 1, .ref 0, .ref 84, .int (nI i)], [.int (treeO σ.1 (xs (i + 2)) (stN σ.1 (xs (i + 1))))], (599900, 7296577), h1)) rfl ?_
  refine sp_m_tree 32 M1 (fun h2 M2 k2 => ?_)
  show ab_W _ _ _ (498, [.retAddr 1, .ref 0, .ref 84, .int (nI i)], [.int (treeO σ.1 (xs (i + 2)) (stN σ.1 (xs (i + 1)))), .int (treeO σ.1 (xs (i + 2)) (stN σ.1 (xs (i + 1))))], (599900, 7296577), h2)
  refine ab_W.itT (mm _) (p := (treeO σ.1 (xs (i + 2)) (stN σ.1 (xs (i + 1)))) = (treeO σ.1 (xs (i + 2)) (stN σ.1 (xs (i + 1))))) (c1 := (661, [.retAddr 1, .ref 0, .ref 84, .int (nI i)], [], (599900, 7296577), h2)) (c2 := (501, [.retAddr 1, .ref 0, .ref 84, .int (nI i)], [], (599900, 7296577), h2)) rfl (rfl) ?_
  exact K h2 σ ⟨C1.kept k2, M2, hI⟩
theorem lc_about {L : Nat} {xs : Nat → Int32} {i : Nat} {h : ab_H} {σ : Sg} (hL : L ≤ 1536) (hi : i + 3 ≤ L) (ok : okL h σ) (K : ∀ h' σ', okL h' σ' → lwW L xs i 661 [] h') : lwW L xs i 503 [] h := by
  obtain ⟨hR, hM, hI⟩ := ok
  refine ab_W.go (mm _) 5 (c' := (508, [.retAddr 1, .ref 0, .ref 84, .int (nI i)], [.int ((nI i) + (nI 1)), .retAddr 1, .ref 0], (599900, 7296577), h)) rfl ?_
  refine ab_W.topi (nI_add i 1) ?_
  refine ab_W.sald (mm _) (j := i + 1) rfl (by omega) hL rfl ?_
  show ab_W _ _ _ (509, [.retAddr 1, .ref 0, .ref 84, .int (nI i)], [.int (xs (i + 1)), .ref 0], (599900, 7296577), h)
  refine ab_W.go (mm _) 4 (c' := (513, [.retAddr 1, .ref 0, .ref 84, .int (nI i)], [.int ((nI i) + (nI 2)), .retAddr 1, .int (xs (i + 1)), .ref 0], (599900, 7296577), h)) rfl ?_
  refine ab_W.topi (nI_add i 2) ?_
  refine ab_W.sald (mm _) (j := i + 2) rfl (by omega) hL rfl ?_
  show ab_W _ _ _ (514, [.retAddr 1, .ref 0, .ref 84, .int (nI i)], [.int (xs (i + 2)), .int (xs (i + 1)), .ref 0], (599900, 7296577), h)
  refine ab_W.callV (mm _) (hR.1) rfl (k := 55) (av := [.ref 0, .int (xs (i + 1)), .int (xs (i + 2))]) (c' := (517, [.retAddr 1, .ref 0, .ref 84, .int (nI i)], [], (599900, 7296577), h)) rfl ?_
  refine sp_about 33 hR (fun h1 C1 k1 => ?_)
  have M1 := hM.kept k1
  obtain ⟨sz, op, m0⟩ := M1.1
  show ab_W _ _ _ (517, [.retAddr 1, .ref 0, .ref 84, .int (nI i)], [.int (aboutO σ.1 (xs (i + 2)) (stN σ.1 (xs (i + 1))))], (599900, 7296577), h1)
  refine ab_W.go (mm _) 5 (c' := (522, [.retAddr 1, .ref 0, .ref 84, .int (nI i)], [.int ((nI i) + (nI 1)), .retAddr 1, .ref 84, .int (aboutO σ.1 (xs (i + 2)) (stN σ.1 (xs (i + 1))))], (599900, 7296577), h1)) rfl ?_
  refine ab_W.topi (nI_add i 1) ?_
  refine ab_W.sald (mm _) (j := i + 1) rfl (by omega) hL rfl ?_
  show ab_W _ _ _ (523, [.retAddr 1, .ref 0, .ref 84, .int (nI i)], [.int (xs (i + 1)), .ref 84, .int (aboutO σ.1 (xs (i + 2)) (stN σ.1 (xs (i + 1))))], (599900, 7296577), h1)
  refine ab_W.go (mm _) 4 (c' := (527, [.retAddr 1, .ref 0, .ref 84, .int (nI i)], [.int ((nI i) + (nI 2)), .retAddr 1, .int (xs (i + 1)), .ref 84, .int (aboutO σ.1 (xs (i + 2)) (stN σ.1 (xs (i + 1))))], (599900, 7296577), h1)) rfl ?_
  refine ab_W.topi (nI_add i 2) ?_
  refine ab_W.sald (mm _) (j := i + 2) rfl (by omega) hL rfl ?_
  show ab_W _ _ _ (528, [.retAddr 1, .ref 0, .ref 84, .int (nI i)], [.int (xs (i + 2)), .int (xs (i + 1)), .ref 84, .int (aboutO σ.1 (xs (i + 2)) (stN σ.1 (xs (i + 1))))], (599900, 7296577), h1)
  refine ab_W.callV (mm _) (m0) rfl (k := 112) (av := [.ref 84, .int (xs (i + 1)), .int (xs (i + 2))]) (c' := (531, [.retAddr 1, .ref 0, .ref 84, .int (nI i)], [.int (aboutO σ.1 (xs (i + 2)) (stN σ.1 (xs (i + 1))))], (599900, 7296577), h1)) rfl ?_
  refine sp_m_about 32 M1 (fun h2 M2 k2 => ?_)
  show ab_W _ _ _ (531, [.retAddr 1, .ref 0, .ref 84, .int (nI i)], [.int (aboutO σ.1 (xs (i + 2)) (stN σ.1 (xs (i + 1)))), .int (aboutO σ.1 (xs (i + 2)) (stN σ.1 (xs (i + 1))))], (599900, 7296577), h2)
  refine ab_W.itT (mm _) (p := (aboutO σ.1 (xs (i + 2)) (stN σ.1 (xs (i + 1)))) = (aboutO σ.1 (xs (i + 2)) (stN σ.1 (xs (i + 1))))) (c1 := (661, [.retAddr 1, .ref 0, .ref 84, .int (nI i)], [], (599900, 7296577), h2)) (c2 := (534, [.retAddr 1, .ref 0, .ref 84, .int (nI i)], [], (599900, 7296577), h2)) rfl (rfl) ?_
  exact K h2 σ ⟨C1.kept k2, M2, hI⟩
theorem lc_growth {L : Nat} {xs : Nat → Int32} {i : Nat} {h : ab_H} {σ : Sg} (hL : L ≤ 1536) (hi : i + 3 ≤ L) (ok : okL h σ) (K : ∀ h' σ', okL h' σ' → lwW L xs i 661 [] h') : lwW L xs i 536 [] h := by
  obtain ⟨hR, hM, hI⟩ := ok
  refine ab_W.go (mm _) 5 (c' := (541, [.retAddr 1, .ref 0, .ref 84, .int (nI i)], [.int ((nI i) + (nI 1)), .retAddr 1, .ref 0], (599900, 7296577), h)) rfl ?_
  refine ab_W.topi (nI_add i 1) ?_
  refine ab_W.sald (mm _) (j := i + 1) rfl (by omega) hL rfl ?_
  show ab_W _ _ _ (542, [.retAddr 1, .ref 0, .ref 84, .int (nI i)], [.int (xs (i + 1)), .ref 0], (599900, 7296577), h)
  refine ab_W.go (mm _) 4 (c' := (546, [.retAddr 1, .ref 0, .ref 84, .int (nI i)], [.int ((nI i) + (nI 2)), .retAddr 1, .int (xs (i + 1)), .ref 0], (599900, 7296577), h)) rfl ?_
  refine ab_W.topi (nI_add i 2) ?_
  refine ab_W.sald (mm _) (j := i + 2) rfl (by omega) hL rfl ?_
  show ab_W _ _ _ (547, [.retAddr 1, .ref 0, .ref 84, .int (nI i)], [.int (xs (i + 2)), .int (xs (i + 1)), .ref 0], (599900, 7296577), h)
  refine ab_W.callV (mm _) (hR.1) rfl (k := 56) (av := [.ref 0, .int (xs (i + 1)), .int (xs (i + 2))]) (c' := (550, [.retAddr 1, .ref 0, .ref 84, .int (nI i)], [], (599900, 7296577), h)) rfl ?_
  refine sp_growth 27 hR (fun h1 C1 k1 => ?_)
  have M1 := hM.kept k1
  obtain ⟨sz, op, m0⟩ := M1.1
  show ab_W _ _ _ (550, [.retAddr 1, .ref 0, .ref 84, .int (nI i)], [.int (growthO σ.1 (xs (i + 2)) (stN σ.1 (xs (i + 1))))], (599900, 7296577), h1)
  refine ab_W.go (mm _) 5 (c' := (555, [.retAddr 1, .ref 0, .ref 84, .int (nI i)], [.int ((nI i) + (nI 1)), .retAddr 1, .ref 84, .int (growthO σ.1 (xs (i + 2)) (stN σ.1 (xs (i + 1))))], (599900, 7296577), h1)) rfl ?_
  refine ab_W.topi (nI_add i 1) ?_
  refine ab_W.sald (mm _) (j := i + 1) rfl (by omega) hL rfl ?_
  show ab_W _ _ _ (556, [.retAddr 1, .ref 0, .ref 84, .int (nI i)], [.int (xs (i + 1)), .ref 84, .int (growthO σ.1 (xs (i + 2)) (stN σ.1 (xs (i + 1))))], (599900, 7296577), h1)
  refine ab_W.go (mm _) 4 (c' := (560, [.retAddr 1, .ref 0, .ref 84, .int (nI i)], [.int ((nI i) + (nI 2)), .retAddr 1, .int (xs (i + 1)), .ref 84, .int (growthO σ.1 (xs (i + 2)) (stN σ.1 (xs (i + 1))))], (599900, 7296577), h1)) rfl ?_
  refine ab_W.topi (nI_add i 2) ?_
  refine ab_W.sald (mm _) (j := i + 2) rfl (by omega) hL rfl ?_
  show ab_W _ _ _ (561, [.retAddr 1, .ref 0, .ref 84, .int (nI i)], [.int (xs (i + 2)), .int (xs (i + 1)), .ref 84, .int (growthO σ.1 (xs (i + 2)) (stN σ.1 (xs (i + 1))))], (599900, 7296577), h1)
  refine ab_W.callV (mm _) (m0) rfl (k := 113) (av := [.ref 84, .int (xs (i + 1)), .int (xs (i + 2))]) (c' := (564, [.retAddr 1, .ref 0, .ref 84, .int (nI i)], [.int (growthO σ.1 (xs (i + 2)) (stN σ.1 (xs (i + 1))))], (599900, 7296577), h1)) rfl ?_
  refine sp_m_growth 31 M1 (fun h2 M2 k2 => ?_)
  show ab_W _ _ _ (564, [.retAddr 1, .ref 0, .ref 84, .int (nI i)], [.int (growthO σ.1 (xs (i + 2)) (stN σ.1 (xs (i + 1)))), .int (growthO σ.1 (xs (i + 2)) (stN σ.1 (xs (i + 1))))], (599900, 7296577), h2)
  refine ab_W.itT (mm _) (p := (growthO σ.1 (xs (i + 2)) (stN σ.1 (xs (i + 1)))) = (growthO σ.1 (xs (i + 2)) (stN σ.1 (xs (i + 1))))) (c1 := (661, [.retAddr 1, .ref 0, .ref 84, .int (nI i)], [], (599900, 7296577), h2)) (c2 := (567, [.retAddr 1, .ref 0, .ref 84, .int (nI i)], [], (599900, 7296577), h2)) rfl (rfl) ?_
  exact K h2 σ ⟨C1.kept k2, M2, hI⟩
theorem lc_unlike {L : Nat} {xs : Nat → Int32} {i : Nat} {h : ab_H} {σ : Sg} (hL : L ≤ 1536) (hi : i + 3 ≤ L) (ok : okL h σ) (K : ∀ h' σ', okL h' σ' → lwW L xs i 661 [] h') : lwW L xs i 569 [] h := by
  obtain ⟨hR, hM, hI⟩ := ok
  refine ab_W.go (mm _) 5 (c' := (574, [.retAddr 1, .ref 0, .ref 84, .int (nI i)], [.int ((nI i) + (nI 1)), .retAddr 1, .ref 0], (599900, 7296577), h)) rfl ?_
  refine ab_W.topi (nI_add i 1) ?_
  refine ab_W.sald (mm _) (j := i + 1) rfl (by omega) hL rfl ?_
  show ab_W _ _ _ (575, [.retAddr 1, .ref 0, .ref 84, .int (nI i)], [.int (xs (i + 1)), .ref 0], (599900, 7296577), h)
  refine ab_W.callV (mm _) (hR.1) rfl (k := 57) (av := [.ref 0, .int (xs (i + 1))]) (c' := (578, [.retAddr 1, .ref 0, .ref 84, .int (nI i)], [], (599900, 7296577), h)) rfl ?_
  refine sp_unlike 35 hR (fun h1 C1 k1 => ?_)
  have M1 := hM.kept k1
  obtain ⟨sz, op, m0⟩ := M1.1
  show ab_W _ _ _ (578, [.retAddr 1, .ref 0, .ref 84, .int (nI i)], [.int (unF σ.1 (xs (i + 1)))], (599900, 7296577), h1)
  refine ab_W.go (mm _) 5 (c' := (583, [.retAddr 1, .ref 0, .ref 84, .int (nI i)], [.int ((nI i) + (nI 1)), .retAddr 1, .ref 84, .int (unF σ.1 (xs (i + 1)))], (599900, 7296577), h1)) rfl ?_
  refine ab_W.topi (nI_add i 1) ?_
  refine ab_W.sald (mm _) (j := i + 1) rfl (by omega) hL rfl ?_
  show ab_W _ _ _ (584, [.retAddr 1, .ref 0, .ref 84, .int (nI i)], [.int (xs (i + 1)), .ref 84, .int (unF σ.1 (xs (i + 1)))], (599900, 7296577), h1)
  refine ab_W.callV (mm _) (m0) rfl (k := 116) (av := [.ref 84, .int (xs (i + 1))]) (c' := (587, [.retAddr 1, .ref 0, .ref 84, .int (nI i)], [.int (unF σ.1 (xs (i + 1)))], (599900, 7296577), h1)) rfl ?_
  refine sp_m_unlike 37 M1 (fun h2 M2 k2 => ?_)
  show ab_W _ _ _ (587, [.retAddr 1, .ref 0, .ref 84, .int (nI i)], [.int (unF σ.1 (xs (i + 1))), .int (unF σ.1 (xs (i + 1)))], (599900, 7296577), h2)
  refine ab_W.itT (mm _) (p := (unF σ.1 (xs (i + 1))) = (unF σ.1 (xs (i + 1)))) (c1 := (661, [.retAddr 1, .ref 0, .ref 84, .int (nI i)], [], (599900, 7296577), h2)) (c2 := (590, [.retAddr 1, .ref 0, .ref 84, .int (nI i)], [], (599900, 7296577), h2)) rfl (rfl) ?_
  exact K h2 σ ⟨C1.kept k2, M2, hI⟩
theorem lc_image {L : Nat} {xs : Nat → Int32} {i : Nat} {h : ab_H} {σ : Sg} (hL : L ≤ 1536) (hi : i + 3 ≤ L) (ok : okL h σ) (K : ∀ h' σ', okL h' σ' → lwW L xs i 661 [] h') : lwW L xs i 592 [] h := by
  obtain ⟨hR, hM, hI⟩ := ok
  refine ab_W.go (mm _) 5 (c' := (597, [.retAddr 1, .ref 0, .ref 84, .int (nI i)], [.int ((nI i) + (nI 1)), .retAddr 1, .ref 0], (599900, 7296577), h)) rfl ?_
  refine ab_W.topi (nI_add i 1) ?_
  refine ab_W.sald (mm _) (j := i + 1) rfl (by omega) hL rfl ?_
  show ab_W _ _ _ (598, [.retAddr 1, .ref 0, .ref 84, .int (nI i)], [.int (xs (i + 1)), .ref 0], (599900, 7296577), h)
  refine ab_W.callV (mm _) (hR.1) rfl (k := 58) (av := [.ref 0, .int (xs (i + 1))]) (c' := (601, [.retAddr 1, .ref 0, .ref 84, .int (nI i)], [], (599900, 7296577), h)) rfl ?_
  refine sp_image 36 hR (fun h1 C1 k1 => ?_)
  have M1 := hM.kept k1
  obtain ⟨sz, op, m0⟩ := M1.1
  show ab_W _ _ _ (601, [.retAddr 1, .ref 0, .ref 84, .int (nI i)], [.int ((imgF σ (xs (i + 1))).1)], (599900, 7296577), h1)
  refine ab_W.go (mm _) 5 (c' := (606, [.retAddr 1, .ref 0, .ref 84, .int (nI i)], [.int ((nI i) + (nI 1)), .retAddr 1, .ref 84, .int ((imgF σ (xs (i + 1))).1)], (599900, 7296577), h1)) rfl ?_
  refine ab_W.topi (nI_add i 1) ?_
  refine ab_W.sald (mm _) (j := i + 1) rfl (by omega) hL rfl ?_
  show ab_W _ _ _ (607, [.retAddr 1, .ref 0, .ref 84, .int (nI i)], [.int (xs (i + 1)), .ref 84, .int ((imgF σ (xs (i + 1))).1)], (599900, 7296577), h1)
  refine ab_W.callV (mm _) (m0) rfl (k := 117) (av := [.ref 84, .int (xs (i + 1))]) (c' := (610, [.retAddr 1, .ref 0, .ref 84, .int (nI i)], [.int ((imgF σ (xs (i + 1))).1)], (599900, 7296577), h1)) rfl ?_
  refine sp_m_image 38 M1 (fun h2 M2 k2 => ?_)
  show ab_W _ _ _ (610, [.retAddr 1, .ref 0, .ref 84, .int (nI i)], [.int ((imgF σ (xs (i + 1))).1), .int ((imgF σ (xs (i + 1))).1)], (599900, 7296577), h2)
  refine ab_W.itT (mm _) (p := ((imgF σ (xs (i + 1))).1) = ((imgF σ (xs (i + 1))).1)) (c1 := (661, [.retAddr 1, .ref 0, .ref 84, .int (nI i)], [], (599900, 7296577), h2)) (c2 := (613, [.retAddr 1, .ref 0, .ref 84, .int (nI i)], [], (599900, 7296577), h2)) rfl (rfl) ?_
  exact K h2 (imgF σ (xs (i + 1))).2 ⟨C1.kept k2, M2, inv_img hI⟩
theorem lc_restore {L : Nat} {xs : Nat → Int32} {i : Nat} {h : ab_H} {σ : Sg} (hL : L ≤ 1536) (hi : i + 3 ≤ L) (ok : okL h σ) (K : ∀ h' σ', okL h' σ' → lwW L xs i 661 [] h') : lwW L xs i 615 [] h := by
  obtain ⟨hR, hM, hI⟩ := ok
  refine ab_W.go (mm _) 5 (c' := (620, [.retAddr 1, .ref 0, .ref 84, .int (nI i)], [.int ((nI i) + (nI 1)), .retAddr 1, .ref 0], (599900, 7296577), h)) rfl ?_
  refine ab_W.topi (nI_add i 1) ?_
  refine ab_W.sald (mm _) (j := i + 1) rfl (by omega) hL rfl ?_
  show ab_W _ _ _ (621, [.retAddr 1, .ref 0, .ref 84, .int (nI i)], [.int (xs (i + 1)), .ref 0], (599900, 7296577), h)
  refine ab_W.callV (mm _) (hR.1) rfl (k := 59) (av := [.ref 0, .int (xs (i + 1))]) (c' := (624, [.retAddr 1, .ref 0, .ref 84, .int (nI i)], [], (599900, 7296577), h)) rfl ?_
  refine sp_restore 36 hR (fun h1 C1 k1 => ?_)
  have M1 := hM.kept k1
  obtain ⟨sz, op, m0⟩ := M1.1
  show ab_W _ _ _ (624, [.retAddr 1, .ref 0, .ref 84, .int (nI i)], [.int ((resF σ (xs (i + 1))).1)], (599900, 7296577), h1)
  refine ab_W.go (mm _) 5 (c' := (629, [.retAddr 1, .ref 0, .ref 84, .int (nI i)], [.int ((nI i) + (nI 1)), .retAddr 1, .ref 84, .int ((resF σ (xs (i + 1))).1)], (599900, 7296577), h1)) rfl ?_
  refine ab_W.topi (nI_add i 1) ?_
  refine ab_W.sald (mm _) (j := i + 1) rfl (by omega) hL rfl ?_
  show ab_W _ _ _ (630, [.retAddr 1, .ref 0, .ref 84, .int (nI i)], [.int (xs (i + 1)), .ref 84, .int ((resF σ (xs (i + 1))).1)], (599900, 7296577), h1)
  refine ab_W.callV (mm _) (m0) rfl (k := 118) (av := [.ref 84, .int (xs (i + 1))]) (c' := (633, [.retAddr 1, .ref 0, .ref 84, .int (nI i)], [.int ((resF σ (xs (i + 1))).1)], (599900, 7296577), h1)) rfl ?_
  refine sp_m_restore 38 M1 (fun h2 M2 k2 => ?_)
  show ab_W _ _ _ (633, [.retAddr 1, .ref 0, .ref 84, .int (nI i)], [.int ((resF σ (xs (i + 1))).1), .int ((resF σ (xs (i + 1))).1)], (599900, 7296577), h2)
  refine ab_W.itT (mm _) (p := ((resF σ (xs (i + 1))).1) = ((resF σ (xs (i + 1))).1)) (c1 := (661, [.retAddr 1, .ref 0, .ref 84, .int (nI i)], [], (599900, 7296577), h2)) (c2 := (636, [.retAddr 1, .ref 0, .ref 84, .int (nI i)], [], (599900, 7296577), h2)) rfl (rfl) ?_
  exact K h2 (resF σ (xs (i + 1))).2 ⟨C1.kept k2, M2, inv_res hI⟩
theorem lc_count {L : Nat} {xs : Nat → Int32} {i : Nat} {h : ab_H} {σ : Sg} (hL : L ≤ 1536) (hi : i + 3 ≤ L) (ok : okL h σ) (K : ∀ h' σ', okL h' σ' → lwW L xs i 661 [] h') : lwW L xs i 638 [] h := by
  obtain ⟨hR, hM, hI⟩ := ok
  refine ab_W.go (mm _) 5 (c' := (643, [.retAddr 1, .ref 0, .ref 84, .int (nI i)], [.int ((nI i) + (nI 1)), .retAddr 1, .ref 0], (599900, 7296577), h)) rfl ?_
  refine ab_W.topi (nI_add i 1) ?_
  refine ab_W.sald (mm _) (j := i + 1) rfl (by omega) hL rfl ?_
  show ab_W _ _ _ (644, [.retAddr 1, .ref 0, .ref 84, .int (nI i)], [.int (xs (i + 1)), .ref 0], (599900, 7296577), h)
  refine ab_W.callV (mm _) (hR.1) rfl (k := 60) (av := [.ref 0, .int (xs (i + 1))]) (c' := (647, [.retAddr 1, .ref 0, .ref 84, .int (nI i)], [], (599900, 7296577), h)) rfl ?_
  refine sp_count 36 hR (fun h1 C1 k1 => ?_)
  have M1 := hM.kept k1
  obtain ⟨sz, op, m0⟩ := M1.1
  show ab_W _ _ _ (647, [.retAddr 1, .ref 0, .ref 84, .int (nI i)], [.int (cntF σ (xs (i + 1)))], (599900, 7296577), h1)
  refine ab_W.go (mm _) 5 (c' := (652, [.retAddr 1, .ref 0, .ref 84, .int (nI i)], [.int ((nI i) + (nI 1)), .retAddr 1, .ref 84, .int (cntF σ (xs (i + 1)))], (599900, 7296577), h1)) rfl ?_
  refine ab_W.topi (nI_add i 1) ?_
  refine ab_W.sald (mm _) (j := i + 1) rfl (by omega) hL rfl ?_
  show ab_W _ _ _ (653, [.retAddr 1, .ref 0, .ref 84, .int (nI i)], [.int (xs (i + 1)), .ref 84, .int (cntF σ (xs (i + 1)))], (599900, 7296577), h1)
  refine ab_W.callV (mm _) (m0) rfl (k := 120) (av := [.ref 84, .int (xs (i + 1))]) (c' := (656, [.retAddr 1, .ref 0, .ref 84, .int (nI i)], [.int (cntF σ (xs (i + 1)))], (599900, 7296577), h1)) rfl ?_
  refine sp_m_count 38 M1 (fun h2 M2 k2 => ?_)
  show ab_W _ _ _ (656, [.retAddr 1, .ref 0, .ref 84, .int (nI i)], [.int (cntF σ (xs (i + 1))), .int (cntF σ (xs (i + 1)))], (599900, 7296577), h2)
  refine ab_W.itT (mm _) (p := (cntF σ (xs (i + 1))) = (cntF σ (xs (i + 1)))) (c1 := (661, [.retAddr 1, .ref 0, .ref 84, .int (nI i)], [], (599900, 7296577), h2)) (c2 := (659, [.retAddr 1, .ref 0, .ref 84, .int (nI i)], [], (599900, 7296577), h2)) rfl (rfl) ?_
  exact K h2 σ ⟨C1.kept k2, M2, hI⟩
