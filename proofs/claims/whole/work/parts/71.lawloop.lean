/-! THE LAW -/
theorem sub3 {L i : Nat} (hL : L ≤ 1536) (hi : i ≤ 2000) : nI L - nI 3 < nI i ↔ L < i + 3 := by
  rcases Nat.lt_or_ge L 3 with q | q
  · have n : nI L - nI 3 < 0 := by
      match L, q with
      | 0, _ => decide
      | 1, _ => decide
      | 2, _ => decide
    exact ⟨fun _ => by omega, fun _ => Int32.lt_of_lt_of_le n (nI_pos' (by omega))⟩
  · obtain ⟨m, rfl⟩ : ∃ m, L = m + 3 := ⟨L - 3, by omega⟩
    rw [← nI_add m 3, Int32.add_sub_cancel, nI_ltI (by omega) (by omega)]
    omega
theorem lw_loop {L : Nat} {xs : Nat → Int32} (hL : L ≤ 1536) : ∀ (n i : Nat) (h : ab_H) (σ : Sg), L ≤ i + n → i ≤ L + 3 → okL h σ → lwW L xs i 18 [] h := by
  intro n
  induction n with
  | zero =>
    intro i h σ hn hi ok
    refine ab_W.go (mm _) 2 (c' := (20, [.retAddr 1, .ref 0, .ref 84, .int (nI i)], [.retAddr 1, .int (nI i)], (599900, 7296577), h)) rfl ?_
    refine ab_W.go (mm _) 1 (c' := (21, [.retAddr 1, .ref 0, .ref 84, .int (nI i)], [.int (nI L), .int (nI i)], (599900, 7296577), h)) rfl ?_
    refine ab_W.go (mm _) 2 (c' := (23, [.retAddr 1, .ref 0, .ref 84, .int (nI i)], [.int ((nI L) - (nI 3)), .int (nI i)], (599900, 7296577), h)) rfl ?_
    refine ab_W.itT (mm _) (p := ((nI L) - (nI 3)) < (nI i)) (c1 := (667, [.retAddr 1, .ref 0, .ref 84, .int (nI i)], [], (599900, 7296577), h)) (c2 := (26, [.retAddr 1, .ref 0, .ref 84, .int (nI i)], [], (599900, 7296577), h)) rfl ((sub3 hL (by omega)).mpr (by omega)) ?_
    refine ab_W.go (mm _) 1 (c' := (668, [.retAddr 1, .ref 0, .ref 84, .int (nI i)], [.int (nI 1)], (599900, 7296577), h)) rfl ?_
    refine ab_W.retI (mm _) (rt := some .boolean) (v := nI 1) rfl rfl ?_
    exact congrArg (fun x => some (Value.int x)) (show nI 1 = 1 by decide)
  | succ n ih =>
    intro i h σ hn hi ok
    have K : i + 3 ≤ L → ∀ h' σ', okL h' σ' → lwW L xs i 661 [] h' := by
      intro z h' σ' ok'
      refine ab_W.go (mm _) 1 (c' := (664, [.retAddr 1, .ref 0, .ref 84, .int (nI i + nI 3)], [], (599900, 7296577), h')) rfl ?_
      rw [nI_add i 3]
      refine ab_W.go (mm _) 1 (c' := (18, [.retAddr 1, .ref 0, .ref 84, .int (nI (i + 3))], [], (599900, 7296577), h')) rfl ?_
      exact ih (i + 3) h' σ' (by omega) (by omega) ok'
    refine ab_W.go (mm _) 2 (c' := (20, [.retAddr 1, .ref 0, .ref 84, .int (nI i)], [.retAddr 1, .int (nI i)], (599900, 7296577), h)) rfl ?_
    refine ab_W.go (mm _) 1 (c' := (21, [.retAddr 1, .ref 0, .ref 84, .int (nI i)], [.int (nI L), .int (nI i)], (599900, 7296577), h)) rfl ?_
    refine ab_W.go (mm _) 2 (c' := (23, [.retAddr 1, .ref 0, .ref 84, .int (nI i)], [.int ((nI L) - (nI 3)), .int (nI i)], (599900, 7296577), h)) rfl ?_
    refine ab_W.ite (mm _) (p := ((nI L) - (nI 3)) < (nI i)) (c1 := (667, [.retAddr 1, .ref 0, .ref 84, .int (nI i)], [], (599900, 7296577), h)) (c2 := (26, [.retAddr 1, .ref 0, .ref 84, .int (nI i)], [], (599900, 7296577), h)) rfl (fun q => ?_) (fun q => ?_)
    · skip
      refine ab_W.go (mm _) 1 (c' := (668, [.retAddr 1, .ref 0, .ref 84, .int (nI i)], [.int (nI 1)], (599900, 7296577), h)) rfl ?_
      refine ab_W.retI (mm _) (rt := some .boolean) (v := nI 1) rfl rfl ?_
      exact congrArg (fun x => some (Value.int x)) (show nI 1 = 1 by decide)
    · skip
      have hz : i + 3 ≤ L := by
        rcases Nat.lt_or_ge L (i + 3) with z | z
        · exact absurd ((sub3 hL (by omega)).mpr z) q
        · exact z
      have K := K hz
      refine ab_W.go (mm _) 2 (c' := (28, [.retAddr 1, .ref 0, .ref 84, .int (nI i)], [.int (nI i), .retAddr 1], (599900, 7296577), h)) rfl ?_
      refine ab_W.sald (mm _) (j := i) rfl (by omega) hL rfl ?_
      show ab_W _ _ _ (29, [.retAddr 1, .ref 0, .ref 84, .int (nI i)], [.int (xs i)], (599900, 7296577), h)
      refine ab_W.go (mm _) 2 (c' := (32, [.retAddr 1, .ref 0, .ref 84, .int (nI i)], [.int ((xs i) &&& (nI 31))], (599900, 7296577), h)) rfl ?_
      obtain ⟨v, ev⟩ : ∃ v, v = (xs i) &&& (nI 31) := ⟨_, rfl⟩
      refine ab_W.topi (ev.symm) ?_
      rcases pk_ix v (n := 19) (by decide) with q | q | ⟨j, j1, rfl⟩
      · refine ab_W.swd (mm _) rfl (sw_lo q) ?_
        show ab_W _ _ _ (661, [.retAddr 1, .ref 0, .ref 84, .int (nI i)], [], (599900, 7296577), h)
        exact K h σ ok
      · skip
        refine ab_W.swd (mm _) rfl (sw_hi q (by decide)) ?_
        show ab_W _ _ _ (661, [.retAddr 1, .ref 0, .ref 84, .int (nI i)], [], (599900, 7296577), h)
        exact K h σ ok
      · match j, j1 with
        | 0, _ =>
          refine ab_W.go (mm _) 1 (c' := (124, [.retAddr 1, .ref 0, .ref 84, .int (nI i)], [], (599900, 7296577), h)) rfl ?_
          exact lc_fork hL hz ok K
        | 1, _ =>
          refine ab_W.go (mm _) 1 (c' := (147, [.retAddr 1, .ref 0, .ref 84, .int (nI i)], [], (599900, 7296577), h)) rfl ?_
          exact lc_peek hL hz ok K
        | 2, _ =>
          refine ab_W.go (mm _) 1 (c' := (170, [.retAddr 1, .ref 0, .ref 84, .int (nI i)], [], (599900, 7296577), h)) rfl ?_
          exact lc_happen hL hz ok K
        | 3, _ =>
          refine ab_W.go (mm _) 1 (c' := (193, [.retAddr 1, .ref 0, .ref 84, .int (nI i)], [], (599900, 7296577), h)) rfl ?_
          exact lc_hear hL hz ok K
        | 4, _ =>
          refine ab_W.go (mm _) 1 (c' := (226, [.retAddr 1, .ref 0, .ref 84, .int (nI i)], [], (599900, 7296577), h)) rfl ?_
          exact lc_join hL hz ok K
        | 5, _ =>
          refine ab_W.go (mm _) 1 (c' := (259, [.retAddr 1, .ref 0, .ref 84, .int (nI i)], [], (599900, 7296577), h)) rfl ?_
          exact lc_share hL hz ok K
        | 6, _ =>
          refine ab_W.go (mm _) 1 (c' := (292, [.retAddr 1, .ref 0, .ref 84, .int (nI i)], [], (599900, 7296577), h)) rfl ?_
          exact lc_drop hL hz ok K
        | 7, _ =>
          refine ab_W.go (mm _) 1 (c' := (315, [.retAddr 1, .ref 0, .ref 84, .int (nI i)], [], (599900, 7296577), h)) rfl ?_
          exact lc_order hL hz ok K
        | 8, _ =>
          refine ab_W.go (mm _) 1 (c' := (348, [.retAddr 1, .ref 0, .ref 84, .int (nI i)], [], (599900, 7296577), h)) rfl ?_
          exact lc_knows hL hz ok K
        | 9, _ =>
          refine ab_W.go (mm _) 1 (c' := (381, [.retAddr 1, .ref 0, .ref 84, .int (nI i)], [], (599900, 7296577), h)) rfl ?_
          exact lc_height hL hz ok K
        | 10, _ =>
          refine ab_W.go (mm _) 1 (c' := (414, [.retAddr 1, .ref 0, .ref 84, .int (nI i)], [], (599900, 7296577), h)) rfl ?_
          exact lc_owner hL hz ok K
        | 11, _ =>
          refine ab_W.go (mm _) 1 (c' := (437, [.retAddr 1, .ref 0, .ref 84, .int (nI i)], [], (599900, 7296577), h)) rfl ?_
          exact lc_name hL hz ok K
        | 12, _ =>
          refine ab_W.go (mm _) 1 (c' := (470, [.retAddr 1, .ref 0, .ref 84, .int (nI i)], [], (599900, 7296577), h)) rfl ?_
          exact lc_tree hL hz ok K
        | 13, _ =>
          refine ab_W.go (mm _) 1 (c' := (503, [.retAddr 1, .ref 0, .ref 84, .int (nI i)], [], (599900, 7296577), h)) rfl ?_
          exact lc_about hL hz ok K
        | 14, _ =>
          refine ab_W.go (mm _) 1 (c' := (536, [.retAddr 1, .ref 0, .ref 84, .int (nI i)], [], (599900, 7296577), h)) rfl ?_
          exact lc_growth hL hz ok K
        | 15, _ =>
          refine ab_W.go (mm _) 1 (c' := (569, [.retAddr 1, .ref 0, .ref 84, .int (nI i)], [], (599900, 7296577), h)) rfl ?_
          exact lc_unlike hL hz ok K
        | 16, _ =>
          refine ab_W.go (mm _) 1 (c' := (592, [.retAddr 1, .ref 0, .ref 84, .int (nI i)], [], (599900, 7296577), h)) rfl ?_
          exact lc_image hL hz ok K
        | 17, _ =>
          refine ab_W.go (mm _) 1 (c' := (615, [.retAddr 1, .ref 0, .ref 84, .int (nI i)], [], (599900, 7296577), h)) rfl ?_
          exact lc_restore hL hz ok K
        | 18, _ =>
          refine ab_W.go (mm _) 1 (c' := (638, [.retAddr 1, .ref 0, .ref 84, .int (nI i)], [], (599900, 7296577), h)) rfl ?_
          exact lc_count hL hz ok K
        | j + 19, z => exact absurd z (by omega)
