/-! THE REFERENCE'S FILLING -/
theorem rem_I : ∀ k, k < 128 → nI k - nI k / nI 2 * nI 2 = nI (k % 2) := by decide +kernel
theorem dec_I : ∀ m, m < 128 → nI (m + 1) + -(nI 1) = nI m := by decide +kernel
theorem wayF_le (N : Int64) (f : Nat → Int32) (k : Nat) : wayF N f k ≤ 4 := by
  rcases way_cases N f k with ⟨a, -⟩ | ⟨a, -⟩ | ⟨a, -⟩ | ⟨a, -⟩ | ⟨a, -⟩ <;> omega
theorem fld_congr {W V : Nat → Nat} {k : Nat} (h1 : 1 ≤ k) (h : W (k / 2) = V (k / 2)) : fld W k ↔ fld V k := by
  unfold fld
  rw [h]
theorem sp_mfill (d : Nat) {h : ab_H} {hap sz op : Int32} {N : Int64} {f g0 : Nat → Int32} (h0 : h[84]? = some (mObj hap sz op)) (hN : nowP h f) (hw : h[90]? = some (.inl (0, 128, .inl g0))) {post : ab_P} (hp : ∀ h' G, nowP h' G → (∀ c, c < 64 → G c = fl N 6 1 f c) → arrS h' 90 128 → (∀ i, i ≠ 89 → i ≠ 90 → h'[i]? = h[i]?) → post none h') : mCC (d + 8) kSpanStampsModel_fill [.ref 84, .long N] h post := by
  have second : ∀ h1 g W, (∀ i, i ≠ 90 → h1[i]? = h[i]?) → h1[90]? = some (.inl (0, 128, .inl g)) → isW N f W → (∀ j, 1 ≤ j → j < 128 → g j = nI (W j)) → ∀ m, m < 128 → ∀ (G : Nat → Int32) (v4 : Value), PQ N f W (m + 1) G → ab_W (ab_st (mT kSpanStampsModel_fill) mB mF (mR kSpanStampsModel_fill) none) (mCC (d + 7)) post (85, [.ref 84, .long N, .retAddr 0, .int (nI m), v4], [], (0, 0), hA h1 89 G) := by
    intro h1 g W k1 hg hW hgW
    have l89 : 89 < h1.length := hA_lt ((k1 89 (by decide)).trans hN)
    have f1 : ∀ G, (hA h1 89 G)[84]? = some (mObj hap sz op) := fun G => (hA_ne (by decide)).trans ((k1 84 (by decide)).trans h0)
    have f2 : ∀ G, (hA h1 89 G)[90]? = some (.inl (0, 128, .inl g)) := fun G => (hA_ne (by decide)).trans hg
    have f3 : ∀ G, nowP (hA h1 89 G) G := fun G => hA_at l89
    intro m
    induction m with
    | zero =>
      intro _ G v4 hPQ
      refine ab_W.go (mm _) 1 (c' := (86, [.ref 84, .long N, .retAddr 0, .int (nI 0), v4], [.int (nI 0)], (0, 0), hA h1 89 G)) rfl ?_
      refine ab_W.itT (mm _) (p := (nI 0) ≤ 0) (c1 := (195, [.ref 84, .long N, .retAddr 0, .int (nI 0), v4], [], (0, 0), hA h1 89 G)) (c2 := (89, [.ref 84, .long N, .retAddr 0, .int (nI 0), v4], [], (0, 0), hA h1 89 G)) rfl ((by decide)) ?_
      refine ab_W.ret (mm _) (v := none) rfl ?_
      exact hp _ G (f3 G) (PQ_end hPQ) ⟨g, f2 G⟩ (fun i i1 i2 => (hA_ne (fun z => i1 z.symm)).trans (k1 i i2))
    | succ m ih =>
      intro hm G v4 hPQ
      have hst := PQ_step hW (show 1 ≤ m + 1 by omega) hm hPQ
      have hgm := hgW (m + 1) (by omega) hm
      have wl : W (m + 1) ≤ 4 := by
        rw [hW (m + 1) (by omega) hm]
        by_cases q : fld W (m + 1)
        · rw [ci_t q]; exact wayF_le N f (m + 1)
        · rw [ci_f q]; omega
      have w64 : W (m + 1) ≠ 0 → m + 1 < 64 := fun z => Nat.lt_of_not_le (fun y => z (W_leaf hW y hm))
      have fin : ∀ v4, ab_W (ab_st (mT kSpanStampsModel_fill) mB mF (mR kSpanStampsModel_fill) none) (mCC (d + 7)) post (189, [.ref 84, .long N, .retAddr 0, .int (nI (m + 1)), v4], [], (0, 0), hA h1 89 (fstp W (m + 1) G)) := by
        intro v4
        have := ih (by omega) _ v4 hst
        rw [← dec_I m (by omega)] at this
        refine ab_W.go (mm _) 2 (c' := (85, [.ref 84, .long N, .retAddr 0, .int (nI (m + 1) + -(nI 1)), v4], [], (0, 0), hA h1 89 (fstp W (m + 1) G))) rfl ?_
        exact this
      refine ab_W.go (mm _) 1 (c' := (86, [.ref 84, .long N, .retAddr 0, .int (nI (m + 1)), v4], [.int (nI (m + 1))], (0, 0), hA h1 89 G)) rfl ?_
      refine ab_W.itF (mm _) (p := (nI (m + 1)) ≤ 0) (c1 := (195, [.ref 84, .long N, .retAddr 0, .int (nI (m + 1)), v4], [], (0, 0), hA h1 89 G)) (c2 := (89, [.ref 84, .long N, .retAddr 0, .int (nI (m + 1)), v4], [], (0, 0), hA h1 89 G)) rfl (fun z => absurd ((nI_leI (a := m + 1) (b := 0) (by omega) (by omega)).mp (by rw [nI_0]; exact z)) (by omega)) ?_
      refine ab_W.go (mm _) 1 (c' := (90, [.ref 84, .long N, .retAddr 0, .int (nI (m + 1)), v4], [.ref 84], (0, 0), hA h1 89 G)) rfl ?_
      refine ab_W.o (mm _) (f1 G) rfl (c' := (93, [.ref 84, .long N, .retAddr 0, .int (nI (m + 1)), v4], [.ref 90], (0, 0), hA h1 89 G)) rfl ?_
      refine ab_W.go (mm _) 1 (c' := (94, [.ref 84, .long N, .retAddr 0, .int (nI (m + 1)), v4], [.int (nI (m + 1)), .ref 90], (0, 0), hA h1 89 G)) rfl ?_
      refine ab_W.iald (mm _) (j := m + 1) (f2 G) rfl (by omega) rfl rfl ?_
      show ab_W _ _ _ (95, [.ref 84, .long N, .retAddr 0, .int (nI (m + 1)), v4], [.int (g (m + 1))], (0, 0), hA h1 89 G)
      refine ab_W.topi (hgm) ?_
      refine ab_W.go (mm _) 1 (c' := (96, [.ref 84, .long N, .retAddr 0, .int (nI (m + 1)), v4], [.int (nI 1), .int (nI (W (m + 1)))], (0, 0), hA h1 89 G)) rfl ?_
      refine ab_W.ite (mm _) (p := (nI (W (m + 1))) = (nI 1)) (c1 := (99, [.ref 84, .long N, .retAddr 0, .int (nI (m + 1)), v4], [], (0, 0), hA h1 89 G)) (c2 := (112, [.ref 84, .long N, .retAddr 0, .int (nI (m + 1)), v4], [], (0, 0), hA h1 89 G)) rfl (fun q1 => ?_) (fun q1 => ?_)
      · skip
        have q1 : W (m + 1) = 1 := (nI_eq (by omega) (by omega)).mp q1
        have hk := w64 (by omega)
        rw [show fstp W (m + 1) G = _ from if_pos q1] at fin
        refine ab_W.go (mm _) 4 (c' := (103, [.ref 84, .long N, .retAddr 0, .int (nI (m + 1)), v4], [.int (nI (m + 1)), .ref 84, .int (nI (m + 1)), .ref 84], (0, 0), hA h1 89 G)) rfl ?_
        refine ab_W.callV (mm _) (f1 G) rfl (k := 82) (av := [.ref 84, .int (nI (m + 1))]) (c' := (106, [.ref 84, .long N, .retAddr 0, .int (nI (m + 1)), v4], [.int (nI (m + 1)), .ref 84], (0, 0), hA h1 89 G)) rfl ?_
        refine sp_mmx _ (f1 G) (f3 G) (by omega) (by omega) ?_
        show ab_W _ _ _ (106, [.ref 84, .long N, .retAddr 0, .int (nI (m + 1)), v4], [.int (mx G (m + 1)), .int (nI (m + 1)), .ref 84], (0, 0), hA h1 89 G)
        refine ab_W.callV (mm _) (f1 G) rfl (k := 84) (av := [.ref 84, .int (nI (m + 1)), .int (mx G (m + 1))]) (c' := (109, [.ref 84, .long N, .retAddr 0, .int (nI (m + 1)), v4], [], (0, 0), hA h1 89 G)) rfl ?_
        refine sp_mlevel _ ((k1 84 (by decide)).trans h0) l89 (by omega) (by omega) ?_
        show ab_W _ _ _ (109, [.ref 84, .long N, .retAddr 0, .int (nI (m + 1)), v4], [], (0, 0), hA h1 89 (lev G (m + 1) (mx G (m + 1))))
        refine ab_W.go (mm _) 1 (c' := (189, [.ref 84, .long N, .retAddr 0, .int (nI (m + 1)), v4], [], (0, 0), hA h1 89 (lev G (m + 1) (mx G (m + 1))))) rfl ?_
        exact fin _
      · skip
        have q1 : ¬ W (m + 1) = 1 := fun z => q1 (by rw [z])
        refine ab_W.go (mm _) 1 (c' := (113, [.ref 84, .long N, .retAddr 0, .int (nI (m + 1)), v4], [.ref 84], (0, 0), hA h1 89 G)) rfl ?_
        refine ab_W.o (mm _) (f1 G) rfl (c' := (116, [.ref 84, .long N, .retAddr 0, .int (nI (m + 1)), v4], [.ref 90], (0, 0), hA h1 89 G)) rfl ?_
        refine ab_W.go (mm _) 1 (c' := (117, [.ref 84, .long N, .retAddr 0, .int (nI (m + 1)), v4], [.int (nI (m + 1)), .ref 90], (0, 0), hA h1 89 G)) rfl ?_
        refine ab_W.iald (mm _) (j := m + 1) (f2 G) rfl (by omega) rfl rfl ?_
        show ab_W _ _ _ (118, [.ref 84, .long N, .retAddr 0, .int (nI (m + 1)), v4], [.int (g (m + 1))], (0, 0), hA h1 89 G)
        refine ab_W.topi (hgm) ?_
        refine ab_W.go (mm _) 1 (c' := (119, [.ref 84, .long N, .retAddr 0, .int (nI (m + 1)), v4], [.int (nI 2), .int (nI (W (m + 1)))], (0, 0), hA h1 89 G)) rfl ?_
        refine ab_W.ite (mm _) (p := (nI (W (m + 1))) = (nI 2)) (c1 := (122, [.ref 84, .long N, .retAddr 0, .int (nI (m + 1)), v4], [], (0, 0), hA h1 89 G)) (c2 := (151, [.ref 84, .long N, .retAddr 0, .int (nI (m + 1)), v4], [], (0, 0), hA h1 89 G)) rfl (fun q2 => ?_) (fun q2 => ?_)
        · skip
          have q2 : W (m + 1) = 2 := (nI_eq (by omega) (by omega)).mp q2
          have hk := w64 (by omega)
          rw [show fstp W (m + 1) G = _ from (if_neg q1).trans (if_pos q2)] at fin
          unfold lft at fin
          refine ab_W.go (mm _) 4 (c' := (126, [.ref 84, .long N, .retAddr 0, .int (nI (m + 1)), v4], [.int ((nI 2) * (nI (m + 1))), .ref 84], (0, 0), hA h1 89 G)) rfl ?_
          refine ab_W.topi (pk_mul 2 (m + 1)) ?_
          refine ab_W.go (mm _) 4 (c' := (130, [.ref 84, .long N, .retAddr 0, .int (nI (m + 1)), v4], [.int ((nI 2) * (nI (m + 1))), .ref 84, .int (nI (2 * (m + 1))), .ref 84], (0, 0), hA h1 89 G)) rfl ?_
          refine ab_W.topi (pk_mul 2 (m + 1)) ?_
          refine ab_W.callV (mm _) (f1 G) rfl (k := 82) (av := [.ref 84, .int (nI (2 * (m + 1)))]) (c' := (133, [.ref 84, .long N, .retAddr 0, .int (nI (m + 1)), v4], [.int (nI (2 * (m + 1))), .ref 84], (0, 0), hA h1 89 G)) rfl ?_
          refine sp_mmx _ (f1 G) (f3 G) (by omega) (by omega) ?_
          show ab_W _ _ _ (133, [.ref 84, .long N, .retAddr 0, .int (nI (m + 1)), v4], [.int (mx G (2 * (m + 1))), .int (nI (2 * (m + 1))), .ref 84], (0, 0), hA h1 89 G)
          refine ab_W.go (mm _) 4 (c' := (137, [.ref 84, .long N, .retAddr 0, .int (nI (m + 1)), v4], [.int ((nI 2) * (nI (m + 1))), .ref 84, .int (mx G (2 * (m + 1))), .int (nI (2 * (m + 1))), .ref 84], (0, 0), hA h1 89 G)) rfl ?_
          refine ab_W.topi (pk_mul 2 (m + 1)) ?_
          refine ab_W.go (mm _) 2 (c' := (139, [.ref 84, .long N, .retAddr 0, .int (nI (m + 1)), v4], [.int ((nI (2 * (m + 1))) + (nI 1)), .ref 84, .int (mx G (2 * (m + 1))), .int (nI (2 * (m + 1))), .ref 84], (0, 0), hA h1 89 G)) rfl ?_
          refine ab_W.topi (nI_add (2 * (m + 1)) 1) ?_
          refine ab_W.callV (mm _) (f1 G) rfl (k := 81) (av := [.ref 84, .int (nI ((2 * (m + 1)) + 1))]) (c' := (142, [.ref 84, .long N, .retAddr 0, .int (nI (m + 1)), v4], [.int (mx G (2 * (m + 1))), .int (nI (2 * (m + 1))), .ref 84], (0, 0), hA h1 89 G)) rfl ?_
          refine sp_mmn _ (f1 G) (f3 G) (by omega) (by omega) ?_
          show ab_W _ _ _ (142, [.ref 84, .long N, .retAddr 0, .int (nI (m + 1)), v4], [.int (mn G (2 * (m + 1) + 1)), .int (mx G (2 * (m + 1))), .int (nI (2 * (m + 1))), .ref 84], (0, 0), hA h1 89 G)
          refine ab_W.call (mm _) (k := 87) (av := [.int (mx G (2 * (m + 1))), .int (mn G (2 * (m + 1) + 1))]) (c' := (145, [.ref 84, .long N, .retAddr 0, .int (nI (m + 1)), v4], [.int (nI (2 * (m + 1))), .ref 84], (0, 0), hA h1 89 G)) rfl ?_
          refine sp_mgreater _ ?_
          show ab_W _ _ _ (145, [.ref 84, .long N, .retAddr 0, .int (nI (m + 1)), v4], [.int (mxI (mx G (2 * (m + 1))) (mn G (2 * (m + 1) + 1))), .int (nI (2 * (m + 1))), .ref 84], (0, 0), hA h1 89 G)
          refine ab_W.callV (mm _) (f1 G) rfl (k := 84) (av := [.ref 84, .int (nI (2 * (m + 1))), .int (mxI (mx G (2 * (m + 1))) (mn G (2 * (m + 1) + 1)))]) (c' := (148, [.ref 84, .long N, .retAddr 0, .int (nI (m + 1)), v4], [], (0, 0), hA h1 89 G)) rfl ?_
          refine sp_mlevel _ ((k1 84 (by decide)).trans h0) l89 (by omega) (by omega) ?_
          show ab_W _ _ _ (148, [.ref 84, .long N, .retAddr 0, .int (nI (m + 1)), v4], [], (0, 0), hA h1 89 (lev G (2 * (m + 1)) (mxI (mx G (2 * (m + 1))) (mn G (2 * (m + 1) + 1)))))
          refine ab_W.go (mm _) 1 (c' := (189, [.ref 84, .long N, .retAddr 0, .int (nI (m + 1)), v4], [], (0, 0), hA h1 89 (lev G (2 * (m + 1)) (mxI (mx G (2 * (m + 1))) (mn G (2 * (m + 1) + 1)))))) rfl ?_
          exact fin _
        · skip
          have q2 : ¬ W (m + 1) = 2 := fun z => q2 (by rw [z])
          refine ab_W.go (mm _) 1 (c' := (152, [.ref 84, .long N, .retAddr 0, .int (nI (m + 1)), v4], [.ref 84], (0, 0), hA h1 89 G)) rfl ?_
          refine ab_W.o (mm _) (f1 G) rfl (c' := (155, [.ref 84, .long N, .retAddr 0, .int (nI (m + 1)), v4], [.ref 90], (0, 0), hA h1 89 G)) rfl ?_
          refine ab_W.go (mm _) 1 (c' := (156, [.ref 84, .long N, .retAddr 0, .int (nI (m + 1)), v4], [.int (nI (m + 1)), .ref 90], (0, 0), hA h1 89 G)) rfl ?_
          refine ab_W.iald (mm _) (j := m + 1) (f2 G) rfl (by omega) rfl rfl ?_
          show ab_W _ _ _ (157, [.ref 84, .long N, .retAddr 0, .int (nI (m + 1)), v4], [.int (g (m + 1))], (0, 0), hA h1 89 G)
          refine ab_W.topi (hgm) ?_
          refine ab_W.go (mm _) 1 (c' := (158, [.ref 84, .long N, .retAddr 0, .int (nI (m + 1)), v4], [.int (nI 3), .int (nI (W (m + 1)))], (0, 0), hA h1 89 G)) rfl ?_
          refine ab_W.ite (mm _) (p := (nI (W (m + 1))) = (nI 3)) (c1 := (161, [.ref 84, .long N, .retAddr 0, .int (nI (m + 1)), v4], [], (0, 0), hA h1 89 G)) (c2 := (189, [.ref 84, .long N, .retAddr 0, .int (nI (m + 1)), v4], [], (0, 0), hA h1 89 G)) rfl (fun q3 => ?_) (fun q3 => ?_)
          · skip
            have q3 : W (m + 1) = 3 := (nI_eq (by omega) (by omega)).mp q3
            have hk := w64 (by omega)
            rw [show fstp W (m + 1) G = _ from (if_neg q1).trans ((if_neg q2).trans (if_pos q3))] at fin
            unfold lft at fin
            refine ab_W.go (mm _) 4 (c' := (165, [.ref 84, .long N, .retAddr 0, .int (nI (m + 1)), v4], [.int ((nI 2) * (nI (m + 1))), .ref 84], (0, 0), hA h1 89 G)) rfl ?_
            refine ab_W.topi (pk_mul 2 (m + 1)) ?_
            refine ab_W.go (mm _) 2 (c' := (167, [.ref 84, .long N, .retAddr 0, .int (nI (m + 1)), v4], [.int ((nI (2 * (m + 1))) + (nI 1)), .ref 84], (0, 0), hA h1 89 G)) rfl ?_
            refine ab_W.topi (nI_add (2 * (m + 1)) 1) ?_
            refine ab_W.go (mm _) 4 (c' := (171, [.ref 84, .long N, .retAddr 0, .int (nI (m + 1)), v4], [.int ((nI 2) * (nI (m + 1))), .ref 84, .int (nI ((2 * (m + 1)) + 1)), .ref 84], (0, 0), hA h1 89 G)) rfl ?_
            refine ab_W.topi (pk_mul 2 (m + 1)) ?_
            refine ab_W.go (mm _) 2 (c' := (173, [.ref 84, .long N, .retAddr 0, .int (nI (m + 1)), v4], [.int ((nI (2 * (m + 1))) + (nI 1)), .ref 84, .int (nI ((2 * (m + 1)) + 1)), .ref 84], (0, 0), hA h1 89 G)) rfl ?_
            refine ab_W.topi (nI_add (2 * (m + 1)) 1) ?_
            refine ab_W.callV (mm _) (f1 G) rfl (k := 82) (av := [.ref 84, .int (nI ((2 * (m + 1)) + 1))]) (c' := (176, [.ref 84, .long N, .retAddr 0, .int (nI (m + 1)), v4], [.int (nI ((2 * (m + 1)) + 1)), .ref 84], (0, 0), hA h1 89 G)) rfl ?_
            refine sp_mmx _ (f1 G) (f3 G) (by omega) (by omega) ?_
            show ab_W _ _ _ (176, [.ref 84, .long N, .retAddr 0, .int (nI (m + 1)), v4], [.int (mx G (2 * (m + 1) + 1)), .int (nI ((2 * (m + 1)) + 1)), .ref 84], (0, 0), hA h1 89 G)
            refine ab_W.go (mm _) 4 (c' := (180, [.ref 84, .long N, .retAddr 0, .int (nI (m + 1)), v4], [.int ((nI 2) * (nI (m + 1))), .ref 84, .int (mx G (2 * (m + 1) + 1)), .int (nI ((2 * (m + 1)) + 1)), .ref 84], (0, 0), hA h1 89 G)) rfl ?_
            refine ab_W.topi (pk_mul 2 (m + 1)) ?_
            refine ab_W.callV (mm _) (f1 G) rfl (k := 81) (av := [.ref 84, .int (nI (2 * (m + 1)))]) (c' := (183, [.ref 84, .long N, .retAddr 0, .int (nI (m + 1)), v4], [.int (mx G (2 * (m + 1) + 1)), .int (nI ((2 * (m + 1)) + 1)), .ref 84], (0, 0), hA h1 89 G)) rfl ?_
            refine sp_mmn _ (f1 G) (f3 G) (by omega) (by omega) ?_
            show ab_W _ _ _ (183, [.ref 84, .long N, .retAddr 0, .int (nI (m + 1)), v4], [.int (mn G (2 * (m + 1))), .int (mx G (2 * (m + 1) + 1)), .int (nI ((2 * (m + 1)) + 1)), .ref 84], (0, 0), hA h1 89 G)
            refine ab_W.call (mm _) (k := 87) (av := [.int (mx G (2 * (m + 1) + 1)), .int (mn G (2 * (m + 1)))]) (c' := (186, [.ref 84, .long N, .retAddr 0, .int (nI (m + 1)), v4], [.int (nI ((2 * (m + 1)) + 1)), .ref 84], (0, 0), hA h1 89 G)) rfl ?_
            refine sp_mgreater _ ?_
            show ab_W _ _ _ (186, [.ref 84, .long N, .retAddr 0, .int (nI (m + 1)), v4], [.int (mxI (mx G (2 * (m + 1) + 1)) (mn G (2 * (m + 1)))), .int (nI ((2 * (m + 1)) + 1)), .ref 84], (0, 0), hA h1 89 G)
            refine ab_W.callV (mm _) (f1 G) rfl (k := 84) (av := [.ref 84, .int (nI ((2 * (m + 1)) + 1)), .int (mxI (mx G (2 * (m + 1) + 1)) (mn G (2 * (m + 1))))]) (c' := (189, [.ref 84, .long N, .retAddr 0, .int (nI (m + 1)), v4], [], (0, 0), hA h1 89 G)) rfl ?_
            refine sp_mlevel _ ((k1 84 (by decide)).trans h0) l89 (by omega) (by omega) ?_
            show ab_W _ _ _ (189, [.ref 84, .long N, .retAddr 0, .int (nI (m + 1)), v4], [], (0, 0), hA h1 89 (lev G (2 * (m + 1) + 1) (mxI (mx G (2 * (m + 1) + 1)) (mn G (2 * (m + 1))))))
            exact fin _
          · skip
            have q3 : ¬ W (m + 1) = 3 := fun z => q3 (by rw [z])
            rw [show fstp W (m + 1) G = _ from (if_neg q1).trans ((if_neg q2).trans (if_neg q3))] at fin
            exact fin _
  have first : ∀ k, k ≤ 128 → 1 ≤ k → ∀ (h1 : ab_H) (g : Nat → Int32) (W : Nat → Nat) (v4 : Value), (∀ i, i ≠ 90 → h1[i]? = h[i]?) → h1[90]? = some (.inl (0, 128, .inl g)) → (∀ j, 1 ≤ j → j < k → g j = nI (W j) ∧ W j ≤ 4 ∧ W j = ci (fld W j) (wayF N f j) 0) → ab_W (ab_st (mT kSpanStampsModel_fill) mB mF (mR kSpanStampsModel_fill) none) (mCC (d + 7)) post (2, [.ref 84, .long N, .retAddr 0, .int (nI k), v4], [], (0, 0), h1) := by
    refine down 128 ?_ ?_
    · intro _ h1 g W v4 k1 hg hj
      refine ab_W.go (mm _) 2 (c' := (6, [.ref 84, .long N, .retAddr 0, .int (nI 128), v4], [.int (nI 128), .int (nI 128)], (0, 0), h1)) rfl ?_
      refine ab_W.itT (mm _) (p := (nI 128) ≤ (nI 128)) (c1 := (82, [.ref 84, .long N, .retAddr 0, .int (nI 128), v4], [], (0, 0), h1)) (c2 := (9, [.ref 84, .long N, .retAddr 0, .int (nI 128), v4], [], (0, 0), h1)) rfl ((by decide)) ?_
      refine ab_W.go (mm _) 2 (c' := (85, [.ref 84, .long N, .retAddr 0, .int (nI 127), v4], [], (0, 0), h1)) rfl ?_
      have := second h1 g W k1 hg (fun j a b => (hj j a b).2.2) (fun j a b => (hj j a b).1) 127 (by decide) f v4 (PQ_start N f W)
      rw [show hA h1 89 f = h1 from hA_self ((k1 89 (by decide)).trans hN)] at this
      exact this
    · intro k hk ih hk1 h1 g W v4 k1 hg hj
      have h01 := (k1 84 (by decide)).trans h0
      have hN1 : nowP h1 f := (k1 89 (by decide)).trans hN
      have upW : ∀ w : Nat, w = ci (fld W k) (wayF N f k) 0 → ab_W (ab_st (mT kSpanStampsModel_fill) mB mF (mR kSpanStampsModel_fill) none) (mCC (d + 7)) post (2, [.ref 84, .long N, .retAddr 0, .int (nI (k + 1)), .int (b2i (ci (fld W k) true false))], [], (0, 0), h1.set 90 (.inl (0, 128, .inl (upd g k (nI w))))) := by
        intro w hwv
        have w4 : w ≤ 4 := by
          rw [hwv]
          by_cases q : fld W k
          · rw [ci_t q]; exact wayF_le N f k
          · rw [ci_f q]; omega
        refine ih (by omega) _ _ (va_up W k w) _ (fun i hi => (set_ne (fun z => hi z.symm)).trans (k1 i hi)) (set_at hg) (fun j j1 j2 => ?_)
        have fe : ∀ i, 1 ≤ i → i ≤ k → (fld (va_up W k w) i ↔ fld W i) := fun i i1 i2 => fld_congr i1 (va_up_ne _ _ (by omega))
        by_cases e : j = k
        · subst e
          rw [upd_at, va_up_self, propext (fe j j1 (Nat.le_refl _))]
          exact ⟨rfl, w4, hwv⟩
        · rw [upd_no _ _ e, va_up_ne _ _ e, propext (fe j j1 (by omega))]
          exact hj j j1 (by omega)
      have mid : ∀ B : Bool, (B = true ↔ fld W k) → ab_W (ab_st (mT kSpanStampsModel_fill) mB mF (mR kSpanStampsModel_fill) none) (mCC (d + 7)) post (53, [.ref 84, .long N, .retAddr 0, .int (nI k), v4], [.int (b2i B)], (0, 0), h1) := by
        intro B hB
        refine ab_W.go (mm _) 2 (c' := (56, [.ref 84, .long N, .retAddr 0, .int (nI k), .int (b2i B)], [.ref 84], (0, 0), h1)) rfl ?_
        refine ab_W.o (mm _) (h01) rfl (c' := (59, [.ref 84, .long N, .retAddr 0, .int (nI k), .int (b2i B)], [.ref 90], (0, 0), h1)) rfl ?_
        refine ab_W.go (mm _) 2 (c' := (62, [.ref 84, .long N, .retAddr 0, .int (nI k), .int (b2i B)], [.int (b2i B), .int (nI k), .ref 90], (0, 0), h1)) rfl ?_
        cases B with
        | false =>
          have nf : ¬ fld W k := fun z => by have := hB.mpr z; cases this
          have u := upW 0 (ci_f nf).symm
          rw [ci_f nf] at u
          show ab_W _ _ _ (62, [.ref 84, .long N, .retAddr 0, .int (nI k), .int (nI 0)], [.int (nI 0), .int (nI k), .ref 90], (0, 0), h1)
          refine ab_W.itT (mm _) (p := (nI 0) = 0) (c1 := (74, [.ref 84, .long N, .retAddr 0, .int (nI k), .int (nI 0)], [.int (nI k), .ref 90], (0, 0), h1)) (c2 := (65, [.ref 84, .long N, .retAddr 0, .int (nI k), .int (nI 0)], [.int (nI k), .ref 90], (0, 0), h1)) rfl (nI_0) ?_
          refine ab_W.go (mm _) 1 (c' := (75, [.ref 84, .long N, .retAddr 0, .int (nI k), .int (nI 0)], [.int (nI 0), .int (nI k), .ref 90], (0, 0), h1)) rfl ?_
          refine ab_W.iast (mm _) (j := k) (hg) rfl (by omega) rfl rfl ?_
          show ab_W _ _ _ (76, [.ref 84, .long N, .retAddr 0, .int (nI k), .int (nI 0)], [], (0, 0), h1.set 90 (.inl (0, 128, .inl (upd g k (nI 0)))))
          refine ab_W.go (mm _) 1 (c' := (79, [.ref 84, .long N, .retAddr 0, .int (nI k + nI 1), .int (nI 0)], [], (0, 0), h1.set 90 (.inl (0, 128, .inl (upd g k (nI 0)))))) rfl ?_
          rw [nI_add k 1]
          refine ab_W.go (mm _) 1 (c' := (2, [.ref 84, .long N, .retAddr 0, .int (nI (k + 1)), .int (nI 0)], [], (0, 0), h1.set 90 (.inl (0, 128, .inl (upd g k (nI 0)))))) rfl ?_
          exact u
        | true =>
          have yf : fld W k := hB.mp rfl
          have u := upW (wayF N f k) (ci_t yf).symm
          rw [ci_t yf] at u
          show ab_W _ _ _ (62, [.ref 84, .long N, .retAddr 0, .int (nI k), .int (nI 1)], [.int (nI 1), .int (nI k), .ref 90], (0, 0), h1)
          refine ab_W.itF (mm _) (p := (nI 1) = 0) (c1 := (74, [.ref 84, .long N, .retAddr 0, .int (nI k), .int (nI 1)], [.int (nI k), .ref 90], (0, 0), h1)) (c2 := (65, [.ref 84, .long N, .retAddr 0, .int (nI k), .int (nI 1)], [.int (nI k), .ref 90], (0, 0), h1)) rfl (nI_ne01) ?_
          refine ab_W.go (mm _) 3 (c' := (68, [.ref 84, .long N, .retAddr 0, .int (nI k), .int (nI 1)], [.long N, .int (nI k), .ref 84, .int (nI k), .ref 90], (0, 0), h1)) rfl ?_
          refine ab_W.callV (mm _) (h01) rfl (k := 86) (av := [.ref 84, .int (nI k), .long N]) (c' := (71, [.ref 84, .long N, .retAddr 0, .int (nI k), .int (nI 1)], [.int (nI k), .ref 90], (0, 0), h1)) rfl ?_
          refine sp_mway _ h01 hN1 hk1 hk ?_
          show ab_W _ _ _ (71, [.ref 84, .long N, .retAddr 0, .int (nI k), .int (nI 1)], [.int (nI (wayF N f k)), .int (nI k), .ref 90], (0, 0), h1)
          refine ab_W.go (mm _) 1 (c' := (75, [.ref 84, .long N, .retAddr 0, .int (nI k), .int (nI 1)], [.int (nI (wayF N f k)), .int (nI k), .ref 90], (0, 0), h1)) rfl ?_
          refine ab_W.iast (mm _) (j := k) (hg) rfl (by omega) rfl rfl ?_
          show ab_W _ _ _ (76, [.ref 84, .long N, .retAddr 0, .int (nI k), .int (nI 1)], [], (0, 0), h1.set 90 (.inl (0, 128, .inl (upd g k (nI (wayF N f k))))))
          refine ab_W.go (mm _) 1 (c' := (79, [.ref 84, .long N, .retAddr 0, .int (nI k + nI 1), .int (nI 1)], [], (0, 0), h1.set 90 (.inl (0, 128, .inl (upd g k (nI (wayF N f k))))))) rfl ?_
          rw [nI_add k 1]
          refine ab_W.go (mm _) 1 (c' := (2, [.ref 84, .long N, .retAddr 0, .int (nI (k + 1)), .int (nI 1)], [], (0, 0), h1.set 90 (.inl (0, 128, .inl (upd g k (nI (wayF N f k))))))) rfl ?_
          exact u
      refine ab_W.go (mm _) 2 (c' := (6, [.ref 84, .long N, .retAddr 0, .int (nI k), v4], [.int (nI 128), .int (nI k)], (0, 0), h1)) rfl ?_
      refine ab_W.itF (mm _) (p := (nI 128) ≤ (nI k)) (c1 := (82, [.ref 84, .long N, .retAddr 0, .int (nI k), v4], [], (0, 0), h1)) (c2 := (9, [.ref 84, .long N, .retAddr 0, .int (nI k), v4], [], (0, 0), h1)) rfl (fun z => absurd ((nI_leI (by omega) (by omega)).mp z) (by omega)) ?_
      refine ab_W.go (mm _) 2 (c' := (11, [.ref 84, .long N, .retAddr 0, .int (nI k), v4], [.int (nI 1), .int (nI k)], (0, 0), h1)) rfl ?_
      refine ab_W.ite (mm _) (p := (nI k) = (nI 1)) (c1 := (48, [.ref 84, .long N, .retAddr 0, .int (nI k), v4], [], (0, 0), h1)) (c2 := (14, [.ref 84, .long N, .retAddr 0, .int (nI k), v4], [], (0, 0), h1)) rfl (fun q1 => ?_) (fun q1 => ?_)
      · skip
        have q1 : k = 1 := (nI_eq (by omega) (by omega)).mp q1
        refine ab_W.go (mm _) 2 (c' := (53, [.ref 84, .long N, .retAddr 0, .int (nI k), v4], [.int (nI 1)], (0, 0), h1)) rfl ?_
        exact mid true ⟨fun _ => Or.inl q1, fun _ => rfl⟩
      · skip
        have q1 : ¬ k = 1 := fun z => q1 (by rw [z])
        obtain ⟨j1, j2, j3⟩ := hj (k / 2) (by omega) (by omega)
        refine ab_W.go (mm _) 1 (c' := (15, [.ref 84, .long N, .retAddr 0, .int (nI k), v4], [.ref 84], (0, 0), h1)) rfl ?_
        refine ab_W.o (mm _) (h01) rfl (c' := (18, [.ref 84, .long N, .retAddr 0, .int (nI k), v4], [.ref 90], (0, 0), h1)) rfl ?_
        refine ab_W.go (mm _) 2 (c' := (20, [.ref 84, .long N, .retAddr 0, .int (nI k), v4], [.int (nI 2), .int (nI k), .ref 90], (0, 0), h1)) rfl ?_
        refine ab_W.go (mm _) 1 (c' := (21, [.ref 84, .long N, .retAddr 0, .int (nI k), v4], [.int ((nI k) / (nI 2)), .ref 90], (0, 0), h1)) rfl ?_
        refine ab_W.topi (half_I k hk) ?_
        refine ab_W.iald (mm _) (j := k / 2) (hg) rfl (by omega) rfl rfl ?_
        show ab_W _ _ _ (22, [.ref 84, .long N, .retAddr 0, .int (nI k), v4], [.int (g (k / 2))], (0, 0), h1)
        refine ab_W.topi (j1) ?_
        refine ab_W.go (mm _) 1 (c' := (23, [.ref 84, .long N, .retAddr 0, .int (nI k), v4], [.int (nI 4), .int (nI (W (k / 2)))], (0, 0), h1)) rfl ?_
        refine ab_W.ite (mm _) (p := (nI (W (k / 2))) = (nI 4)) (c1 := (48, [.ref 84, .long N, .retAddr 0, .int (nI k), v4], [], (0, 0), h1)) (c2 := (26, [.ref 84, .long N, .retAddr 0, .int (nI k), v4], [], (0, 0), h1)) rfl (fun q2 => ?_) (fun q2 => ?_)
        · skip
          have q2 : W (k / 2) = 4 := (nI_eq (by omega) (by omega)).mp q2
          refine ab_W.go (mm _) 2 (c' := (53, [.ref 84, .long N, .retAddr 0, .int (nI k), v4], [.int (nI 1)], (0, 0), h1)) rfl ?_
          exact mid true ⟨fun _ => Or.inr (Or.inl q2), fun _ => rfl⟩
        · skip
          have q2 : ¬ W (k / 2) = 4 := fun z => q2 (by rw [z])
          refine ab_W.go (mm _) 1 (c' := (27, [.ref 84, .long N, .retAddr 0, .int (nI k), v4], [.ref 84], (0, 0), h1)) rfl ?_
          refine ab_W.o (mm _) (h01) rfl (c' := (30, [.ref 84, .long N, .retAddr 0, .int (nI k), v4], [.ref 90], (0, 0), h1)) rfl ?_
          refine ab_W.go (mm _) 2 (c' := (32, [.ref 84, .long N, .retAddr 0, .int (nI k), v4], [.int (nI 2), .int (nI k), .ref 90], (0, 0), h1)) rfl ?_
          refine ab_W.go (mm _) 1 (c' := (33, [.ref 84, .long N, .retAddr 0, .int (nI k), v4], [.int ((nI k) / (nI 2)), .ref 90], (0, 0), h1)) rfl ?_
          refine ab_W.topi (half_I k hk) ?_
          refine ab_W.iald (mm _) (j := k / 2) (hg) rfl (by omega) rfl rfl ?_
          show ab_W _ _ _ (34, [.ref 84, .long N, .retAddr 0, .int (nI k), v4], [.int (g (k / 2))], (0, 0), h1)
          refine ab_W.topi (j1) ?_
          refine ab_W.go (mm _) 2 (c' := (36, [.ref 84, .long N, .retAddr 0, .int (nI k), v4], [.int (nI 2), .int (nI k), .int (nI (W (k / 2)))], (0, 0), h1)) rfl ?_
          refine ab_W.go (mm _) 1 (c' := (37, [.ref 84, .long N, .retAddr 0, .int (nI k), v4], [.int ((nI k) - (nI k) / (nI 2) * (nI 2)), .int (nI (W (k / 2)))], (0, 0), h1)) rfl ?_
          refine ab_W.topi (rem_I k hk) ?_
          refine ab_W.ite (mm _) (p := (nI (k % 2)) = 0) (c1 := (40, [.ref 84, .long N, .retAddr 0, .int (nI k), v4], [.int (nI (W (k / 2)))], (0, 0), h1)) (c2 := (44, [.ref 84, .long N, .retAddr 0, .int (nI k), v4], [.int (nI (W (k / 2)))], (0, 0), h1)) rfl (fun q3 => ?_) (fun q3 => ?_)
          · skip
            have q3 : k % 2 = 0 := (nI_eq (by omega) (by omega)).mp (q3.trans nI_0.symm)
            refine ab_W.go (mm _) 2 (c' := (45, [.ref 84, .long N, .retAddr 0, .int (nI k), v4], [.int (nI 3), .int (nI (W (k / 2)))], (0, 0), h1)) rfl ?_
            refine ab_W.ite (mm _) (p := (nI (W (k / 2))) = (nI 3)) (c1 := (48, [.ref 84, .long N, .retAddr 0, .int (nI k), v4], [], (0, 0), h1)) (c2 := (52, [.ref 84, .long N, .retAddr 0, .int (nI k), v4], [], (0, 0), h1)) rfl (fun q4 => ?_) (fun q4 => ?_)
            · skip
              have q4 : W (k / 2) = 3 := (nI_eq (by omega) (by omega)).mp q4
              refine ab_W.go (mm _) 2 (c' := (53, [.ref 84, .long N, .retAddr 0, .int (nI k), v4], [.int (nI 1)], (0, 0), h1)) rfl ?_
              exact mid true ⟨fun _ => Or.inr (Or.inr (by rw [if_pos q3]; exact q4)), fun _ => rfl⟩
            · skip
              have q4 : ¬ W (k / 2) = 3 := fun z => q4 (by rw [z])
              refine ab_W.go (mm _) 1 (c' := (53, [.ref 84, .long N, .retAddr 0, .int (nI k), v4], [.int (nI 0)], (0, 0), h1)) rfl ?_
              exact mid false ⟨fun z => (by cases z), fun z => z.elim (fun y => absurd y q1) (fun y => y.elim (fun x => absurd x q2) (fun x => absurd (by rw [if_pos q3] at x; exact x) q4))⟩
          · skip
            have q3 : ¬ k % 2 = 0 := fun z => q3 (by rw [z]; exact nI_0)
            refine ab_W.go (mm _) 1 (c' := (45, [.ref 84, .long N, .retAddr 0, .int (nI k), v4], [.int (nI 2), .int (nI (W (k / 2)))], (0, 0), h1)) rfl ?_
            refine ab_W.ite (mm _) (p := (nI (W (k / 2))) = (nI 2)) (c1 := (48, [.ref 84, .long N, .retAddr 0, .int (nI k), v4], [], (0, 0), h1)) (c2 := (52, [.ref 84, .long N, .retAddr 0, .int (nI k), v4], [], (0, 0), h1)) rfl (fun q4 => ?_) (fun q4 => ?_)
            · skip
              have q4 : W (k / 2) = 2 := (nI_eq (by omega) (by omega)).mp q4
              refine ab_W.go (mm _) 2 (c' := (53, [.ref 84, .long N, .retAddr 0, .int (nI k), v4], [.int (nI 1)], (0, 0), h1)) rfl ?_
              exact mid true ⟨fun _ => Or.inr (Or.inr (by rw [if_neg q3]; exact q4)), fun _ => rfl⟩
            · skip
              have q4 : ¬ W (k / 2) = 2 := fun z => q4 (by rw [z])
              refine ab_W.go (mm _) 1 (c' := (53, [.ref 84, .long N, .retAddr 0, .int (nI k), v4], [.int (nI 0)], (0, 0), h1)) rfl ?_
              exact mid false ⟨fun z => (by cases z), fun z => z.elim (fun y => absurd y q1) (fun y => y.elim (fun x => absurd x q2) (fun x => absurd (by rw [if_neg q3] at x; exact x) q4))⟩
  refine ⟨rfl, ?_⟩
  show ab_W _ _ _ (0, [.ref 84, .long N, .retAddr 0, .retAddr 0, .retAddr 0], [], (0, 0), h)
  refine ab_W.go (mm _) 2 (c' := (2, [.ref 84, .long N, .retAddr 0, .int (nI 1), .retAddr 0], [], (0, 0), h)) rfl ?_
  exact first 1 (by decide) (by decide) h g0 (fun _ => 0) _ (fun _ _ => rfl) hw (fun j a b => absurd a (by omega))
