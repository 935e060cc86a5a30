/-! THE REFERENCE: pieces and what they cost -/
theorem half_I : ∀ k, k < 128 → nI k / nI 2 = nI (k / 2) := by decide +kernel
theorem sp_misPiece (d : Nat) {h : ab_H} {N : Int64} {k : Nat} (h1 : 1 ≤ k) (hk : k < 128) {post : ab_P} (hp : ∀ v : Int32, (isP N k ∧ v = nI 1) ∨ (¬ isP N k ∧ v = nI 0) → post (some (.int v)) h) : mCC (d + 6) kSpanStampsModel_isPiece [.int (nI k), .long N] h post := by
  refine ⟨rfl, ?_⟩
  show ab_W _ _ _ (0, [.int (nI k), .long N, .retAddr 0], [], (0, 0), h)
  refine ab_W.go (mm _) 2 (c' := (2, [.int (nI k), .long N, .retAddr 0], [.long N, .int (nI k)], (0, 0), h)) rfl ?_
  refine ab_W.call (mm _) (k := 74) (av := [.int (nI k), .long N]) (c' := (5, [.int (nI k), .long N, .retAddr 0], [], (0, 0), h)) rfl ?_
  refine mliesIn _ h1 hk (fun v hv => ?_)
  rcases hv with ⟨q, rfl⟩ | ⟨q, rfl⟩
  · skip
    show ab_W _ _ _ (5, [.int (nI k), .long N, .retAddr 0], [.int (nI 1)], (0, 0), h)
    refine ab_W.itF (mm _) (p := (nI 1) = 0) (c1 := (27, [.int (nI k), .long N, .retAddr 0], [], (0, 0), h)) (c2 := (8, [.int (nI k), .long N, .retAddr 0], [], (0, 0), h)) rfl (nI_ne01) ?_
    refine ab_W.go (mm _) 2 (c' := (10, [.int (nI k), .long N, .retAddr 0], [.int (nI 1), .int (nI k)], (0, 0), h)) rfl ?_
    refine ab_W.ite (mm _) (p := (nI k) = (nI 1)) (c1 := (23, [.int (nI k), .long N, .retAddr 0], [], (0, 0), h)) (c2 := (13, [.int (nI k), .long N, .retAddr 0], [], (0, 0), h)) rfl (fun q1 => ?_) (fun q1 => ?_)
    · skip
      have q1 : k = 1 := (nI_eq (by omega) (by omega)).mp q1
      refine ab_W.go (mm _) 2 (c' := (28, [.int (nI k), .long N, .retAddr 0], [.int (nI 1)], (0, 0), h)) rfl ?_
      refine ab_W.retI (mm _) (rt := some .boolean) (v := nI 1) rfl rfl ?_
      exact hp _ (Or.inl ⟨⟨q, Or.inl q1⟩, rfl⟩)
    · skip
      have q1 : ¬ k = 1 := fun z => q1 (by rw [z])
      refine ab_W.go (mm _) 2 (c' := (15, [.int (nI k), .long N, .retAddr 0], [.int (nI 2), .int (nI k)], (0, 0), h)) rfl ?_
      refine ab_W.go (mm _) 1 (c' := (16, [.int (nI k), .long N, .retAddr 0], [.int ((nI k) / (nI 2))], (0, 0), h)) rfl ?_
      refine ab_W.topi (half_I k hk) ?_
      refine ab_W.go (mm _) 1 (c' := (17, [.int (nI k), .long N, .retAddr 0], [.long N, .int (nI (k / 2))], (0, 0), h)) rfl ?_
      refine ab_W.call (mm _) (k := 74) (av := [.int (nI (k / 2)), .long N]) (c' := (20, [.int (nI k), .long N, .retAddr 0], [], (0, 0), h)) rfl ?_
      refine mliesIn _ (by omega) (by omega) (fun v hv => ?_)
      rcases hv with ⟨q2, rfl⟩ | ⟨q2, rfl⟩
      · skip
        show ab_W _ _ _ (20, [.int (nI k), .long N, .retAddr 0], [.int (nI 1)], (0, 0), h)
        refine ab_W.itF (mm _) (p := (nI 1) = 0) (c1 := (23, [.int (nI k), .long N, .retAddr 0], [], (0, 0), h)) (c2 := (27, [.int (nI k), .long N, .retAddr 0], [], (0, 0), h)) rfl (nI_ne01) ?_
        refine ab_W.go (mm _) 1 (c' := (28, [.int (nI k), .long N, .retAddr 0], [.int (nI 0)], (0, 0), h)) rfl ?_
        refine ab_W.retI (mm _) (rt := some .boolean) (v := nI 0) rfl rfl ?_
        exact hp _ (Or.inr ⟨fun z => z.2.elim q1 (fun y => y q2), rfl⟩)
      · skip
        show ab_W _ _ _ (20, [.int (nI k), .long N, .retAddr 0], [.int (nI 0)], (0, 0), h)
        refine ab_W.itT (mm _) (p := (nI 0) = 0) (c1 := (23, [.int (nI k), .long N, .retAddr 0], [], (0, 0), h)) (c2 := (27, [.int (nI k), .long N, .retAddr 0], [], (0, 0), h)) rfl (nI_0) ?_
        refine ab_W.go (mm _) 2 (c' := (28, [.int (nI k), .long N, .retAddr 0], [.int (nI 1)], (0, 0), h)) rfl ?_
        refine ab_W.retI (mm _) (rt := some .boolean) (v := nI 1) rfl rfl ?_
        exact hp _ (Or.inl ⟨⟨q, Or.inr q2⟩, rfl⟩)
  · skip
    show ab_W _ _ _ (5, [.int (nI k), .long N, .retAddr 0], [.int (nI 0)], (0, 0), h)
    refine ab_W.itT (mm _) (p := (nI 0) = 0) (c1 := (27, [.int (nI k), .long N, .retAddr 0], [], (0, 0), h)) (c2 := (8, [.int (nI k), .long N, .retAddr 0], [], (0, 0), h)) rfl (nI_0) ?_
    refine ab_W.go (mm _) 1 (c' := (28, [.int (nI k), .long N, .retAddr 0], [.int (nI 0)], (0, 0), h)) rfl ?_
    refine ab_W.retI (mm _) (rt := some .boolean) (v := nI 0) rfl rfl ?_
    exact hp _ (Or.inr ⟨fun z => q z.1, rfl⟩)
theorem sp_mpieces (d : Nat) {h : ab_H} {N : Int64} {post : ab_P} (hp : post (some (.int (nI (npc N)))) h) : mCC (d + 7) kSpanStampsModel_pieces [.long N] h post := by
  have loop : ∀ k, k ≤ 128 → 1 ≤ k → ab_W (ab_st (mT kSpanStampsModel_pieces) mB mF (mR kSpanStampsModel_pieces) none) (mCC (d + 6)) post (4, [.long N, .retAddr 0, .int (nI (cn (fun k => 1 ≤ k ∧ isP N k) k)), .int (nI k)], [], (0, 0), h) := by
    refine down 128 ?_ ?_
    · intro _
      refine ab_W.go (mm _) 2 (c' := (8, [.long N, .retAddr 0, .int (nI (cn (fun k => 1 ≤ k ∧ isP N k) 128)), .int (nI 128)], [.int (nI 128), .int (nI 128)], (0, 0), h)) rfl ?_
      refine ab_W.itT (mm _) (p := (nI 128) ≤ (nI 128)) (c1 := (33, [.long N, .retAddr 0, .int (nI (cn (fun k => 1 ≤ k ∧ isP N k) 128)), .int (nI 128)], [], (0, 0), h)) (c2 := (11, [.long N, .retAddr 0, .int (nI (cn (fun k => 1 ≤ k ∧ isP N k) 128)), .int (nI 128)], [], (0, 0), h)) rfl ((by decide)) ?_
      refine ab_W.go (mm _) 1 (c' := (34, [.long N, .retAddr 0, .int (nI (cn (fun k => 1 ≤ k ∧ isP N k) 128)), .int (nI 128)], [.int (nI (cn (fun k => 1 ≤ k ∧ isP N k) 128))], (0, 0), h)) rfl ?_
      refine ab_W.retI (mm _) (rt := some .int) (v := nI (cn (fun k => 1 ≤ k ∧ isP N k) 128)) rfl rfl ?_
      exact hp
    · intro k hk ih h1
      have ih := ih (by omega)
      refine ab_W.go (mm _) 2 (c' := (8, [.long N, .retAddr 0, .int (nI (cn (fun k => 1 ≤ k ∧ isP N k) k)), .int (nI k)], [.int (nI 128), .int (nI k)], (0, 0), h)) rfl ?_
      refine ab_W.itF (mm _) (p := (nI 128) ≤ (nI k)) (c1 := (33, [.long N, .retAddr 0, .int (nI (cn (fun k => 1 ≤ k ∧ isP N k) k)), .int (nI k)], [], (0, 0), h)) (c2 := (11, [.long N, .retAddr 0, .int (nI (cn (fun k => 1 ≤ k ∧ isP N k) k)), .int (nI k)], [], (0, 0), h)) rfl (fun z => absurd ((nI_leI (by omega) (by omega)).mp z) (by omega)) ?_
      refine ab_W.go (mm _) 3 (c' := (14, [.long N, .retAddr 0, .int (nI (cn (fun k => 1 ≤ k ∧ isP N k) k)), .int (nI k)], [.long N, .int (nI k), .int (nI (cn (fun k => 1 ≤ k ∧ isP N k) k))], (0, 0), h)) rfl ?_
      refine ab_W.call (mm _) (k := 90) (av := [.int (nI k), .long N]) (c' := (17, [.long N, .retAddr 0, .int (nI (cn (fun k => 1 ≤ k ∧ isP N k) k)), .int (nI k)], [.int (nI (cn (fun k => 1 ≤ k ∧ isP N k) k))], (0, 0), h)) rfl ?_
      refine sp_misPiece _ h1 hk (fun v hv => ?_)
      rcases hv with ⟨q, rfl⟩ | ⟨q, rfl⟩
      · rw [cn_t (p := fun k => 1 ≤ k ∧ isP N k) ⟨h1, q⟩] at ih
        show ab_W _ _ _ (17, [.long N, .retAddr 0, .int (nI (cn (fun k => 1 ≤ k ∧ isP N k) k)), .int (nI k)], [.int (nI 1), .int (nI (cn (fun k => 1 ≤ k ∧ isP N k) k))], (0, 0), h)
        refine ab_W.itF (mm _) (p := (nI 1) = 0) (c1 := (24, [.long N, .retAddr 0, .int (nI (cn (fun k => 1 ≤ k ∧ isP N k) k)), .int (nI k)], [.int (nI (cn (fun k => 1 ≤ k ∧ isP N k) k))], (0, 0), h)) (c2 := (20, [.long N, .retAddr 0, .int (nI (cn (fun k => 1 ≤ k ∧ isP N k) k)), .int (nI k)], [.int (nI (cn (fun k => 1 ≤ k ∧ isP N k) k))], (0, 0), h)) rfl (nI_ne01) ?_
        refine ab_W.go (mm _) 3 (c' := (26, [.long N, .retAddr 0, .int (nI (cn (fun k => 1 ≤ k ∧ isP N k) k)), .int (nI k)], [.int ((nI (cn (fun k => 1 ≤ k ∧ isP N k) k)) + (nI 1))], (0, 0), h)) rfl ?_
        refine ab_W.topi (nI_add (cn (fun k => 1 ≤ k ∧ isP N k) k) 1) ?_
        refine ab_W.go (mm _) 2 (c' := (30, [.long N, .retAddr 0, .int (nI ((cn (fun k => 1 ≤ k ∧ isP N k) k) + 1)), .int (nI k + nI 1)], [], (0, 0), h)) rfl ?_
        rw [nI_add k 1]
        refine ab_W.go (mm _) 1 (c' := (4, [.long N, .retAddr 0, .int (nI ((cn (fun k => 1 ≤ k ∧ isP N k) k) + 1)), .int (nI (k + 1))], [], (0, 0), h)) rfl ?_
        exact ih
      · rw [cn_f (p := fun k => 1 ≤ k ∧ isP N k) (fun z => q z.2)] at ih
        show ab_W _ _ _ (17, [.long N, .retAddr 0, .int (nI (cn (fun k => 1 ≤ k ∧ isP N k) k)), .int (nI k)], [.int (nI 0), .int (nI (cn (fun k => 1 ≤ k ∧ isP N k) k))], (0, 0), h)
        refine ab_W.itT (mm _) (p := (nI 0) = 0) (c1 := (24, [.long N, .retAddr 0, .int (nI (cn (fun k => 1 ≤ k ∧ isP N k) k)), .int (nI k)], [.int (nI (cn (fun k => 1 ≤ k ∧ isP N k) k))], (0, 0), h)) (c2 := (20, [.long N, .retAddr 0, .int (nI (cn (fun k => 1 ≤ k ∧ isP N k) k)), .int (nI k)], [.int (nI (cn (fun k => 1 ≤ k ∧ isP N k) k))], (0, 0), h)) rfl (nI_0) ?_
        refine ab_W.go (mm _) 2 (c' := (26, [.long N, .retAddr 0, .int (nI (cn (fun k => 1 ≤ k ∧ isP N k) k)), .int (nI k)], [.int ((nI (cn (fun k => 1 ≤ k ∧ isP N k) k)) + (nI 0))], (0, 0), h)) rfl ?_
        refine ab_W.topi (nI_add (cn (fun k => 1 ≤ k ∧ isP N k) k) 0) ?_
        refine ab_W.go (mm _) 2 (c' := (30, [.long N, .retAddr 0, .int (nI ((cn (fun k => 1 ≤ k ∧ isP N k) k) + 0)), .int (nI k + nI 1)], [], (0, 0), h)) rfl ?_
        rw [nI_add k 1]
        refine ab_W.go (mm _) 1 (c' := (4, [.long N, .retAddr 0, .int (nI ((cn (fun k => 1 ≤ k ∧ isP N k) k) + 0)), .int (nI (k + 1))], [], (0, 0), h)) rfl ?_
        exact ih
  have e1 : cn (fun k => 1 ≤ k ∧ isP N k) 1 = 0 := cn_f (p := fun k => 1 ≤ k ∧ isP N k) (fun z => absurd z.1 (by omega))
  have l1 := loop 1 (by omega) (by omega)
  rw [e1] at l1
  refine ⟨rfl, ?_⟩
  show ab_W _ _ _ (0, [.long N, .retAddr 0, .retAddr 0, .retAddr 0], [], (0, 0), h)
  refine ab_W.go (mm _) 4 (c' := (4, [.long N, .retAddr 0, .int (nI 0), .int (nI 1)], [], (0, 0), h)) rfl ?_
  exact l1
theorem up_end : ∀ k, k < 128 → 1 ≤ k → k / 2 ^ (dep k + 1) = 0 ∧ anc (beg k) (dep k) = k := by decide +kernel
theorem up_anc : ∀ k, k < 128 → 1 ≤ k → ∀ j, j ≤ 6 → j ≤ dep k → k / 2 ^ j = anc (beg k) (dep k - j) := by decide +kernel
theorem cst_I : ∀ a, a ≤ 6 → ∀ b, b ≤ a → nI a + nI 1000 * (nI a - nI b) = nI (a + 1000 * (a - b)) := by decide +kernel
theorem sp_mcost (d : Nat) {h : ab_H} {hap sz op : Int32} {k : Nat} {f : Nat → Int32} (h0 : h[84]? = some (mObj hap sz op)) (hN : nowP h f) (h1 : 1 ≤ k) (hk : k < 128) {post : ab_P} (hp : post (some (.int (nI (cst f k)))) h) : mCC (d + 6) kSpanStampsModel_costOf [.ref 84, .int (nI k)] h post := by
  obtain ⟨s1, s2, s3, s4⟩ := sp_le k hk h1
  obtain ⟨u1, u2⟩ := up_end k hk h1
  have loop : ∀ j, j ≤ dep k + 1 → ab_W (ab_st (mT kSpanStampsModel_costOf) mB mF (mR kSpanStampsModel_costOf) none) (mCC (d + 5)) post (4, [.ref 84, .int (nI k), .int (nI (anc (beg k) (alD f (beg k) (dep k) (j - 1)))), .int (nI (k / 2 ^ j))], [], (0, 0), h) := by
    refine down (dep k + 1) ?_ ?_
    · rw [u1]
      have w1 := wid_le f k
      obtain ⟨w2, w3, w4, -⟩ := anc_ok (wid f k) (by omega) (beg k) s4
      show ab_W _ _ _ (4, [.ref 84, .int (nI k), .int (nI (anc (beg k) (wid f k))), .int (nI 0)], [], (0, 0), h)
      refine ab_W.go (mm _) 1 (c' := (5, [.ref 84, .int (nI k), .int (nI (anc (beg k) (wid f k))), .int (nI 0)], [.int (nI 0)], (0, 0), h)) rfl ?_
      refine ab_W.itT (mm _) (p := (nI 0) ≤ 0) (c1 := (29, [.ref 84, .int (nI k), .int (nI (anc (beg k) (wid f k))), .int (nI 0)], [], (0, 0), h)) (c2 := (8, [.ref 84, .int (nI k), .int (nI (anc (beg k) (wid f k))), .int (nI 0)], [], (0, 0), h)) rfl ((by decide)) ?_
      refine ab_W.go (mm _) 1 (c' := (30, [.ref 84, .int (nI k), .int (nI (anc (beg k) (wid f k))), .int (nI 0)], [.int (nI k)], (0, 0), h)) rfl ?_
      refine ab_W.call (mm _) (k := 70) (av := [.int (nI k)]) (c' := (33, [.ref 84, .int (nI k), .int (nI (anc (beg k) (wid f k))), .int (nI 0)], [], (0, 0), h)) rfl ?_
      refine mdepthOf _ h1 hk ?_
      show ab_W _ _ _ (33, [.ref 84, .int (nI k), .int (nI (anc (beg k) (wid f k))), .int (nI 0)], [.int (nI (dep k))], (0, 0), h)
      refine ab_W.go (mm _) 2 (c' := (37, [.ref 84, .int (nI k), .int (nI (anc (beg k) (wid f k))), .int (nI 0)], [.int (nI k), .int (nI 1000), .int (nI (dep k))], (0, 0), h)) rfl ?_
      refine ab_W.call (mm _) (k := 70) (av := [.int (nI k)]) (c' := (40, [.ref 84, .int (nI k), .int (nI (anc (beg k) (wid f k))), .int (nI 0)], [.int (nI 1000), .int (nI (dep k))], (0, 0), h)) rfl ?_
      refine mdepthOf _ h1 hk ?_
      show ab_W _ _ _ (40, [.ref 84, .int (nI k), .int (nI (anc (beg k) (wid f k))), .int (nI 0)], [.int (nI (dep k)), .int (nI 1000), .int (nI (dep k))], (0, 0), h)
      refine ab_W.go (mm _) 1 (c' := (41, [.ref 84, .int (nI k), .int (nI (anc (beg k) (wid f k))), .int (nI 0)], [.int (nI (anc (beg k) (wid f k))), .int (nI (dep k)), .int (nI 1000), .int (nI (dep k))], (0, 0), h)) rfl ?_
      refine ab_W.call (mm _) (k := 70) (av := [.int (nI (anc (beg k) (wid f k)))]) (c' := (44, [.ref 84, .int (nI k), .int (nI (anc (beg k) (wid f k))), .int (nI 0)], [.int (nI (dep k)), .int (nI 1000), .int (nI (dep k))], (0, 0), h)) rfl ?_
      refine mdepthOf _ w2 w3 ?_
      show ab_W _ _ _ (44, [.ref 84, .int (nI k), .int (nI (anc (beg k) (wid f k))), .int (nI 0)], [.int (nI (dep (anc (beg k) (wid f k)))), .int (nI (dep k)), .int (nI 1000), .int (nI (dep k))], (0, 0), h)
      rw [w4]
      refine ab_W.go (mm _) 3 (c' := (47, [.ref 84, .int (nI k), .int (nI (anc (beg k) (wid f k))), .int (nI 0)], [.int ((nI (dep k)) + ((nI 1000) * ((nI (dep k)) - (nI (wid f k)))))], (0, 0), h)) rfl ?_
      refine ab_W.topi (cst_I (dep k) s1 (wid f k) w1) ?_
      refine ab_W.retI (mm _) (rt := some .int) (v := nI (cst f k)) rfl rfl ?_
      exact hp
    · intro j hj ih
      have e := up_anc k hk h1 j (by omega) (by omega)
      obtain ⟨a1, a2, a3, -⟩ := anc_ok (dep k - j) (by omega) (beg k) s4
      have b1 : 1 ≤ k / 2 ^ j := by rw [e]; exact a1
      have b2 : k / 2 ^ j < 128 := by rw [e]; exact a2
      have e2 : k / 2 ^ j / 2 = k / 2 ^ (j + 1) := by rw [Nat.div_div_eq_div_mul, Nat.pow_succ]
      rw [show j + 1 - 1 = j from rfl] at ih
      refine ab_W.go (mm _) 1 (c' := (5, [.ref 84, .int (nI k), .int (nI (anc (beg k) (alD f (beg k) (dep k) (j - 1)))), .int (nI (k / 2 ^ j))], [.int (nI (k / 2 ^ j))], (0, 0), h)) rfl ?_
      refine ab_W.itF (mm _) (p := (nI (k / 2 ^ j)) ≤ 0) (c1 := (29, [.ref 84, .int (nI k), .int (nI (anc (beg k) (alD f (beg k) (dep k) (j - 1)))), .int (nI (k / 2 ^ j))], [], (0, 0), h)) (c2 := (8, [.ref 84, .int (nI k), .int (nI (anc (beg k) (alD f (beg k) (dep k) (j - 1)))), .int (nI (k / 2 ^ j))], [], (0, 0), h)) rfl (fun z => absurd ((nI_leI (a := k / 2 ^ j) (b := 0) (by omega) (by omega)).mp (by rw [nI_0]; exact z)) (by omega)) ?_
      refine ab_W.go (mm _) 2 (c' := (10, [.ref 84, .int (nI k), .int (nI (anc (beg k) (alD f (beg k) (dep k) (j - 1)))), .int (nI (k / 2 ^ j))], [.int (nI (k / 2 ^ j)), .ref 84], (0, 0), h)) rfl ?_
      refine ab_W.callV (mm _) (h0) rfl (k := 83) (av := [.ref 84, .int (nI (k / 2 ^ j))]) (c' := (13, [.ref 84, .int (nI k), .int (nI (anc (beg k) (alD f (beg k) (dep k) (j - 1)))), .int (nI (k / 2 ^ j))], [], (0, 0), h)) rfl ?_
      refine sp_malike d h0 hN b1 b2 (fun v hv => ?_)
      rcases hv with ⟨q, rfl⟩ | ⟨q, rfl⟩
      · have ew : nI (anc (beg k) (alD f (beg k) (dep k) j)) = nI (k / 2 ^ j) := by
          match j, q, e with
          | 0, _, e =>
            show nI (anc (beg k) (dep k)) = _
            rw [e]
            rfl
          | i + 1, q, e =>
            rw [e] at q
            rw [show alD f (beg k) (dep k) (i + 1) = _ from ci_t q, e]
        rw [ew] at ih
        show ab_W _ _ _ (13, [.ref 84, .int (nI k), .int (nI (anc (beg k) (alD f (beg k) (dep k) (j - 1)))), .int (nI (k / 2 ^ j))], [.int (nI 1)], (0, 0), h)
        refine ab_W.itF (mm _) (p := (nI 1) = 0) (c1 := (20, [.ref 84, .int (nI k), .int (nI (anc (beg k) (alD f (beg k) (dep k) (j - 1)))), .int (nI (k / 2 ^ j))], [], (0, 0), h)) (c2 := (16, [.ref 84, .int (nI k), .int (nI (anc (beg k) (alD f (beg k) (dep k) (j - 1)))), .int (nI (k / 2 ^ j))], [], (0, 0), h)) rfl (nI_ne01) ?_
        refine ab_W.go (mm _) 5 (c' := (24, [.ref 84, .int (nI k), .int (nI (k / 2 ^ j)), .int (nI (k / 2 ^ j))], [.int (nI 2), .int (nI (k / 2 ^ j))], (0, 0), h)) rfl ?_
        refine ab_W.go (mm _) 1 (c' := (25, [.ref 84, .int (nI k), .int (nI (k / 2 ^ j)), .int (nI (k / 2 ^ j))], [.int ((nI (k / 2 ^ j)) / (nI 2))], (0, 0), h)) rfl ?_
        refine ab_W.topi ((half_I _ b2).trans (congrArg nI e2)) ?_
        refine ab_W.go (mm _) 2 (c' := (4, [.ref 84, .int (nI k), .int (nI (k / 2 ^ j)), .int (nI (k / 2 ^ (j + 1)))], [], (0, 0), h)) rfl ?_
        exact ih
      · have ew : nI (anc (beg k) (alD f (beg k) (dep k) j)) = nI (anc (beg k) (alD f (beg k) (dep k) (j - 1))) := by
          match j, q, e with
          | 0, _, _ => rfl
          | i + 1, q, e =>
            rw [e] at q
            rw [show alD f (beg k) (dep k) (i + 1) = _ from ci_f q]
            rfl
        rw [ew] at ih
        show ab_W _ _ _ (13, [.ref 84, .int (nI k), .int (nI (anc (beg k) (alD f (beg k) (dep k) (j - 1)))), .int (nI (k / 2 ^ j))], [.int (nI 0)], (0, 0), h)
        refine ab_W.itT (mm _) (p := (nI 0) = 0) (c1 := (20, [.ref 84, .int (nI k), .int (nI (anc (beg k) (alD f (beg k) (dep k) (j - 1)))), .int (nI (k / 2 ^ j))], [], (0, 0), h)) (c2 := (16, [.ref 84, .int (nI k), .int (nI (anc (beg k) (alD f (beg k) (dep k) (j - 1)))), .int (nI (k / 2 ^ j))], [], (0, 0), h)) rfl (nI_0) ?_
        refine ab_W.go (mm _) 4 (c' := (24, [.ref 84, .int (nI k), .int (nI (anc (beg k) (alD f (beg k) (dep k) (j - 1)))), .int (nI (k / 2 ^ j))], [.int (nI 2), .int (nI (k / 2 ^ j))], (0, 0), h)) rfl ?_
        refine ab_W.go (mm _) 1 (c' := (25, [.ref 84, .int (nI k), .int (nI (anc (beg k) (alD f (beg k) (dep k) (j - 1)))), .int (nI (k / 2 ^ j))], [.int ((nI (k / 2 ^ j)) / (nI 2))], (0, 0), h)) rfl ?_
        refine ab_W.topi ((half_I _ b2).trans (congrArg nI e2)) ?_
        refine ab_W.go (mm _) 2 (c' := (4, [.ref 84, .int (nI k), .int (nI (anc (beg k) (alD f (beg k) (dep k) (j - 1)))), .int (nI (k / 2 ^ (j + 1)))], [], (0, 0), h)) rfl ?_
        exact ih
  have l0 := loop 0 (Nat.zero_le _)
  rw [show anc (beg k) (alD f (beg k) (dep k) (0 - 1)) = k from u2, show k / 2 ^ 0 = k from Nat.div_one k] at l0
  refine ⟨rfl, ?_⟩
  show ab_W _ _ _ (0, [.ref 84, .int (nI k), .retAddr 0, .retAddr 0], [], (0, 0), h)
  refine ab_W.go (mm _) 4 (c' := (4, [.ref 84, .int (nI k), .int (nI k), .int (nI k)], [], (0, 0), h)) rfl ?_
  exact l0
