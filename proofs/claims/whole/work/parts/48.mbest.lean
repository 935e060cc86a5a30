/-! THE REFERENCE: the piece that grows, and by which way a span is filled -/
def UpK (N : Int64) (f : Nat → Int32) (m b : Nat) : Prop := (1 ≤ b ∧ b < m ∧ isP N b) ∧ ∀ l, 1 ≤ l → l < m → isP N l → cst f b < cst f l ∨ (cst f b = cst f l ∧ beg l ≤ beg b)
theorem sp_mbest (d : Nat) {h : ab_H} {hap sz op : Int32} {N : Int64} {f : Nat → Int32} (h0 : h[84]? = some (mObj hap sz op)) (hN : nowP h f) (hex : ∃ k, 1 ≤ k ∧ k < 128 ∧ isP N k) {post : ab_P} (hp : ∀ k, Best N f k → post (some (.int (nI k))) h) : mCC (d + 7) kSpanStampsModel_piece [.ref 84, .long N] h post := by
  have loop : ∀ m, m ≤ 128 → 1 ≤ m → ∀ v : Int32, ((∃ b, UpK N f m b ∧ v = nI b) ∨ ((∀ l, 1 ≤ l → l < m → ¬ isP N l) ∧ v = -(nI 6))) → ab_W (ab_st (mT kSpanStampsModel_piece) mB mF (mR kSpanStampsModel_piece) none) (mCC (d + 6)) post (6, [.ref 84, .long N, .retAddr 0, .int v, .int (nI m)], [], (0, 0), h) := by
    refine down 128 ?_ ?_
    · intro _ v hv
      refine ab_W.go (mm _) 2 (c' := (11, [.ref 84, .long N, .retAddr 0, .int v, .int (nI 128)], [.int (nI 128), .int (nI 128)], (0, 0), h)) rfl ?_
      refine ab_W.itT (mm _) (p := (nI 128) ≤ (nI 128)) (c1 := (76, [.ref 84, .long N, .retAddr 0, .int v, .int (nI 128)], [], (0, 0), h)) (c2 := (14, [.ref 84, .long N, .retAddr 0, .int v, .int (nI 128)], [], (0, 0), h)) rfl ((by decide)) ?_
      refine ab_W.go (mm _) 1 (c' := (77, [.ref 84, .long N, .retAddr 0, .int v, .int (nI 128)], [.int v], (0, 0), h)) rfl ?_
      refine ab_W.retI (mm _) (rt := some .int) (v := v) rfl rfl ?_
      rcases hv with ⟨b, ⟨⟨b1, b2, b3⟩, b4⟩, rfl⟩ | ⟨a, -⟩
      · exact hp b ⟨⟨b1, b2, b3⟩, b4⟩
      · obtain ⟨k, k1, k2, k3⟩ := hex
        exact absurd k3 (a k k1 k2)
    · intro k hk ih h1 v hv
      have ih := ih (by omega)
      have keep : ¬ isP N k → ((∃ b, UpK N f (k + 1) b ∧ v = nI b) ∨ ((∀ l, 1 ≤ l → l < k + 1 → ¬ isP N l) ∧ v = -(nI 6))) := by
        intro n
        rcases hv with ⟨b, ⟨⟨b1, b2, b3⟩, b4⟩, e⟩ | ⟨a, e⟩
        · refine Or.inl ⟨b, ⟨⟨b1, by omega, b3⟩, fun l l1 l2 l3 => ?_⟩, e⟩
          by_cases el : l = k
          · rw [el] at l3; exact absurd l3 n
          · exact b4 l l1 (by omega) l3
        · refine Or.inr ⟨fun l l1 l2 l3 => ?_, e⟩
          by_cases el : l = k
          · rw [el] at l3; exact absurd l3 n
          · exact a l l1 (by omega) l3
      refine ab_W.go (mm _) 2 (c' := (11, [.ref 84, .long N, .retAddr 0, .int v, .int (nI k)], [.int (nI 128), .int (nI k)], (0, 0), h)) rfl ?_
      refine ab_W.itF (mm _) (p := (nI 128) ≤ (nI k)) (c1 := (76, [.ref 84, .long N, .retAddr 0, .int v, .int (nI k)], [], (0, 0), h)) (c2 := (14, [.ref 84, .long N, .retAddr 0, .int v, .int (nI k)], [], (0, 0), h)) rfl (fun z => absurd ((nI_leI (by omega) (by omega)).mp z) (by omega)) ?_
      refine ab_W.go (mm _) 2 (c' := (17, [.ref 84, .long N, .retAddr 0, .int v, .int (nI k)], [.long N, .int (nI k)], (0, 0), h)) rfl ?_
      refine ab_W.call (mm _) (k := 90) (av := [.int (nI k), .long N]) (c' := (20, [.ref 84, .long N, .retAddr 0, .int v, .int (nI k)], [], (0, 0), h)) rfl ?_
      refine sp_misPiece _ h1 hk (fun w hw => ?_)
      rcases hw with ⟨q, rfl⟩ | ⟨q, rfl⟩
      · rcases hv with ⟨b, ⟨⟨b1, b2, b3⟩, b4⟩, rfl⟩ | ⟨a, rfl⟩
        · have c1 := cst_le (f := f) h1 hk
          have c2 := cst_le (f := f) b1 (by omega)
          have g1 := (sp_le k hk h1).2.2.2
          have g2 := (sp_le b (by omega) b1).2.2.2
          show ab_W _ _ _ (20, [.ref 84, .long N, .retAddr 0, .int (nI b), .int (nI k)], [.int (nI 1)], (0, 0), h)
          refine ab_W.itF (mm _) (p := (nI 1) = 0) (c1 := (70, [.ref 84, .long N, .retAddr 0, .int (nI b), .int (nI k)], [], (0, 0), h)) (c2 := (23, [.ref 84, .long N, .retAddr 0, .int (nI b), .int (nI k)], [], (0, 0), h)) rfl (nI_ne01) ?_
          refine ab_W.go (mm _) 1 (c' := (24, [.ref 84, .long N, .retAddr 0, .int (nI b), .int (nI k)], [.int (nI b)], (0, 0), h)) rfl ?_
          refine ab_W.itF (mm _) (p := (nI b) < 0) (c1 := (67, [.ref 84, .long N, .retAddr 0, .int (nI b), .int (nI k)], [], (0, 0), h)) (c2 := (27, [.ref 84, .long N, .retAddr 0, .int (nI b), .int (nI k)], [], (0, 0), h)) rfl (nI_pos (by omega)) ?_
          refine ab_W.go (mm _) 2 (c' := (30, [.ref 84, .long N, .retAddr 0, .int (nI b), .int (nI k)], [.int (nI k), .ref 84], (0, 0), h)) rfl ?_
          refine ab_W.callV (mm _) (h0) rfl (k := 91) (av := [.ref 84, .int (nI k)]) (c' := (33, [.ref 84, .long N, .retAddr 0, .int (nI b), .int (nI k)], [], (0, 0), h)) rfl ?_
          refine sp_mcost _ h0 hN h1 hk ?_
          show ab_W _ _ _ (33, [.ref 84, .long N, .retAddr 0, .int (nI b), .int (nI k)], [.int (nI (cst f k))], (0, 0), h)
          refine ab_W.go (mm _) 2 (c' := (35, [.ref 84, .long N, .retAddr 0, .int (nI b), .int (nI k)], [.int (nI b), .ref 84, .int (nI (cst f k))], (0, 0), h)) rfl ?_
          refine ab_W.callV (mm _) (h0) rfl (k := 91) (av := [.ref 84, .int (nI b)]) (c' := (38, [.ref 84, .long N, .retAddr 0, .int (nI b), .int (nI k)], [.int (nI (cst f k))], (0, 0), h)) rfl ?_
          refine sp_mcost _ h0 hN b1 (by omega) ?_
          show ab_W _ _ _ (38, [.ref 84, .long N, .retAddr 0, .int (nI b), .int (nI k)], [.int (nI (cst f b)), .int (nI (cst f k))], (0, 0), h)
          refine ab_W.ite (mm _) (p := (nI (cst f k)) < (nI (cst f b))) (c1 := (67, [.ref 84, .long N, .retAddr 0, .int (nI b), .int (nI k)], [], (0, 0), h)) (c2 := (41, [.ref 84, .long N, .retAddr 0, .int (nI b), .int (nI k)], [], (0, 0), h)) rfl (fun q1 => ?_) (fun q1 => ?_)
          · skip
            have q1 : cst f k < cst f b := by
              rcases Nat.lt_or_ge (cst f k) (cst f b) with z | z
              · exact z
              · exact absurd ((nI_leI (by omega) (by omega)).mpr z) (Int32.not_le.mpr q1)
            refine ab_W.go (mm _) 3 (c' := (73, [.ref 84, .long N, .retAddr 0, .int (nI k), .int (nI k + nI 1)], [], (0, 0), h)) rfl ?_
            rw [nI_add k 1]
            refine ab_W.go (mm _) 1 (c' := (6, [.ref 84, .long N, .retAddr 0, .int (nI k), .int (nI (k + 1))], [], (0, 0), h)) rfl ?_
            refine ih _ (Or.inl ⟨k, ⟨⟨h1, by omega, q⟩, fun l l1 l2 l3 => ?_⟩, rfl⟩)
            by_cases el : l = k
            · rw [el]; exact Or.inr ⟨rfl, Nat.le_refl _⟩
            · have := b4 l l1 (by omega) l3
              omega
          · skip
            have q1 : cst f b ≤ cst f k := (nI_leI (by omega) (by omega)).mp (Int32.not_lt.mp q1)
            refine ab_W.go (mm _) 2 (c' := (44, [.ref 84, .long N, .retAddr 0, .int (nI b), .int (nI k)], [.int (nI k), .ref 84], (0, 0), h)) rfl ?_
            refine ab_W.callV (mm _) (h0) rfl (k := 91) (av := [.ref 84, .int (nI k)]) (c' := (47, [.ref 84, .long N, .retAddr 0, .int (nI b), .int (nI k)], [], (0, 0), h)) rfl ?_
            refine sp_mcost _ h0 hN h1 hk ?_
            show ab_W _ _ _ (47, [.ref 84, .long N, .retAddr 0, .int (nI b), .int (nI k)], [.int (nI (cst f k))], (0, 0), h)
            refine ab_W.go (mm _) 2 (c' := (49, [.ref 84, .long N, .retAddr 0, .int (nI b), .int (nI k)], [.int (nI b), .ref 84, .int (nI (cst f k))], (0, 0), h)) rfl ?_
            refine ab_W.callV (mm _) (h0) rfl (k := 91) (av := [.ref 84, .int (nI b)]) (c' := (52, [.ref 84, .long N, .retAddr 0, .int (nI b), .int (nI k)], [.int (nI (cst f k))], (0, 0), h)) rfl ?_
            refine sp_mcost _ h0 hN b1 (by omega) ?_
            show ab_W _ _ _ (52, [.ref 84, .long N, .retAddr 0, .int (nI b), .int (nI k)], [.int (nI (cst f b)), .int (nI (cst f k))], (0, 0), h)
            refine ab_W.ite (mm _) (p := (nI (cst f k)) = (nI (cst f b))) (c1 := (55, [.ref 84, .long N, .retAddr 0, .int (nI b), .int (nI k)], [], (0, 0), h)) (c2 := (70, [.ref 84, .long N, .retAddr 0, .int (nI b), .int (nI k)], [], (0, 0), h)) rfl (fun q2 => ?_) (fun q2 => ?_)
            · skip
              have q2 : cst f k = cst f b := (nI_eq (by omega) (by omega)).mp q2
              refine ab_W.go (mm _) 1 (c' := (57, [.ref 84, .long N, .retAddr 0, .int (nI b), .int (nI k)], [.int (nI k)], (0, 0), h)) rfl ?_
              refine ab_W.call (mm _) (k := 72) (av := [.int (nI k)]) (c' := (60, [.ref 84, .long N, .retAddr 0, .int (nI b), .int (nI k)], [], (0, 0), h)) rfl ?_
              refine mbeginOf _ h1 hk ?_
              show ab_W _ _ _ (60, [.ref 84, .long N, .retAddr 0, .int (nI b), .int (nI k)], [.int (nI (beg k))], (0, 0), h)
              refine ab_W.go (mm _) 1 (c' := (61, [.ref 84, .long N, .retAddr 0, .int (nI b), .int (nI k)], [.int (nI b), .int (nI (beg k))], (0, 0), h)) rfl ?_
              refine ab_W.call (mm _) (k := 72) (av := [.int (nI b)]) (c' := (64, [.ref 84, .long N, .retAddr 0, .int (nI b), .int (nI k)], [.int (nI (beg k))], (0, 0), h)) rfl ?_
              refine mbeginOf _ b1 (by omega) ?_
              show ab_W _ _ _ (64, [.ref 84, .long N, .retAddr 0, .int (nI b), .int (nI k)], [.int (nI (beg b)), .int (nI (beg k))], (0, 0), h)
              refine ab_W.ite (mm _) (p := (nI (beg k)) ≤ (nI (beg b))) (c1 := (70, [.ref 84, .long N, .retAddr 0, .int (nI b), .int (nI k)], [], (0, 0), h)) (c2 := (67, [.ref 84, .long N, .retAddr 0, .int (nI b), .int (nI k)], [], (0, 0), h)) rfl (fun q3 => ?_) (fun q3 => ?_)
              · skip
                have q3 : beg k ≤ beg b := (nI_leI (by omega) (by omega)).mp q3
                refine ab_W.go (mm _) 1 (c' := (73, [.ref 84, .long N, .retAddr 0, .int (nI b), .int (nI k + nI 1)], [], (0, 0), h)) rfl ?_
                rw [nI_add k 1]
                refine ab_W.go (mm _) 1 (c' := (6, [.ref 84, .long N, .retAddr 0, .int (nI b), .int (nI (k + 1))], [], (0, 0), h)) rfl ?_
                refine ih _ (Or.inl ⟨b, ⟨⟨b1, by omega, b3⟩, fun l l1 l2 l3 => ?_⟩, rfl⟩)
                by_cases el : l = k
                · rw [el]; exact Or.inr ⟨q2.symm, q3⟩
                · exact b4 l l1 (by omega) l3
              · skip
                have q3 : beg b < beg k := Nat.lt_of_not_le (fun z => q3 ((nI_leI (by omega) (by omega)).mpr z))
                refine ab_W.go (mm _) 3 (c' := (73, [.ref 84, .long N, .retAddr 0, .int (nI k), .int (nI k + nI 1)], [], (0, 0), h)) rfl ?_
                rw [nI_add k 1]
                refine ab_W.go (mm _) 1 (c' := (6, [.ref 84, .long N, .retAddr 0, .int (nI k), .int (nI (k + 1))], [], (0, 0), h)) rfl ?_
                refine ih _ (Or.inl ⟨k, ⟨⟨h1, by omega, q⟩, fun l l1 l2 l3 => ?_⟩, rfl⟩)
                by_cases el : l = k
                · rw [el]; exact Or.inr ⟨rfl, Nat.le_refl _⟩
                · have := b4 l l1 (by omega) l3
                  omega
            · skip
              have q2 : ¬ cst f k = cst f b := fun z => q2 (by rw [z])
              refine ab_W.go (mm _) 1 (c' := (73, [.ref 84, .long N, .retAddr 0, .int (nI b), .int (nI k + nI 1)], [], (0, 0), h)) rfl ?_
              rw [nI_add k 1]
              refine ab_W.go (mm _) 1 (c' := (6, [.ref 84, .long N, .retAddr 0, .int (nI b), .int (nI (k + 1))], [], (0, 0), h)) rfl ?_
              refine ih _ (Or.inl ⟨b, ⟨⟨b1, by omega, b3⟩, fun l l1 l2 l3 => ?_⟩, rfl⟩)
              by_cases el : l = k
              · rw [el]; exact Or.inl (by omega)
              · exact b4 l l1 (by omega) l3
        · skip
          show ab_W _ _ _ (20, [.ref 84, .long N, .retAddr 0, .int (-(nI 6)), .int (nI k)], [.int (nI 1)], (0, 0), h)
          refine ab_W.itF (mm _) (p := (nI 1) = 0) (c1 := (70, [.ref 84, .long N, .retAddr 0, .int (-(nI 6)), .int (nI k)], [], (0, 0), h)) (c2 := (23, [.ref 84, .long N, .retAddr 0, .int (-(nI 6)), .int (nI k)], [], (0, 0), h)) rfl (nI_ne01) ?_
          refine ab_W.go (mm _) 1 (c' := (24, [.ref 84, .long N, .retAddr 0, .int (-(nI 6)), .int (nI k)], [.int (-(nI 6))], (0, 0), h)) rfl ?_
          refine ab_W.itT (mm _) (p := (-(nI 6)) < 0) (c1 := (67, [.ref 84, .long N, .retAddr 0, .int (-(nI 6)), .int (nI k)], [], (0, 0), h)) (c2 := (27, [.ref 84, .long N, .retAddr 0, .int (-(nI 6)), .int (nI k)], [], (0, 0), h)) rfl ((by decide)) ?_
          refine ab_W.go (mm _) 3 (c' := (73, [.ref 84, .long N, .retAddr 0, .int (nI k), .int (nI k + nI 1)], [], (0, 0), h)) rfl ?_
          rw [nI_add k 1]
          refine ab_W.go (mm _) 1 (c' := (6, [.ref 84, .long N, .retAddr 0, .int (nI k), .int (nI (k + 1))], [], (0, 0), h)) rfl ?_
          refine ih _ (Or.inl ⟨k, ⟨⟨h1, by omega, q⟩, fun l l1 l2 l3 => ?_⟩, rfl⟩)
          by_cases el : l = k
          · rw [el]; exact Or.inr ⟨rfl, Nat.le_refl _⟩
          · exact absurd l3 (a l l1 (by omega))
      · skip
        show ab_W _ _ _ (20, [.ref 84, .long N, .retAddr 0, .int v, .int (nI k)], [.int (nI 0)], (0, 0), h)
        refine ab_W.itT (mm _) (p := (nI 0) = 0) (c1 := (70, [.ref 84, .long N, .retAddr 0, .int v, .int (nI k)], [], (0, 0), h)) (c2 := (23, [.ref 84, .long N, .retAddr 0, .int v, .int (nI k)], [], (0, 0), h)) rfl (nI_0) ?_
        refine ab_W.go (mm _) 1 (c' := (73, [.ref 84, .long N, .retAddr 0, .int v, .int (nI k + nI 1)], [], (0, 0), h)) rfl ?_
        rw [nI_add k 1]
        refine ab_W.go (mm _) 1 (c' := (6, [.ref 84, .long N, .retAddr 0, .int v, .int (nI (k + 1))], [], (0, 0), h)) rfl ?_
        exact ih _ (keep q)
  refine ⟨rfl, ?_⟩
  show ab_W _ _ _ (0, [.ref 84, .long N, .retAddr 0, .retAddr 0, .retAddr 0], [], (0, 0), h)
  refine ab_W.go (mm _) 4 (c' := (6, [.ref 84, .long N, .retAddr 0, .int (-(nI 6)), .int (nI 1)], [], (0, 0), h)) rfl ?_
  exact loop 1 (by omega) (by omega) _ (Or.inr ⟨fun l l1 l2 => absurd l1 (by omega), rfl⟩)
/-- by which way a span is filled -/
noncomputable def wayF (N : Int64) (f : Nat → Int32) (k : Nat) : Nat := ci (¬ hits N k ∨ alk f k) 0 (ci (lies N k) 1 (ci (lies N (2 * k)) 2 (ci (lies N (2 * k + 1)) 3 4)))
theorem sp_mway (d : Nat) {h : ab_H} {hap sz op : Int32} {N : Int64} {f : Nat → Int32} {k : Nat} (h0 : h[84]? = some (mObj hap sz op)) (hN : nowP h f) (h1 : 1 ≤ k) (hk : k < 128) {post : ab_P} (hp : post (some (.int (nI (wayF N f k)))) h) : mCC (d + 6) kSpanStampsModel_wayOf [.ref 84, .int (nI k), .long N] h post := by
  unfold wayF at hp
  refine ⟨rfl, ?_⟩
  show ab_W _ _ _ (0, [.ref 84, .int (nI k), .long N, .retAddr 0], [], (0, 0), h)
  refine ab_W.go (mm _) 1 (c' := (1, [.ref 84, .int (nI k), .long N, .retAddr 0], [.int (nI k)], (0, 0), h)) rfl ?_
  refine ab_W.call (mm _) (k := 73) (av := [.int (nI k)]) (c' := (4, [.ref 84, .int (nI k), .long N, .retAddr 0], [], (0, 0), h)) rfl ?_
  refine mcellsOf _ h1 hk ?_
  show ab_W _ _ _ (4, [.ref 84, .int (nI k), .long N, .retAddr 0], [.long (msk k)], (0, 0), h)
  refine ab_W.go (mm _) 4 (c' := (8, [.ref 84, .int (nI k), .long N, .retAddr 0], [.int (lg_cmp ((msk k) &&& N) (lN 0))], (0, 0), h)) rfl ?_
  refine ab_W.ite (mm _) (p := (lg_cmp ((msk k) &&& N) (lN 0)) = 0) (c1 := (19, [.ref 84, .int (nI k), .long N, .retAddr 0], [], (0, 0), h)) (c2 := (11, [.ref 84, .int (nI k), .long N, .retAddr 0], [], (0, 0), h)) rfl (fun q => ?_) (fun q => ?_)
  · skip
    have q : ¬ hits N k := fun z => z ((lg_cmp0 _ _).mp q)
    rw [ci_t (Or.inl q)] at hp
    refine ab_W.go (mm _) 1 (c' := (20, [.ref 84, .int (nI k), .long N, .retAddr 0], [.int (nI 0)], (0, 0), h)) rfl ?_
    refine ab_W.retI (mm _) (rt := some .int) (v := nI 0) rfl rfl ?_
    exact hp
  · skip
    have q : hits N k := fun z => q ((lg_cmp0 _ _).mpr z)
    refine ab_W.go (mm _) 2 (c' := (13, [.ref 84, .int (nI k), .long N, .retAddr 0], [.int (nI k), .ref 84], (0, 0), h)) rfl ?_
    refine ab_W.callV (mm _) (h0) rfl (k := 83) (av := [.ref 84, .int (nI k)]) (c' := (16, [.ref 84, .int (nI k), .long N, .retAddr 0], [], (0, 0), h)) rfl ?_
    refine sp_malike _ h0 hN h1 hk (fun v hv => ?_)
    rcases hv with ⟨q1, rfl⟩ | ⟨q1, rfl⟩
    · rw [ci_t (Or.inr q1)] at hp
      show ab_W _ _ _ (16, [.ref 84, .int (nI k), .long N, .retAddr 0], [.int (nI 1)], (0, 0), h)
      refine ab_W.itF (mm _) (p := (nI 1) = 0) (c1 := (21, [.ref 84, .int (nI k), .long N, .retAddr 0], [], (0, 0), h)) (c2 := (19, [.ref 84, .int (nI k), .long N, .retAddr 0], [], (0, 0), h)) rfl (nI_ne01) ?_
      refine ab_W.go (mm _) 1 (c' := (20, [.ref 84, .int (nI k), .long N, .retAddr 0], [.int (nI 0)], (0, 0), h)) rfl ?_
      refine ab_W.retI (mm _) (rt := some .int) (v := nI 0) rfl rfl ?_
      exact hp
    · rw [ci_f (fun z => z.elim (fun y => y q) q1)] at hp
      have hk64 : k < 64 := by
        rcases Nat.lt_or_ge k 64 with z | z
        · exact z
        · refine absurd (fun j hj => ?_) q1
          have e := (sp_leaf k hk z).2
          have a := hj.1
          have b := hj.2
          rw [show j = beg k by omega]
      show ab_W _ _ _ (16, [.ref 84, .int (nI k), .long N, .retAddr 0], [.int (nI 0)], (0, 0), h)
      refine ab_W.itT (mm _) (p := (nI 0) = 0) (c1 := (21, [.ref 84, .int (nI k), .long N, .retAddr 0], [], (0, 0), h)) (c2 := (19, [.ref 84, .int (nI k), .long N, .retAddr 0], [], (0, 0), h)) rfl (nI_0) ?_
      refine ab_W.go (mm _) 2 (c' := (23, [.ref 84, .int (nI k), .long N, .retAddr 0], [.long N, .int (nI k)], (0, 0), h)) rfl ?_
      refine ab_W.call (mm _) (k := 74) (av := [.int (nI k), .long N]) (c' := (26, [.ref 84, .int (nI k), .long N, .retAddr 0], [], (0, 0), h)) rfl ?_
      refine mliesIn _ h1 hk (fun v hv => ?_)
      rcases hv with ⟨q2, rfl⟩ | ⟨q2, rfl⟩
      · rw [ci_t q2] at hp
        show ab_W _ _ _ (26, [.ref 84, .int (nI k), .long N, .retAddr 0], [.int (nI 1)], (0, 0), h)
        refine ab_W.itF (mm _) (p := (nI 1) = 0) (c1 := (33, [.ref 84, .int (nI k), .long N, .retAddr 0], [], (0, 0), h)) (c2 := (29, [.ref 84, .int (nI k), .long N, .retAddr 0], [], (0, 0), h)) rfl (nI_ne01) ?_
        refine ab_W.go (mm _) 2 (c' := (64, [.ref 84, .int (nI k), .long N, .retAddr 0], [.int (nI 1)], (0, 0), h)) rfl ?_
        refine ab_W.retI (mm _) (rt := some .int) (v := nI 1) rfl rfl ?_
        exact hp
      · rw [ci_f q2] at hp
        show ab_W _ _ _ (26, [.ref 84, .int (nI k), .long N, .retAddr 0], [.int (nI 0)], (0, 0), h)
        refine ab_W.itT (mm _) (p := (nI 0) = 0) (c1 := (33, [.ref 84, .int (nI k), .long N, .retAddr 0], [], (0, 0), h)) (c2 := (29, [.ref 84, .int (nI k), .long N, .retAddr 0], [], (0, 0), h)) rfl (nI_0) ?_
        refine ab_W.go (mm _) 3 (c' := (36, [.ref 84, .int (nI k), .long N, .retAddr 0], [.int ((nI 2) * (nI k))], (0, 0), h)) rfl ?_
        refine ab_W.topi (pk_mul 2 k) ?_
        refine ab_W.go (mm _) 1 (c' := (37, [.ref 84, .int (nI k), .long N, .retAddr 0], [.long N, .int (nI (2 * k))], (0, 0), h)) rfl ?_
        refine ab_W.call (mm _) (k := 74) (av := [.int (nI (2 * k)), .long N]) (c' := (40, [.ref 84, .int (nI k), .long N, .retAddr 0], [], (0, 0), h)) rfl ?_
        refine mliesIn _ (by omega) (by omega) (fun v hv => ?_)
        rcases hv with ⟨q3, rfl⟩ | ⟨q3, rfl⟩
        · rw [ci_t q3] at hp
          show ab_W _ _ _ (40, [.ref 84, .int (nI k), .long N, .retAddr 0], [.int (nI 1)], (0, 0), h)
          refine ab_W.itF (mm _) (p := (nI 1) = 0) (c1 := (47, [.ref 84, .int (nI k), .long N, .retAddr 0], [], (0, 0), h)) (c2 := (43, [.ref 84, .int (nI k), .long N, .retAddr 0], [], (0, 0), h)) rfl (nI_ne01) ?_
          refine ab_W.go (mm _) 2 (c' := (64, [.ref 84, .int (nI k), .long N, .retAddr 0], [.int (nI 2)], (0, 0), h)) rfl ?_
          refine ab_W.retI (mm _) (rt := some .int) (v := nI 2) rfl rfl ?_
          exact hp
        · rw [ci_f q3] at hp
          show ab_W _ _ _ (40, [.ref 84, .int (nI k), .long N, .retAddr 0], [.int (nI 0)], (0, 0), h)
          refine ab_W.itT (mm _) (p := (nI 0) = 0) (c1 := (47, [.ref 84, .int (nI k), .long N, .retAddr 0], [], (0, 0), h)) (c2 := (43, [.ref 84, .int (nI k), .long N, .retAddr 0], [], (0, 0), h)) rfl (nI_0) ?_
          refine ab_W.go (mm _) 3 (c' := (50, [.ref 84, .int (nI k), .long N, .retAddr 0], [.int ((nI 2) * (nI k))], (0, 0), h)) rfl ?_
          refine ab_W.topi (pk_mul 2 k) ?_
          refine ab_W.go (mm _) 2 (c' := (52, [.ref 84, .int (nI k), .long N, .retAddr 0], [.int ((nI (2 * k)) + (nI 1))], (0, 0), h)) rfl ?_
          refine ab_W.topi (nI_add (2 * k) 1) ?_
          refine ab_W.go (mm _) 1 (c' := (53, [.ref 84, .int (nI k), .long N, .retAddr 0], [.long N, .int (nI ((2 * k) + 1))], (0, 0), h)) rfl ?_
          refine ab_W.call (mm _) (k := 74) (av := [.int (nI ((2 * k) + 1)), .long N]) (c' := (56, [.ref 84, .int (nI k), .long N, .retAddr 0], [], (0, 0), h)) rfl ?_
          refine mliesIn _ (by omega) (by omega) (fun v hv => ?_)
          rcases hv with ⟨q4, rfl⟩ | ⟨q4, rfl⟩
          · rw [ci_t q4] at hp
            show ab_W _ _ _ (56, [.ref 84, .int (nI k), .long N, .retAddr 0], [.int (nI 1)], (0, 0), h)
            refine ab_W.itF (mm _) (p := (nI 1) = 0) (c1 := (63, [.ref 84, .int (nI k), .long N, .retAddr 0], [], (0, 0), h)) (c2 := (59, [.ref 84, .int (nI k), .long N, .retAddr 0], [], (0, 0), h)) rfl (nI_ne01) ?_
            refine ab_W.go (mm _) 2 (c' := (64, [.ref 84, .int (nI k), .long N, .retAddr 0], [.int (nI 3)], (0, 0), h)) rfl ?_
            refine ab_W.retI (mm _) (rt := some .int) (v := nI 3) rfl rfl ?_
            exact hp
          · rw [ci_f q4] at hp
            show ab_W _ _ _ (56, [.ref 84, .int (nI k), .long N, .retAddr 0], [.int (nI 0)], (0, 0), h)
            refine ab_W.itT (mm _) (p := (nI 0) = 0) (c1 := (63, [.ref 84, .int (nI k), .long N, .retAddr 0], [], (0, 0), h)) (c2 := (59, [.ref 84, .int (nI k), .long N, .retAddr 0], [], (0, 0), h)) rfl (nI_0) ?_
            refine ab_W.go (mm _) 1 (c' := (64, [.ref 84, .int (nI k), .long N, .retAddr 0], [.int (nI 4)], (0, 0), h)) rfl ?_
            refine ab_W.retI (mm _) (rt := some .int) (v := nI 4) rfl rfl ?_
            exact hp
