/-! the reference's rows on spans and sets -/
theorem down {Q : Nat → Prop} (e : Nat) (he : Q e) (hs : ∀ c, c < e → Q (c + 1) → Q c) : ∀ c, c ≤ e → Q c := by
  have key : ∀ n, n ≤ e → Q (e - n) := by
    intro n
    induction n with
    | zero => intro _; exact he
    | succ n ih =>
      intro hn
      have h1 := ih (by omega)
      refine hs (e - (n + 1)) (by omega) ?_
      rw [show e - (n + 1) + 1 = e - n by omega]
      exact h1
  intro c hc
  have := key (e - c) (by omega)
  rw [show e - (e - c) = c by omega] at this
  exact this
theorem dep_shr : ∀ k, k < 128 → 1 ≤ k → ∀ j, j ≤ 6 → ((nI k >>> (nI j &&& 31)) ≤ nI 1 ↔ dep k ≤ j) := by decide +kernel
theorem mdepthOf (d : Nat) {h : ab_H} {k : Nat} (h1 : 1 ≤ k) (hk : k < 128) {post : ab_P} (hp : post (some (.int (nI (dep k)))) h) : mCC (d + 1) kSpanStampsModel_depthOf [.int (nI k)] h post := by
  have h6 := (sp_le k hk h1).1
  have loop : ∀ j, j ≤ dep k → ab_W (ab_st (mT kSpanStampsModel_depthOf) mB mF (mR kSpanStampsModel_depthOf) none) (mCC d) post (2, [.int (nI k), .int (nI j)], [], (0, 0), h) := by
    refine down (dep k) ?_ ?_
    · skip
      refine ab_W.go (mm _) 4 (c' := (6, [.int (nI k), .int (nI (dep k))], [.int (nI 1), .int ((nI k) >>> ((nI (dep k)) &&& 31))], (0, 0), h)) rfl ?_
      refine ab_W.itT (mm _) (p := ((nI k) >>> ((nI (dep k)) &&& 31)) ≤ (nI 1)) (c1 := (15, [.int (nI k), .int (nI (dep k))], [], (0, 0), h)) (c2 := (9, [.int (nI k), .int (nI (dep k))], [], (0, 0), h)) rfl ((dep_shr k hk h1 _ h6).mpr (Nat.le_refl _)) ?_
      refine ab_W.go (mm _) 1 (c' := (16, [.int (nI k), .int (nI (dep k))], [.int (nI (dep k))], (0, 0), h)) rfl ?_
      refine ab_W.retI (mm _) (rt := some .int) (v := nI (dep k)) rfl rfl ?_
      exact hp
    · intro j hj ih
      refine ab_W.go (mm _) 4 (c' := (6, [.int (nI k), .int (nI j)], [.int (nI 1), .int ((nI k) >>> ((nI j) &&& 31))], (0, 0), h)) rfl ?_
      refine ab_W.itF (mm _) (p := ((nI k) >>> ((nI j) &&& 31)) ≤ (nI 1)) (c1 := (15, [.int (nI k), .int (nI j)], [], (0, 0), h)) (c2 := (9, [.int (nI k), .int (nI j)], [], (0, 0), h)) rfl (fun z => absurd ((dep_shr k hk h1 j (by omega)).mp z) (by omega)) ?_
      refine ab_W.go (mm _) 1 (c' := (12, [.int (nI k), .int (nI j + nI 1)], [], (0, 0), h)) rfl ?_
      rw [nI_add j 1]
      refine ab_W.go (mm _) 1 (c' := (2, [.int (nI k), .int (nI (j + 1))], [], (0, 0), h)) rfl ?_
      exact ih
  refine ⟨rfl, ?_⟩
  show ab_W _ _ _ (0, [.int (nI k), .retAddr 0], [], (0, 0), h)
  refine ab_W.go (mm _) 2 (c' := (2, [.int (nI k), .int (nI 0)], [], (0, 0), h)) rfl ?_
  exact loop 0 (Nat.zero_le _)
theorem msizeOf (d : Nat) {h : ab_H} {k : Nat} (h1 : 1 ≤ k) (hk : k < 128) {post : ab_P} (hp : post (some (.int (nI (siz k)))) h) : mCC (d + 2) kSpanStampsModel_sizeOf [.int (nI k)] h post := by
  refine ⟨rfl, ?_⟩
  show ab_W _ _ _ (0, [.int (nI k)], [], (0, 0), h)
  refine ab_W.go (mm _) 2 (c' := (3, [.int (nI k)], [.int (nI k), .int (nI 64)], (0, 0), h)) rfl ?_
  refine ab_W.call (mm _) (k := 70) (av := [.int (nI k)]) (c' := (6, [.int (nI k)], [.int (nI 64)], (0, 0), h)) rfl ?_
  refine mdepthOf _ h1 hk ?_
  show ab_W _ _ _ (6, [.int (nI k)], [.int (nI (dep k)), .int (nI 64)], (0, 0), h)
  refine ab_W.go (mm _) 1 (c' := (7, [.int (nI k)], [.int ((nI 64) >>> ((nI (dep k)) &&& 31))], (0, 0), h)) rfl ?_
  refine ab_W.topi (sz_shr _ (sp_le k hk h1).1) ?_
  refine ab_W.retI (mm _) (rt := some .int) (v := nI (siz k)) rfl rfl ?_
  exact hp
theorem beg_sub : ∀ k, k < 128 → 1 ≤ k → (nI k - (nI 1 <<< (nI (dep k) &&& 31))) * nI (siz k) = nI (beg k) := by decide +kernel
theorem mbeginOf (d : Nat) {h : ab_H} {k : Nat} (h1 : 1 ≤ k) (hk : k < 128) {post : ab_P} (hp : post (some (.int (nI (beg k)))) h) : mCC (d + 3) kSpanStampsModel_beginOf [.int (nI k)] h post := by
  refine ⟨rfl, ?_⟩
  show ab_W _ _ _ (0, [.int (nI k)], [], (0, 0), h)
  refine ab_W.go (mm _) 3 (c' := (3, [.int (nI k)], [.int (nI k), .int (nI 1), .int (nI k)], (0, 0), h)) rfl ?_
  refine ab_W.call (mm _) (k := 70) (av := [.int (nI k)]) (c' := (6, [.int (nI k)], [.int (nI 1), .int (nI k)], (0, 0), h)) rfl ?_
  refine mdepthOf _ h1 hk ?_
  show ab_W _ _ _ (6, [.int (nI k)], [.int (nI (dep k)), .int (nI 1), .int (nI k)], (0, 0), h)
  refine ab_W.go (mm _) 3 (c' := (9, [.int (nI k)], [.int (nI k), .int ((nI k) - ((nI 1) <<< ((nI (dep k)) &&& 31)))], (0, 0), h)) rfl ?_
  refine ab_W.call (mm _) (k := 71) (av := [.int (nI k)]) (c' := (12, [.int (nI k)], [.int ((nI k) - ((nI 1) <<< ((nI (dep k)) &&& 31)))], (0, 0), h)) rfl ?_
  refine msizeOf _ h1 hk ?_
  show ab_W _ _ _ (12, [.int (nI k)], [.int (nI (siz k)), .int ((nI k) - ((nI 1) <<< ((nI (dep k)) &&& 31)))], (0, 0), h)
  refine ab_W.go (mm _) 1 (c' := (13, [.int (nI k)], [.int (((nI k) - ((nI 1) <<< ((nI (dep k)) &&& 31))) * (nI (siz k)))], (0, 0), h)) rfl ?_
  refine ab_W.topi (beg_sub k hk h1) ?_
  refine ab_W.retI (mm _) (rt := some .int) (v := nI (beg k)) rfl rfl ?_
  exact hp
def orB (b : Nat) : Nat → Int64
  | 0 => lN 0
  | i + 1 => orB b i ||| (lN 1 <<< ((nI (b + i)).toInt64 &&& 63))
theorem orB_msk : ∀ k, k < 128 → 1 ≤ k → orB (beg k) (siz k) = msk k := by decide +kernel
theorem mcellsOf (d : Nat) {h : ab_H} {k : Nat} (h1 : 1 ≤ k) (hk : k < 128) {post : ab_P} (hp : post (some (.long (msk k))) h) : mCC (d + 4) kSpanStampsModel_cellsOf [.int (nI k)] h post := by
  obtain ⟨s1, s2, s3, s4⟩ := sp_le k hk h1
  have loop : ∀ i, i ≤ siz k → ab_W (ab_st (mT kSpanStampsModel_cellsOf) mB mF (mR kSpanStampsModel_cellsOf) none) (mCC (d + 3)) post (4, [.int (nI k), .long (orB (beg k) i), .retAddr 0, .int (nI i)], [], (0, 0), h) := by
    refine down (siz k) ?_ ?_
    · skip
      refine ab_W.go (mm _) 2 (c' := (6, [.int (nI k), .long (orB (beg k) (siz k)), .retAddr 0, .int (nI (siz k))], [.int (nI k), .int (nI (siz k))], (0, 0), h)) rfl ?_
      refine ab_W.call (mm _) (k := 71) (av := [.int (nI k)]) (c' := (9, [.int (nI k), .long (orB (beg k) (siz k)), .retAddr 0, .int (nI (siz k))], [.int (nI (siz k))], (0, 0), h)) rfl ?_
      refine msizeOf _ h1 hk ?_
      show ab_W _ _ _ (9, [.int (nI k), .long (orB (beg k) (siz k)), .retAddr 0, .int (nI (siz k))], [.int (nI (siz k)), .int (nI (siz k))], (0, 0), h)
      refine ab_W.itT (mm _) (p := (nI (siz k)) ≤ (nI (siz k))) (c1 := (29, [.int (nI k), .long (orB (beg k) (siz k)), .retAddr 0, .int (nI (siz k))], [], (0, 0), h)) (c2 := (12, [.int (nI k), .long (orB (beg k) (siz k)), .retAddr 0, .int (nI (siz k))], [], (0, 0), h)) rfl ((nI_leI (by omega) (by omega)).mpr (Nat.le_refl _)) ?_
      refine ab_W.go (mm _) 1 (c' := (30, [.int (nI k), .long (orB (beg k) (siz k)), .retAddr 0, .int (nI (siz k))], [.long (orB (beg k) (siz k))], (0, 0), h)) rfl ?_
      refine ab_W.ret (mm _) (v := (some (.long (orB (beg k) (siz k))))) rfl ?_
      rw [orB_msk k hk h1]
      exact hp
    · intro i hi ih
      refine ab_W.go (mm _) 2 (c' := (6, [.int (nI k), .long (orB (beg k) i), .retAddr 0, .int (nI i)], [.int (nI k), .int (nI i)], (0, 0), h)) rfl ?_
      refine ab_W.call (mm _) (k := 71) (av := [.int (nI k)]) (c' := (9, [.int (nI k), .long (orB (beg k) i), .retAddr 0, .int (nI i)], [.int (nI i)], (0, 0), h)) rfl ?_
      refine msizeOf _ h1 hk ?_
      show ab_W _ _ _ (9, [.int (nI k), .long (orB (beg k) i), .retAddr 0, .int (nI i)], [.int (nI (siz k)), .int (nI i)], (0, 0), h)
      refine ab_W.itF (mm _) (p := (nI (siz k)) ≤ (nI i)) (c1 := (29, [.int (nI k), .long (orB (beg k) i), .retAddr 0, .int (nI i)], [], (0, 0), h)) (c2 := (12, [.int (nI k), .long (orB (beg k) i), .retAddr 0, .int (nI i)], [], (0, 0), h)) rfl (fun z => absurd ((nI_leI (by omega) (by omega)).mp z) (by omega)) ?_
      refine ab_W.go (mm _) 3 (c' := (15, [.int (nI k), .long (orB (beg k) i), .retAddr 0, .int (nI i)], [.int (nI k), .long (lN 1), .long (orB (beg k) i)], (0, 0), h)) rfl ?_
      refine ab_W.call (mm _) (k := 72) (av := [.int (nI k)]) (c' := (18, [.int (nI k), .long (orB (beg k) i), .retAddr 0, .int (nI i)], [.long (lN 1), .long (orB (beg k) i)], (0, 0), h)) rfl ?_
      refine mbeginOf _ h1 hk ?_
      show ab_W _ _ _ (18, [.int (nI k), .long (orB (beg k) i), .retAddr 0, .int (nI i)], [.int (nI (beg k)), .long (lN 1), .long (orB (beg k) i)], (0, 0), h)
      refine ab_W.go (mm _) 2 (c' := (20, [.int (nI k), .long (orB (beg k) i), .retAddr 0, .int (nI i)], [.int ((nI (beg k)) + (nI i)), .long (lN 1), .long (orB (beg k) i)], (0, 0), h)) rfl ?_
      refine ab_W.topi (nI_add (beg k) i) ?_
      refine ab_W.go (mm _) 4 (c' := (26, [.int (nI k), .long ((orB (beg k) i) ||| ((lN 1) <<< ((nI ((beg k) + i)).toInt64 &&& 63))), .retAddr 0, .int (nI i + nI 1)], [], (0, 0), h)) rfl ?_
      rw [nI_add i 1]
      refine ab_W.go (mm _) 1 (c' := (4, [.int (nI k), .long ((orB (beg k) i) ||| ((lN 1) <<< ((nI ((beg k) + i)).toInt64 &&& 63))), .retAddr 0, .int (nI (i + 1))], [], (0, 0), h)) rfl ?_
      exact ih
  refine ⟨rfl, ?_⟩
  show ab_W _ _ _ (0, [.int (nI k), .retAddr 0, .retAddr 0, .retAddr 0], [], (0, 0), h)
  refine ab_W.go (mm _) 4 (c' := (4, [.int (nI k), .long (lN 0), .retAddr 0, .int (nI 0)], [], (0, 0), h)) rfl ?_
  exact loop 0 (Nat.zero_le _)
theorem mliesIn (d : Nat) {h : ab_H} {N : Int64} {k : Nat} (h1 : 1 ≤ k) (hk : k < 128) {post : ab_P} (hp : ∀ v : Int32, (lies N k ∧ v = nI 1) ∨ (¬ lies N k ∧ v = nI 0) → post (some (.int v)) h) : mCC (d + 5) kSpanStampsModel_liesIn [.int (nI k), .long N] h post := by
  refine ⟨rfl, ?_⟩
  show ab_W _ _ _ (0, [.int (nI k), .long N, .retAddr 0], [], (0, 0), h)
  refine ab_W.go (mm _) 1 (c' := (1, [.int (nI k), .long N, .retAddr 0], [.int (nI k)], (0, 0), h)) rfl ?_
  refine ab_W.call (mm _) (k := 73) (av := [.int (nI k)]) (c' := (4, [.int (nI k), .long N, .retAddr 0], [], (0, 0), h)) rfl ?_
  refine mcellsOf _ h1 hk ?_
  show ab_W _ _ _ (4, [.int (nI k), .long N, .retAddr 0], [.long (msk k)], (0, 0), h)
  refine ab_W.go (mm _) 6 (c' := (12, [.int (nI k), .long N, .retAddr 0], [.int (lg_cmp ((msk k) &&& (N ^^^ (-(lN 1)))) (lN 0))], (0, 0), h)) rfl ?_
  refine ab_W.ite (mm _) (p := (lg_cmp ((msk k) &&& (N ^^^ (-(lN 1)))) (lN 0)) = 0) (c1 := (15, [.int (nI k), .long N, .retAddr 0], [], (0, 0), h)) (c2 := (19, [.int (nI k), .long N, .retAddr 0], [], (0, 0), h)) rfl (fun q => ?_) (fun q => ?_)
  · skip
    have q := (lg_cmp0 _ _).mp q
    refine ab_W.go (mm _) 2 (c' := (20, [.int (nI k), .long N, .retAddr 0], [.int (nI 1)], (0, 0), h)) rfl ?_
    refine ab_W.retI (mm _) (rt := some .boolean) (v := nI 1) rfl rfl ?_
    exact hp _ (Or.inl ⟨q, rfl⟩)
  · skip
    have q : ¬ lies N k := fun z => q ((lg_cmp0 _ _).mpr z)
    refine ab_W.go (mm _) 1 (c' := (20, [.int (nI k), .long N, .retAddr 0], [.int (nI 0)], (0, 0), h)) rfl ?_
    refine ab_W.retI (mm _) (rt := some .boolean) (v := nI 0) rfl rfl ?_
    exact hp _ (Or.inr ⟨q, rfl⟩)
/-- a name within a span; the least one, as the reference seeks it -/
def inS (N : Int64) (k : Nat) : Prop := (N &&& (msk k ^^^ (-(lN 1)))) = lN 0
def lsp (N : Int64) : Nat → Nat
  | 0 => 1
  | m + 1 => if 1 ≤ m ∧ (N &&& (msk m ^^^ (-(lN 1)))) = lN 0 then m else lsp N m
theorem lsp_1 (N : Int64) : lsp N 1 = 1 := by
  unfold lsp
  rw [if_neg (fun h => absurd h.1 (by decide))]
  rfl
theorem mleastSpan (d : Nat) {h : ab_H} {N : Int64} {post : ab_P} (hp : post (some (.int (nI (lsp N 128)))) h) : mCC (d + 5) kSpanStampsModel_leastSpan [.long N] h post := by
  have loop : ∀ m, m ≤ 128 → 1 ≤ m → ab_W (ab_st (mT kSpanStampsModel_leastSpan) mB mF (mR kSpanStampsModel_leastSpan) none) (mCC (d + 4)) post (4, [.long N, .retAddr 0, .int (nI (lsp N m)), .int (nI m)], [], (0, 0), h) := by
    refine down 128 ?_ ?_
    · intro _
      refine ab_W.go (mm _) 2 (c' := (8, [.long N, .retAddr 0, .int (nI (lsp N 128)), .int (nI 128)], [.int (nI 128), .int (nI 128)], (0, 0), h)) rfl ?_
      refine ab_W.itT (mm _) (p := (nI 128) ≤ (nI 128)) (c1 := (38, [.long N, .retAddr 0, .int (nI (lsp N 128)), .int (nI 128)], [], (0, 0), h)) (c2 := (11, [.long N, .retAddr 0, .int (nI (lsp N 128)), .int (nI 128)], [], (0, 0), h)) rfl ((by decide)) ?_
      refine ab_W.go (mm _) 1 (c' := (39, [.long N, .retAddr 0, .int (nI (lsp N 128)), .int (nI 128)], [.int (nI (lsp N 128))], (0, 0), h)) rfl ?_
      refine ab_W.retI (mm _) (rt := some .int) (v := nI (lsp N 128)) rfl rfl ?_
      exact hp
    · intro m hm ih h1
      refine ab_W.go (mm _) 2 (c' := (8, [.long N, .retAddr 0, .int (nI (lsp N m)), .int (nI m)], [.int (nI 128), .int (nI m)], (0, 0), h)) rfl ?_
      refine ab_W.itF (mm _) (p := (nI 128) ≤ (nI m)) (c1 := (38, [.long N, .retAddr 0, .int (nI (lsp N m)), .int (nI m)], [], (0, 0), h)) (c2 := (11, [.long N, .retAddr 0, .int (nI (lsp N m)), .int (nI m)], [], (0, 0), h)) rfl (fun z => absurd ((nI_leI (by omega) (by omega)).mp z) (by omega)) ?_
      refine ab_W.go (mm _) 2 (c' := (13, [.long N, .retAddr 0, .int (nI (lsp N m)), .int (nI m)], [.int (nI m), .long N], (0, 0), h)) rfl ?_
      refine ab_W.call (mm _) (k := 73) (av := [.int (nI m)]) (c' := (16, [.long N, .retAddr 0, .int (nI (lsp N m)), .int (nI m)], [.long N], (0, 0), h)) rfl ?_
      refine mcellsOf _ h1 hm ?_
      show ab_W _ _ _ (16, [.long N, .retAddr 0, .int (nI (lsp N m)), .int (nI m)], [.long (msk m), .long N], (0, 0), h)
      refine ab_W.go (mm _) 5 (c' := (23, [.long N, .retAddr 0, .int (nI (lsp N m)), .int (nI m)], [.int (lg_cmp (N &&& ((msk m) ^^^ (-(lN 1)))) (lN 0))], (0, 0), h)) rfl ?_
      have ih := ih (by omega)
      refine ab_W.ite (mm _) (p := (lg_cmp (N &&& ((msk m) ^^^ (-(lN 1)))) (lN 0)) = 0) (c1 := (26, [.long N, .retAddr 0, .int (nI (lsp N m)), .int (nI m)], [], (0, 0), h)) (c2 := (30, [.long N, .retAddr 0, .int (nI (lsp N m)), .int (nI m)], [], (0, 0), h)) rfl (fun q => ?_) (fun q => ?_)
      · skip
        have q := (lg_cmp0 _ _).mp q
        rw [show lsp N (m + 1) = m from if_pos ⟨h1, q⟩] at ih
        refine ab_W.go (mm _) 4 (c' := (35, [.long N, .retAddr 0, .int (nI m), .int (nI m + nI 1)], [], (0, 0), h)) rfl ?_
        rw [nI_add m 1]
        refine ab_W.go (mm _) 1 (c' := (4, [.long N, .retAddr 0, .int (nI m), .int (nI (m + 1))], [], (0, 0), h)) rfl ?_
        exact ih
      · skip
        have q : ¬ inS N m := fun z => q ((lg_cmp0 _ _).mpr z)
        rw [show lsp N (m + 1) = lsp N m from if_neg (fun z => q z.2)] at ih
        refine ab_W.go (mm _) 3 (c' := (35, [.long N, .retAddr 0, .int (nI (lsp N m)), .int (nI m + nI 1)], [], (0, 0), h)) rfl ?_
        rw [nI_add m 1]
        refine ab_W.go (mm _) 1 (c' := (4, [.long N, .retAddr 0, .int (nI (lsp N m)), .int (nI (m + 1))], [], (0, 0), h)) rfl ?_
        exact ih
  refine ⟨rfl, ?_⟩
  show ab_W _ _ _ (0, [.long N, .retAddr 0, .retAddr 0, .retAddr 0], [], (0, 0), h)
  refine ab_W.go (mm _) 4 (c' := (4, [.long N, .retAddr 0, .int (nI 1), .int (nI 1)], [], (0, 0), h)) rfl ?_
  have := loop 1 (by omega) (by omega)
  rw [lsp_1] at this
  exact this
/-! in, has, bits -/
theorem min_ (d : Nat) {h : ab_H} {x lo hi : Int32} {post : ab_P} (hp : ∀ v : Int32, ((lo ≤ x ∧ x ≤ hi) ∧ v = nI 1) ∨ (¬ (lo ≤ x ∧ x ≤ hi) ∧ v = nI 0) → post (some (.int v)) h) : mCC (d + 1) kSpanStampsModel_in [.int x, .int lo, .int hi] h post := by
  refine ⟨rfl, ?_⟩
  show ab_W _ _ _ (0, [.int x, .int lo, .int hi], [], (0, 0), h)
  refine ab_W.go (mm _) 2 (c' := (2, [.int x, .int lo, .int hi], [.int lo, .int x], (0, 0), h)) rfl ?_
  refine ab_W.ite (mm _) (p := x < lo) (c1 := (14, [.int x, .int lo, .int hi], [], (0, 0), h)) (c2 := (5, [.int x, .int lo, .int hi], [], (0, 0), h)) rfl (fun q => ?_) (fun q => ?_)
  · skip
    refine ab_W.go (mm _) 1 (c' := (15, [.int x, .int lo, .int hi], [.int (nI 0)], (0, 0), h)) rfl ?_
    refine ab_W.retI (mm _) (rt := some .boolean) (v := nI 0) rfl rfl ?_
    exact hp _ (Or.inr ⟨fun z => absurd q (Int32.not_lt.mpr z.1), rfl⟩)
  · skip
    refine ab_W.go (mm _) 2 (c' := (7, [.int x, .int lo, .int hi], [.int hi, .int x], (0, 0), h)) rfl ?_
    refine ab_W.ite (mm _) (p := hi < x) (c1 := (14, [.int x, .int lo, .int hi], [], (0, 0), h)) (c2 := (10, [.int x, .int lo, .int hi], [], (0, 0), h)) rfl (fun q2 => ?_) (fun q2 => ?_)
    · skip
      refine ab_W.go (mm _) 1 (c' := (15, [.int x, .int lo, .int hi], [.int (nI 0)], (0, 0), h)) rfl ?_
      refine ab_W.retI (mm _) (rt := some .boolean) (v := nI 0) rfl rfl ?_
      exact hp _ (Or.inr ⟨fun z => absurd q2 (Int32.not_lt.mpr z.2), rfl⟩)
    · skip
      refine ab_W.go (mm _) 2 (c' := (15, [.int x, .int lo, .int hi], [.int (nI 1)], (0, 0), h)) rfl ?_
      refine ab_W.retI (mm _) (rt := some .boolean) (v := nI 1) rfl rfl ?_
      exact hp _ (Or.inl ⟨⟨Int32.not_lt.mp q, Int32.not_lt.mp q2⟩, rfl⟩)
theorem sh_amt : ∀ i, i < 64 → ((nI i).toInt64 &&& 63).toBitVec.smod 64 = BitVec.ofNat 64 i := by decide +kernel
theorem has_bt (N : Int64) {i : Nat} (hi : i < 64) : ((N >>> ((nI i).toInt64 &&& 63)) &&& lN 1) = lN 1 ↔ bt N i = true := by
  rw [← Int64.toBitVec_inj, Int64.toBitVec_and, Int64.toBitVec_shiftRight, sh_amt i hi]
  have e1 : (lN 1).toBitVec = 1#64 := by decide
  rw [e1, BitVec.and_one_eq_setWidth_ofBool_getLsbD]
  have e2 : (N.toBitVec.sshiftRight' (BitVec.ofNat 64 i)).getLsbD 0 = bt N i := by
    rw [BitVec.sshiftRight', BitVec.getLsbD_sshiftRight]
    have e3 : (BitVec.ofNat 64 i).toNat = i := by rw [BitVec.toNat_ofNat]; exact Nat.mod_eq_of_lt (by omega)
    rw [e3]
    simp [hi, bt]
  rw [e2]
  cases bt N i <;> decide
theorem mhas (d : Nat) {h : ab_H} {N : Int64} {i : Nat} (hi : i < 64) {post : ab_P} (hp : ∀ v : Int32, (bt N i = true ∧ v = nI 1) ∨ (bt N i = false ∧ v = nI 0) → post (some (.int v)) h) : mCC (d + 1) kSpanStampsModel_has [.long N, .int (nI i)] h post := by
  refine ⟨rfl, ?_⟩
  show ab_W _ _ _ (0, [.long N, .retAddr 0, .int (nI i)], [], (0, 0), h)
  refine ab_W.go (mm _) 7 (c' := (7, [.long N, .retAddr 0, .int (nI i)], [.int (lg_cmp ((N >>> ((nI i).toInt64 &&& 63)) &&& (lN 1)) (lN 1))], (0, 0), h)) rfl ?_
  refine ab_W.ite (mm _) (p := (lg_cmp ((N >>> ((nI i).toInt64 &&& 63)) &&& (lN 1)) (lN 1)) = 0) (c1 := (10, [.long N, .retAddr 0, .int (nI i)], [], (0, 0), h)) (c2 := (14, [.long N, .retAddr 0, .int (nI i)], [], (0, 0), h)) rfl (fun q => ?_) (fun q => ?_)
  · skip
    have q := (has_bt N hi).mp ((lg_cmp0 _ _).mp q)
    refine ab_W.go (mm _) 2 (c' := (15, [.long N, .retAddr 0, .int (nI i)], [.int (nI 1)], (0, 0), h)) rfl ?_
    refine ab_W.retI (mm _) (rt := some .boolean) (v := nI 1) rfl rfl ?_
    exact hp _ (Or.inl ⟨q, rfl⟩)
  · skip
    have q : ¬ bt N i = true := fun z => q ((lg_cmp0 _ _).mpr ((has_bt N hi).mpr z))
    refine ab_W.go (mm _) 1 (c' := (15, [.long N, .retAddr 0, .int (nI i)], [.int (nI 0)], (0, 0), h)) rfl ?_
    refine ab_W.retI (mm _) (rt := some .boolean) (v := nI 0) rfl rfl ?_
    exact hp _ (Or.inr ⟨by simpa using q, rfl⟩)
def cnt (N : Int64) : Nat → Nat
  | 0 => 0
  | i + 1 => cnt N i + (if bt N i = true then 1 else 0)
theorem cnt_le (N : Int64) : ∀ i, cnt N i ≤ i := by
  intro i
  induction i with
  | zero => exact Nat.le_refl _
  | succ i ih =>
    unfold cnt
    split <;> omega
theorem cnt_t {N : Int64} {i : Nat} (h : bt N i = true) : cnt N (i + 1) = cnt N i + 1 := by
  show cnt N i + _ = _
  rw [if_pos h]
theorem cnt_f {N : Int64} {i : Nat} (h : bt N i = false) : cnt N (i + 1) = cnt N i := by
  show cnt N i + _ = _
  rw [if_neg (by rw [h]; decide)]
  rfl
theorem nI_ne01 : ¬ nI 1 = 0 := by decide
theorem mbits (d : Nat) {h : ab_H} {N : Int64} {post : ab_P} (hp : post (some (.int (nI (cnt N 64)))) h) : mCC (d + 2) kSpanStampsModel_bits [.long N] h post := by
  have loop : ∀ i, i ≤ 64 → ab_W (ab_st (mT kSpanStampsModel_bits) mB mF (mR kSpanStampsModel_bits) none) (mCC (d + 1)) post (4, [.long N, .retAddr 0, .int (nI (cnt N i)), .int (nI i)], [], (0, 0), h) := by
    refine down 64 ?_ ?_
    · skip
      refine ab_W.go (mm _) 2 (c' := (7, [.long N, .retAddr 0, .int (nI (cnt N 64)), .int (nI 64)], [.int (nI 64), .int (nI 64)], (0, 0), h)) rfl ?_
      refine ab_W.itT (mm _) (p := (nI 64) ≤ (nI 64)) (c1 := (32, [.long N, .retAddr 0, .int (nI (cnt N 64)), .int (nI 64)], [], (0, 0), h)) (c2 := (10, [.long N, .retAddr 0, .int (nI (cnt N 64)), .int (nI 64)], [], (0, 0), h)) rfl ((by decide)) ?_
      refine ab_W.go (mm _) 1 (c' := (33, [.long N, .retAddr 0, .int (nI (cnt N 64)), .int (nI 64)], [.int (nI (cnt N 64))], (0, 0), h)) rfl ?_
      refine ab_W.retI (mm _) (rt := some .int) (v := nI (cnt N 64)) rfl rfl ?_
      exact hp
    · intro i hi ih
      refine ab_W.go (mm _) 2 (c' := (7, [.long N, .retAddr 0, .int (nI (cnt N i)), .int (nI i)], [.int (nI 64), .int (nI i)], (0, 0), h)) rfl ?_
      refine ab_W.itF (mm _) (p := (nI 64) ≤ (nI i)) (c1 := (32, [.long N, .retAddr 0, .int (nI (cnt N i)), .int (nI i)], [], (0, 0), h)) (c2 := (10, [.long N, .retAddr 0, .int (nI (cnt N i)), .int (nI i)], [], (0, 0), h)) rfl (fun z => absurd ((nI_leI (by omega) (by omega)).mp z) (by omega)) ?_
      refine ab_W.go (mm _) 3 (c' := (13, [.long N, .retAddr 0, .int (nI (cnt N i)), .int (nI i)], [.int (nI i), .long N, .int (nI (cnt N i))], (0, 0), h)) rfl ?_
      refine ab_W.call (mm _) (k := 66) (av := [.long N, .int (nI i)]) (c' := (16, [.long N, .retAddr 0, .int (nI (cnt N i)), .int (nI i)], [.int (nI (cnt N i))], (0, 0), h)) rfl ?_
      refine mhas _ hi (fun v hv => ?_)
      rcases hv with ⟨hb, rfl⟩ | ⟨hb, rfl⟩
      · rw [cnt_t hb] at ih
        show ab_W _ _ _ (16, [.long N, .retAddr 0, .int (nI (cnt N i)), .int (nI i)], [.int (nI 1), .int (nI (cnt N i))], (0, 0), h)
        refine ab_W.itF (mm _) (p := (nI 1) = 0) (c1 := (23, [.long N, .retAddr 0, .int (nI (cnt N i)), .int (nI i)], [.int (nI (cnt N i))], (0, 0), h)) (c2 := (19, [.long N, .retAddr 0, .int (nI (cnt N i)), .int (nI i)], [.int (nI (cnt N i))], (0, 0), h)) rfl (nI_ne01) ?_
        refine ab_W.go (mm _) 3 (c' := (25, [.long N, .retAddr 0, .int (nI (cnt N i)), .int (nI i)], [.int ((nI (cnt N i)) + (nI 1))], (0, 0), h)) rfl ?_
        refine ab_W.topi (nI_add (cnt N i) 1) ?_
        refine ab_W.go (mm _) 2 (c' := (29, [.long N, .retAddr 0, .int (nI ((cnt N i) + 1)), .int (nI i + nI 1)], [], (0, 0), h)) rfl ?_
        rw [nI_add i 1]
        refine ab_W.go (mm _) 1 (c' := (4, [.long N, .retAddr 0, .int (nI ((cnt N i) + 1)), .int (nI (i + 1))], [], (0, 0), h)) rfl ?_
        exact ih
      · rw [cnt_f hb] at ih
        show ab_W _ _ _ (16, [.long N, .retAddr 0, .int (nI (cnt N i)), .int (nI i)], [.int (nI 0), .int (nI (cnt N i))], (0, 0), h)
        refine ab_W.itT (mm _) (p := (nI 0) = 0) (c1 := (23, [.long N, .retAddr 0, .int (nI (cnt N i)), .int (nI i)], [.int (nI (cnt N i))], (0, 0), h)) (c2 := (19, [.long N, .retAddr 0, .int (nI (cnt N i)), .int (nI i)], [.int (nI (cnt N i))], (0, 0), h)) rfl (nI_0) ?_
        refine ab_W.go (mm _) 2 (c' := (25, [.long N, .retAddr 0, .int (nI (cnt N i)), .int (nI i)], [.int ((nI (cnt N i)) + (nI 0))], (0, 0), h)) rfl ?_
        refine ab_W.topi (nI_add (cnt N i) 0) ?_
        refine ab_W.go (mm _) 2 (c' := (29, [.long N, .retAddr 0, .int (nI ((cnt N i) + 0)), .int (nI i + nI 1)], [], (0, 0), h)) rfl ?_
        rw [nI_add i 1]
        refine ab_W.go (mm _) 1 (c' := (4, [.long N, .retAddr 0, .int (nI ((cnt N i) + 0)), .int (nI (i + 1))], [], (0, 0), h)) rfl ?_
        exact ih
  refine ⟨rfl, ?_⟩
  show ab_W _ _ _ (0, [.long N, .retAddr 0, .retAddr 0, .retAddr 0], [], (0, 0), h)
  refine ab_W.go (mm _) 4 (c' := (4, [.long N, .retAddr 0, .int (nI 0), .int (nI 0)], [], (0, 0), h)) rfl ?_
  exact loop 0 (Nat.zero_le _)
