/-! SPANS, by the numbers 1 to 127: the halves of k are 2 k and 2 k + 1 -/
def sz (δ : Nat) : Nat := 64 / 2 ^ δ
def dep (k : Nat) : Nat := Nat.log2 k
def siz (k : Nat) : Nat := sz (dep k)
def beg (k : Nat) : Nat := (k - 2 ^ dep k) * siz k
def msk (k : Nat) : Int64 := lN ((2 ^ siz k - 1) * 2 ^ beg k)
def anc (c δ : Nat) : Nat := 2 ^ δ + c / sz δ
theorem sz_pos : ∀ δ, δ ≤ 6 → 1 ≤ sz δ ∧ sz δ ≤ 64 := by decide +kernel
theorem sz_shr : ∀ δ, δ ≤ 6 → (nI 64 >>> (nI δ &&& 31)) = nI (sz δ) := by decide +kernel
theorem sp_le : ∀ k, k < 128 → 1 ≤ k → dep k ≤ 6 ∧ beg k + siz k ≤ 64 ∧ 1 ≤ siz k ∧ beg k < 64 := by decide +kernel
theorem sp_half : ∀ k, k < 64 → 1 ≤ k → dep (2 * k) = dep k + 1 ∧ dep (2 * k + 1) = dep k + 1 ∧ beg (2 * k) = beg k ∧ beg (2 * k + 1) = beg k + sz (dep k + 1) ∧ siz k = sz (dep k + 1) + sz (dep k + 1) ∧ siz (2 * k) = sz (dep k + 1) ∧ siz (2 * k + 1) = sz (dep k + 1) ∧ dep k + 1 ≤ 6 := by decide +kernel
theorem sp_leaf : ∀ k, k < 128 → 64 ≤ k → dep k = 6 ∧ siz k = 1 := by decide +kernel
theorem sp_deep : ∀ k, k < 128 → 1 ≤ k → (6 ≤ dep k ↔ 64 ≤ k) := by decide +kernel
theorem sp_dep0 : ∀ k, k < 128 → 1 ≤ k → (dep k = 0 ↔ k = 1) := by decide +kernel
theorem anc_ok : ∀ δ, δ ≤ 6 → ∀ c, c < 64 → 1 ≤ anc c δ ∧ anc c δ < 128 ∧ dep (anc c δ) = δ ∧ beg (anc c δ) ≤ c ∧ c < beg (anc c δ) + siz (anc c δ) := by decide +kernel
theorem anc_first : ∀ δ, δ ≤ 6 → ∀ c, c < 64 → (nI c &&& (-(nI (sz δ)))) = nI (beg (anc c δ)) := by decide +kernel
theorem anc_beg : ∀ k, k < 128 → 1 ≤ k → ∀ δ, δ ≤ dep k → anc (beg k) δ = k / 2 ^ (dep k - δ) := by decide +kernel
theorem anc_of : ∀ k, k < 128 → 1 ≤ k → ∀ c, c < 64 → beg k ≤ c → c < beg k + siz k → anc c (dep k) = k := by decide +kernel
theorem anc_up : ∀ c, c < 64 → ∀ δ, δ < 6 → anc c (δ + 1) / 2 = anc c δ ∧ (anc c (δ + 1) = 2 * anc c δ ∨ anc c (δ + 1) = 2 * anc c δ + 1) := by decide +kernel
theorem msk_f : ∀ k, k < 128 → 1 ≤ k → ¬ k = 1 → ((lN 1 <<< ((nI (siz k)).toInt64 &&& 63)) - lN 1) <<< ((nI (beg k)).toInt64 &&& 63) = msk k := by decide +kernel
theorem msk_1 : -(lN 1) = msk 1 := by decide +kernel
/-- a bit of a set -/
def bt (N : Int64) (j : Nat) : Bool := N.toBitVec.getLsbD j
theorem msk_bt : ∀ k, k < 128 → 1 ≤ k → ∀ j, j < 64 → bt (msk k) j = (decide (beg k ≤ j) && decide (j < beg k + siz k)) := by decide +kernel
/-! the class's rows on spans -/
theorem sp_sizeOf (d : Nat) {h : ab_H} {δ : Nat} (hδ : δ ≤ 6) {post : ab_P} (hp : post (some (.int (nI (sz δ)))) h) : mCC (d + 1) kSpan_sizeOf [.int (nI δ)] h post := by
  refine ⟨rfl, ?_⟩
  show ab_W _ _ _ (0, [.int (nI δ)], [], (0, 0), h)
  refine ab_W.go (mm _) 3 (c' := (4, [.int (nI δ)], [.int ((nI 64) >>> ((nI δ) &&& 31))], (0, 0), h)) rfl ?_
  refine ab_W.topi (sz_shr δ hδ) ?_
  refine ab_W.retI (mm _) (rt := some .int) (v := nI (sz δ)) rfl rfl ?_
  exact hp
theorem nI_dep0 {k : Nat} (h1 : 1 ≤ k) (hk : k < 128) : nI (dep k) = 0 ↔ k = 1 := by
  rw [← nI_0, nI_eq (by have := (sp_le k hk h1).1; omega) (by omega), sp_dep0 k hk h1]
theorem sp_cellsOf (d : Nat) {h : ab_H} {k : Nat} (h1 : 1 ≤ k) (hk : k < 128) {post : ab_P} (hp : post (some (.long (msk k))) h) : mCC (d + 2) kSpan_cellsOf [.int (nI (beg k)), .int (nI (dep k))] h post := by
  refine ⟨rfl, ?_⟩
  show ab_W _ _ _ (0, [.int (nI (beg k)), .int (nI (dep k))], [], (0, 0), h)
  refine ab_W.go (mm _) 1 (c' := (1, [.int (nI (beg k)), .int (nI (dep k))], [.int (nI (dep k))], (0, 0), h)) rfl ?_
  refine ab_W.ite (mm _) (p := (nI (dep k)) = 0) (c1 := (4, [.int (nI (beg k)), .int (nI (dep k))], [], (0, 0), h)) (c2 := (10, [.int (nI (beg k)), .int (nI (dep k))], [], (0, 0), h)) rfl (fun q => ?_) (fun q => ?_)
  · skip
    have q1 := (nI_dep0 h1 hk).mp q
    refine ab_W.go (mm _) 2 (c' := (20, [.int (nI (beg k)), .int (nI (dep k))], [.long (-(lN 1))], (0, 0), h)) rfl ?_
    refine ab_W.ret (mm _) (v := (some (.long (-(lN 1))))) rfl ?_
    rw [msk_1, ← q1]
    exact hp
  · skip
    have q : ¬ k = 1 := fun z => q ((nI_dep0 h1 hk).mpr z)
    refine ab_W.go (mm _) 2 (c' := (12, [.int (nI (beg k)), .int (nI (dep k))], [.int (nI (dep k)), .long (lN 1)], (0, 0), h)) rfl ?_
    refine ab_W.call (mm _) (k := 22) (av := [.int (nI (dep k))]) (c' := (15, [.int (nI (beg k)), .int (nI (dep k))], [.long (lN 1)], (0, 0), h)) rfl ?_
    refine sp_sizeOf _ (sp_le k hk h1).1 ?_
    show ab_W _ _ _ (15, [.int (nI (beg k)), .int (nI (dep k))], [.int (nI (siz k)), .long (lN 1)], (0, 0), h)
    refine ab_W.go (mm _) 5 (c' := (20, [.int (nI (beg k)), .int (nI (dep k))], [.long ((((lN 1) <<< ((nI (siz k)).toInt64 &&& 63)) - (lN 1)) <<< ((nI (beg k)).toInt64 &&& 63))], (0, 0), h)) rfl ?_
    refine ab_W.topl (msk_f k hk h1 q) ?_
    refine ab_W.ret (mm _) (v := (some (.long (msk k)))) rfl ?_
    exact hp
theorem sp_upperFirst (d : Nat) {h : ab_H} {k : Nat} (h1 : 1 ≤ k) (hk : k < 64) {post : ab_P} (hp : post (some (.int (nI (beg (2 * k + 1))))) h) : mCC (d + 2) kSpan_upperFirst [.int (nI (beg k)), .int (nI (dep k))] h post := by
  obtain ⟨e1, e2, e3, e4, e5, e6, e7, e8⟩ := sp_half k hk h1
  refine ⟨rfl, ?_⟩
  show ab_W _ _ _ (0, [.int (nI (beg k)), .int (nI (dep k))], [], (0, 0), h)
  refine ab_W.go (mm _) 4 (c' := (4, [.int (nI (beg k)), .int (nI (dep k))], [.int ((nI (dep k)) + (nI 1)), .int (nI (beg k))], (0, 0), h)) rfl ?_
  refine ab_W.topi (nI_add (dep k) 1) ?_
  refine ab_W.call (mm _) (k := 22) (av := [.int (nI ((dep k) + 1))]) (c' := (7, [.int (nI (beg k)), .int (nI (dep k))], [.int (nI (beg k))], (0, 0), h)) rfl ?_
  refine sp_sizeOf _ e8 ?_
  show ab_W _ _ _ (7, [.int (nI (beg k)), .int (nI (dep k))], [.int (nI (sz (dep k + 1))), .int (nI (beg k))], (0, 0), h)
  refine ab_W.go (mm _) 1 (c' := (8, [.int (nI (beg k)), .int (nI (dep k))], [.int ((nI (beg k)) + (nI (sz (dep k + 1))))], (0, 0), h)) rfl ?_
  refine ab_W.topi (nI_add (beg k) (sz (dep k + 1))) ?_
  refine ab_W.retI (mm _) (rt := some .int) (v := nI ((beg k) + (sz (dep k + 1)))) rfl rfl ?_
  rw [← e4]
  exact hp
theorem sp_firstAround (d : Nat) {h : ab_H} {c δ : Nat} (hc : c < 64) (hδ : δ ≤ 6) {post : ab_P} (hp : post (some (.int (nI (beg (anc c δ))))) h) : mCC (d + 2) kSpan_firstAround [.int (nI c), .int (nI δ)] h post := by
  refine ⟨rfl, ?_⟩
  show ab_W _ _ _ (0, [.int (nI c), .int (nI δ)], [], (0, 0), h)
  refine ab_W.go (mm _) 2 (c' := (2, [.int (nI c), .int (nI δ)], [.int (nI δ), .int (nI c)], (0, 0), h)) rfl ?_
  refine ab_W.call (mm _) (k := 22) (av := [.int (nI δ)]) (c' := (5, [.int (nI c), .int (nI δ)], [.int (nI c)], (0, 0), h)) rfl ?_
  refine sp_sizeOf _ hδ ?_
  show ab_W _ _ _ (5, [.int (nI c), .int (nI δ)], [.int (nI (sz δ)), .int (nI c)], (0, 0), h)
  refine ab_W.go (mm _) 2 (c' := (7, [.int (nI c), .int (nI δ)], [.int ((nI c) &&& (-(nI (sz δ))))], (0, 0), h)) rfl ?_
  refine ab_W.topi (anc_first δ hδ c hc) ?_
  refine ab_W.retI (mm _) (rt := some .int) (v := nI (beg (anc c δ))) rfl rfl ?_
  exact hp
/-- a span lies in a name; it has some of it -/
def lies (N : Int64) (k : Nat) : Prop := (msk k &&& (N ^^^ (-(lN 1)))) = lN 0
def hits (N : Int64) (k : Nat) : Prop := ¬ (msk k &&& N) = lN 0
theorem lg_cmp0 (x y : Int64) : lg_cmp x y = 0 ↔ x = y := by
  unfold lg_cmp
  by_cases h1 : x > y
  · rw [if_pos h1]
    constructor
    · intro h; cases h
    · intro h; subst h; exact absurd h1 (by simp)
  · rw [if_neg h1]
    by_cases h2 : x = y
    · rw [if_pos h2]; exact ⟨fun _ => h2, fun _ => rfl⟩
    · rw [if_neg h2]
      constructor
      · intro h; cases h
      · intro h; exact absurd h h2
theorem sp_liesIn (d : Nat) {h : ab_H} {N : Int64} {k : Nat} (h1 : 1 ≤ k) (hk : k < 128) {post : ab_P} (hp : ∀ v : Int32, (lies N k ∧ v = nI 1) ∨ (¬ lies N k ∧ v = nI 0) → post (some (.int v)) h) : mCC (d + 3) kSpan_liesIn [.long N, .int (nI (beg k)), .int (nI (dep k))] h post := by
  refine ⟨rfl, ?_⟩
  show ab_W _ _ _ (0, [.long N, .retAddr 0, .int (nI (beg k)), .int (nI (dep k))], [], (0, 0), h)
  refine ab_W.go (mm _) 2 (c' := (2, [.long N, .retAddr 0, .int (nI (beg k)), .int (nI (dep k))], [.int (nI (dep k)), .int (nI (beg k))], (0, 0), h)) rfl ?_
  refine ab_W.call (mm _) (k := 23) (av := [.int (nI (beg k)), .int (nI (dep k))]) (c' := (5, [.long N, .retAddr 0, .int (nI (beg k)), .int (nI (dep k))], [], (0, 0), h)) rfl ?_
  refine sp_cellsOf _ h1 hk ?_
  show ab_W _ _ _ (5, [.long N, .retAddr 0, .int (nI (beg k)), .int (nI (dep k))], [.long (msk k)], (0, 0), h)
  refine ab_W.go (mm _) 6 (c' := (13, [.long N, .retAddr 0, .int (nI (beg k)), .int (nI (dep k))], [.int (lg_cmp ((msk k) &&& (N ^^^ (-(lN 1)))) (lN 0))], (0, 0), h)) rfl ?_
  refine ab_W.ite (mm _) (p := (lg_cmp ((msk k) &&& (N ^^^ (-(lN 1)))) (lN 0)) = 0) (c1 := (16, [.long N, .retAddr 0, .int (nI (beg k)), .int (nI (dep k))], [], (0, 0), h)) (c2 := (20, [.long N, .retAddr 0, .int (nI (beg k)), .int (nI (dep k))], [], (0, 0), h)) rfl (fun q => ?_) (fun q => ?_)
  · skip
    have q := (lg_cmp0 _ _).mp q
    refine ab_W.go (mm _) 2 (c' := (21, [.long N, .retAddr 0, .int (nI (beg k)), .int (nI (dep k))], [.int (nI 1)], (0, 0), h)) rfl ?_
    refine ab_W.retI (mm _) (rt := some .boolean) (v := nI 1) rfl rfl ?_
    exact hp _ (Or.inl ⟨q, rfl⟩)
  · skip
    have q : ¬ lies N k := fun z => q ((lg_cmp0 _ _).mpr z)
    refine ab_W.go (mm _) 1 (c' := (21, [.long N, .retAddr 0, .int (nI (beg k)), .int (nI (dep k))], [.int (nI 0)], (0, 0), h)) rfl ?_
    refine ab_W.retI (mm _) (rt := some .boolean) (v := nI 0) rfl rfl ?_
    exact hp _ (Or.inr ⟨q, rfl⟩)
