/-! THE REFERENCE: the row of heights that is looked at -/
abbrev nowP (h : ab_H) (f : Nat → Int32) : Prop := h[89]? = some (.inl (0, 64, .inl f))
theorem sp_mlook (d : Nat) {h : ab_H} {hap sz op : Int32} {H : Nat → Nat → Int32} {s : Nat} {g0 : Nat → Int32} (h0 : h[84]? = some (mObj hap sz op)) (hH : arrH h 88 12 H) (hs : s < 12) (hN : nowP h g0) {post : ab_P} (hp : ∀ f, (∀ c, c < 64 → f c = H s c) → post none (hA h 89 f)) : mCC (d + 1) kSpanStampsModel_look [.ref 84, .int (nI s)] h post := by
  obtain ⟨g, g1, g2⟩ := hH
  have l89 := hA_lt hN
  have f1 : ∀ f, (hA h 89 f)[84]? = some (mObj hap sz op) := fun f => (hA_ne (by decide)).trans h0
  have f2 : ∀ f, (hA h 89 f)[88]? = some (.inl (0, 64 * 12, .inl g)) := fun f => (hA_ne (by decide)).trans g1
  have loop : ∀ c, c ≤ 64 → ∀ f, (∀ j, j < c → f j = H s j) → ab_W (ab_st (mT kSpanStampsModel_look) mB mF (mR kSpanStampsModel_look) none) (mCC d) post (2, [.ref 84, .int (nI s), .int (nI c)], [], (0, 0), hA h 89 f) := by
    refine down 64 ?_ ?_
    · intro f hf
      refine ab_W.go (mm _) 2 (c' := (5, [.ref 84, .int (nI s), .int (nI 64)], [.int (nI 64), .int (nI 64)], (0, 0), hA h 89 f)) rfl ?_
      refine ab_W.itT (mm _) (p := (nI 64) ≤ (nI 64)) (c1 := (31, [.ref 84, .int (nI s), .int (nI 64)], [], (0, 0), hA h 89 f)) (c2 := (8, [.ref 84, .int (nI s), .int (nI 64)], [], (0, 0), hA h 89 f)) rfl ((by decide)) ?_
      refine ab_W.ret (mm _) (v := none) rfl ?_
      exact hp f hf
    · intro c hc ih f hf
      refine ab_W.go (mm _) 2 (c' := (5, [.ref 84, .int (nI s), .int (nI c)], [.int (nI 64), .int (nI c)], (0, 0), hA h 89 f)) rfl ?_
      refine ab_W.itF (mm _) (p := (nI 64) ≤ (nI c)) (c1 := (31, [.ref 84, .int (nI s), .int (nI c)], [], (0, 0), hA h 89 f)) (c2 := (8, [.ref 84, .int (nI s), .int (nI c)], [], (0, 0), hA h 89 f)) rfl (fun z => absurd ((nI_leI (by omega) (by omega)).mp z) (by omega)) ?_
      refine ab_W.go (mm _) 1 (c' := (9, [.ref 84, .int (nI s), .int (nI c)], [.ref 84], (0, 0), hA h 89 f)) rfl ?_
      refine ab_W.o (mm _) (f1 f) rfl (c' := (12, [.ref 84, .int (nI s), .int (nI c)], [.ref 89], (0, 0), hA h 89 f)) rfl ?_
      refine ab_W.go (mm _) 2 (c' := (14, [.ref 84, .int (nI s), .int (nI c)], [.ref 84, .int (nI c), .ref 89], (0, 0), hA h 89 f)) rfl ?_
      refine ab_W.o (mm _) (f1 f) rfl (c' := (17, [.ref 84, .int (nI s), .int (nI c)], [.ref 88, .int (nI c), .ref 89], (0, 0), hA h 89 f)) rfl ?_
      refine ab_W.go (mm _) 3 (c' := (21, [.ref 84, .int (nI s), .int (nI c)], [.int ((nI 64) * (nI s)), .ref 88, .int (nI c), .ref 89], (0, 0), hA h 89 f)) rfl ?_
      refine ab_W.topi (pk_mul 64 s) ?_
      refine ab_W.go (mm _) 2 (c' := (23, [.ref 84, .int (nI s), .int (nI c)], [.int ((nI (64 * s)) + (nI c)), .ref 88, .int (nI c), .ref 89], (0, 0), hA h 89 f)) rfl ?_
      refine ab_W.topi (nI_add (64 * s) c) ?_
      refine ab_W.iald (mm _) (j := 64 * s + c) (f2 f) (by simp only [nI_add, pk_mul]) (by omega) rfl rfl ?_
      show ab_W _ _ _ (24, [.ref 84, .int (nI s), .int (nI c)], [.int (g (64 * s + c)), .int (nI c), .ref 89], (0, 0), hA h 89 f)
      refine ab_W.topi (g2 s c hs hc) ?_
      refine ab_W.iast (mm _) (j := c) (hA_at l89) rfl (by omega) rfl rfl ?_
      refine ab_W.hp (hA_hA) ?_
      show ab_W _ _ _ (25, [.ref 84, .int (nI s), .int (nI c)], [], (0, 0), hA h 89 (upd f c (H s c)))
      refine ab_W.go (mm _) 1 (c' := (28, [.ref 84, .int (nI s), .int (nI c + nI 1)], [], (0, 0), hA h 89 (upd f c (H s c)))) rfl ?_
      rw [nI_add c 1]
      refine ab_W.go (mm _) 1 (c' := (2, [.ref 84, .int (nI s), .int (nI (c + 1))], [], (0, 0), hA h 89 (upd f c (H s c)))) rfl ?_
      refine ih _ (fun j hj => ?_)
      by_cases e : j = c
      · rw [e, upd_at]
      · rw [upd_no _ _ e]
        exact hf j (by omega)
  refine ⟨rfl, ?_⟩
  show ab_W _ _ _ (0, [.ref 84, .int (nI s), .retAddr 0], [], (0, 0), h)
  refine ab_W.go (mm _) 2 (c' := (2, [.ref 84, .int (nI s), .int (nI 0)], [], (0, 0), h)) rfl ?_
  have := loop 0 (Nat.zero_le _) g0 (fun j hj => absurd hj (Nat.not_lt_zero j))
  rw [hA_self hN] at this
  exact this
/-- least and greatest, by a loop from the beginning on -/
def lsF (f : Nat → Int32) (b : Nat) : Nat → Int32
  | 0 => f b
  | i + 1 => if f (b + i) < lsF f b i then f (b + i) else lsF f b i
def gtF (f : Nat → Int32) (b : Nat) : Nat → Int32
  | 0 => f b
  | i + 1 => if gtF f b i < f (b + i) then f (b + i) else gtF f b i
theorem sp_mleast (d : Nat) {h : ab_H} {hap sz op : Int32} {k : Nat} {f : Nat → Int32} (h0 : h[84]? = some (mObj hap sz op)) (hN : nowP h f) (h1 : 1 ≤ k) (hk : k < 128) {post : ab_P} (hp : post (some (.int (lsF f (beg k) (siz k)))) h) : mCC (d + 4) kSpanStampsModel_leastIn [.ref 84, .int (nI k)] h post := by
  obtain ⟨s1, s2, s3, s4⟩ := sp_le k hk h1
  have loop : ∀ i, i ≤ siz k → ab_W (ab_st (mT kSpanStampsModel_leastIn) mB mF (mR kSpanStampsModel_leastIn) none) (mCC (d + 3)) post (12, [.ref 84, .int (nI k), .int (lsF f (beg k) i), .int (nI i)], [], (0, 0), h) := by
    refine down (siz k) ?_ ?_
    · skip
      refine ab_W.go (mm _) 2 (c' := (14, [.ref 84, .int (nI k), .int (lsF f (beg k) (siz k)), .int (nI (siz k))], [.int (nI k), .int (nI (siz k))], (0, 0), h)) rfl ?_
      refine ab_W.call (mm _) (k := 71) (av := [.int (nI k)]) (c' := (17, [.ref 84, .int (nI k), .int (lsF f (beg k) (siz k)), .int (nI (siz k))], [.int (nI (siz k))], (0, 0), h)) rfl ?_
      refine msizeOf _ h1 hk ?_
      show ab_W _ _ _ (17, [.ref 84, .int (nI k), .int (lsF f (beg k) (siz k)), .int (nI (siz k))], [.int (nI (siz k)), .int (nI (siz k))], (0, 0), h)
      refine ab_W.itT (mm _) (p := (nI (siz k)) ≤ (nI (siz k))) (c1 := (57, [.ref 84, .int (nI k), .int (lsF f (beg k) (siz k)), .int (nI (siz k))], [], (0, 0), h)) (c2 := (20, [.ref 84, .int (nI k), .int (lsF f (beg k) (siz k)), .int (nI (siz k))], [], (0, 0), h)) rfl (Int32.le_refl _) ?_
      refine ab_W.go (mm _) 1 (c' := (58, [.ref 84, .int (nI k), .int (lsF f (beg k) (siz k)), .int (nI (siz k))], [.int (lsF f (beg k) (siz k))], (0, 0), h)) rfl ?_
      refine ab_W.retI (mm _) (rt := some .int) (v := lsF f (beg k) (siz k)) rfl rfl ?_
      exact hp
    · intro i hi ih
      refine ab_W.go (mm _) 2 (c' := (14, [.ref 84, .int (nI k), .int (lsF f (beg k) i), .int (nI i)], [.int (nI k), .int (nI i)], (0, 0), h)) rfl ?_
      refine ab_W.call (mm _) (k := 71) (av := [.int (nI k)]) (c' := (17, [.ref 84, .int (nI k), .int (lsF f (beg k) i), .int (nI i)], [.int (nI i)], (0, 0), h)) rfl ?_
      refine msizeOf _ h1 hk ?_
      show ab_W _ _ _ (17, [.ref 84, .int (nI k), .int (lsF f (beg k) i), .int (nI i)], [.int (nI (siz k)), .int (nI i)], (0, 0), h)
      refine ab_W.itF (mm _) (p := (nI (siz k)) ≤ (nI i)) (c1 := (57, [.ref 84, .int (nI k), .int (lsF f (beg k) i), .int (nI i)], [], (0, 0), h)) (c2 := (20, [.ref 84, .int (nI k), .int (lsF f (beg k) i), .int (nI i)], [], (0, 0), h)) rfl (fun z => absurd ((nI_leI (by omega) (by omega)).mp z) (by omega)) ?_
      refine ab_W.go (mm _) 1 (c' := (21, [.ref 84, .int (nI k), .int (lsF f (beg k) i), .int (nI i)], [.ref 84], (0, 0), h)) rfl ?_
      refine ab_W.o (mm _) (h0) rfl (c' := (24, [.ref 84, .int (nI k), .int (lsF f (beg k) i), .int (nI i)], [.ref 89], (0, 0), h)) rfl ?_
      refine ab_W.go (mm _) 1 (c' := (25, [.ref 84, .int (nI k), .int (lsF f (beg k) i), .int (nI i)], [.int (nI k), .ref 89], (0, 0), h)) rfl ?_
      refine ab_W.call (mm _) (k := 72) (av := [.int (nI k)]) (c' := (28, [.ref 84, .int (nI k), .int (lsF f (beg k) i), .int (nI i)], [.ref 89], (0, 0), h)) rfl ?_
      refine mbeginOf _ h1 hk ?_
      show ab_W _ _ _ (28, [.ref 84, .int (nI k), .int (lsF f (beg k) i), .int (nI i)], [.int (nI (beg k)), .ref 89], (0, 0), h)
      refine ab_W.go (mm _) 2 (c' := (30, [.ref 84, .int (nI k), .int (lsF f (beg k) i), .int (nI i)], [.int ((nI (beg k)) + (nI i)), .ref 89], (0, 0), h)) rfl ?_
      refine ab_W.topi (nI_add (beg k) i) ?_
      refine ab_W.iald (mm _) (j := beg k + i) (hN) (by simp only [nI_add, pk_mul]) (by omega) rfl rfl ?_
      show ab_W _ _ _ (31, [.ref 84, .int (nI k), .int (lsF f (beg k) i), .int (nI i)], [.int (f (beg k + i))], (0, 0), h)
      refine ab_W.go (mm _) 1 (c' := (32, [.ref 84, .int (nI k), .int (lsF f (beg k) i), .int (nI i)], [.int (lsF f (beg k) i), .int (f (beg k + i))], (0, 0), h)) rfl ?_
      refine ab_W.ite (mm _) (p := (lsF f (beg k) i) ≤ (f (beg k + i))) (c1 := (49, [.ref 84, .int (nI k), .int (lsF f (beg k) i), .int (nI i)], [], (0, 0), h)) (c2 := (35, [.ref 84, .int (nI k), .int (lsF f (beg k) i), .int (nI i)], [], (0, 0), h)) rfl (fun q => ?_) (fun q => ?_)
      · skip
        rw [show lsF f (beg k) (i + 1) = _ from if_neg (Int32.not_lt.mpr q)] at ih
        refine ab_W.go (mm _) 3 (c' := (54, [.ref 84, .int (nI k), .int (lsF f (beg k) i), .int (nI i + nI 1)], [], (0, 0), h)) rfl ?_
        rw [nI_add i 1]
        refine ab_W.go (mm _) 1 (c' := (12, [.ref 84, .int (nI k), .int (lsF f (beg k) i), .int (nI (i + 1))], [], (0, 0), h)) rfl ?_
        exact ih
      · skip
        rw [show lsF f (beg k) (i + 1) = _ from if_pos (Int32.not_le.mp q)] at ih
        refine ab_W.go (mm _) 1 (c' := (36, [.ref 84, .int (nI k), .int (lsF f (beg k) i), .int (nI i)], [.ref 84], (0, 0), h)) rfl ?_
        refine ab_W.o (mm _) (h0) rfl (c' := (39, [.ref 84, .int (nI k), .int (lsF f (beg k) i), .int (nI i)], [.ref 89], (0, 0), h)) rfl ?_
        refine ab_W.go (mm _) 1 (c' := (40, [.ref 84, .int (nI k), .int (lsF f (beg k) i), .int (nI i)], [.int (nI k), .ref 89], (0, 0), h)) rfl ?_
        refine ab_W.call (mm _) (k := 72) (av := [.int (nI k)]) (c' := (43, [.ref 84, .int (nI k), .int (lsF f (beg k) i), .int (nI i)], [.ref 89], (0, 0), h)) rfl ?_
        refine mbeginOf _ h1 hk ?_
        show ab_W _ _ _ (43, [.ref 84, .int (nI k), .int (lsF f (beg k) i), .int (nI i)], [.int (nI (beg k)), .ref 89], (0, 0), h)
        refine ab_W.go (mm _) 2 (c' := (45, [.ref 84, .int (nI k), .int (lsF f (beg k) i), .int (nI i)], [.int ((nI (beg k)) + (nI i)), .ref 89], (0, 0), h)) rfl ?_
        refine ab_W.topi (nI_add (beg k) i) ?_
        refine ab_W.iald (mm _) (j := beg k + i) (hN) (by simp only [nI_add, pk_mul]) (by omega) rfl rfl ?_
        show ab_W _ _ _ (46, [.ref 84, .int (nI k), .int (lsF f (beg k) i), .int (nI i)], [.int (f (beg k + i))], (0, 0), h)
        refine ab_W.go (mm _) 3 (c' := (54, [.ref 84, .int (nI k), .int (f (beg k + i)), .int (nI i + nI 1)], [], (0, 0), h)) rfl ?_
        rw [nI_add i 1]
        refine ab_W.go (mm _) 1 (c' := (12, [.ref 84, .int (nI k), .int (f (beg k + i)), .int (nI (i + 1))], [], (0, 0), h)) rfl ?_
        exact ih
  refine ⟨rfl, ?_⟩
  show ab_W _ _ _ (0, [.ref 84, .int (nI k), .retAddr 0, .retAddr 0], [], (0, 0), h)
  refine ab_W.go (mm _) 1 (c' := (1, [.ref 84, .int (nI k), .retAddr 0, .retAddr 0], [.ref 84], (0, 0), h)) rfl ?_
  refine ab_W.o (mm _) (h0) rfl (c' := (4, [.ref 84, .int (nI k), .retAddr 0, .retAddr 0], [.ref 89], (0, 0), h)) rfl ?_
  refine ab_W.go (mm _) 1 (c' := (5, [.ref 84, .int (nI k), .retAddr 0, .retAddr 0], [.int (nI k), .ref 89], (0, 0), h)) rfl ?_
  refine ab_W.call (mm _) (k := 72) (av := [.int (nI k)]) (c' := (8, [.ref 84, .int (nI k), .retAddr 0, .retAddr 0], [.ref 89], (0, 0), h)) rfl ?_
  refine mbeginOf _ h1 hk ?_
  show ab_W _ _ _ (8, [.ref 84, .int (nI k), .retAddr 0, .retAddr 0], [.int (nI (beg k)), .ref 89], (0, 0), h)
  refine ab_W.iald (mm _) (j := beg k) (hN) rfl (by omega) rfl rfl ?_
  show ab_W _ _ _ (9, [.ref 84, .int (nI k), .retAddr 0, .retAddr 0], [.int (f (beg k))], (0, 0), h)
  refine ab_W.go (mm _) 3 (c' := (12, [.ref 84, .int (nI k), .int (f (beg k)), .int (nI 0)], [], (0, 0), h)) rfl ?_
  exact loop 0 (Nat.zero_le _)
theorem sp_mgreatest (d : Nat) {h : ab_H} {hap sz op : Int32} {k : Nat} {f : Nat → Int32} (h0 : h[84]? = some (mObj hap sz op)) (hN : nowP h f) (h1 : 1 ≤ k) (hk : k < 128) {post : ab_P} (hp : post (some (.int (gtF f (beg k) (siz k)))) h) : mCC (d + 4) kSpanStampsModel_greatestIn [.ref 84, .int (nI k)] h post := by
  obtain ⟨s1, s2, s3, s4⟩ := sp_le k hk h1
  have loop : ∀ i, i ≤ siz k → ab_W (ab_st (mT kSpanStampsModel_greatestIn) mB mF (mR kSpanStampsModel_greatestIn) none) (mCC (d + 3)) post (12, [.ref 84, .int (nI k), .int (gtF f (beg k) i), .int (nI i)], [], (0, 0), h) := by
    refine down (siz k) ?_ ?_
    · skip
      refine ab_W.go (mm _) 2 (c' := (14, [.ref 84, .int (nI k), .int (gtF f (beg k) (siz k)), .int (nI (siz k))], [.int (nI k), .int (nI (siz k))], (0, 0), h)) rfl ?_
      refine ab_W.call (mm _) (k := 71) (av := [.int (nI k)]) (c' := (17, [.ref 84, .int (nI k), .int (gtF f (beg k) (siz k)), .int (nI (siz k))], [.int (nI (siz k))], (0, 0), h)) rfl ?_
      refine msizeOf _ h1 hk ?_
      show ab_W _ _ _ (17, [.ref 84, .int (nI k), .int (gtF f (beg k) (siz k)), .int (nI (siz k))], [.int (nI (siz k)), .int (nI (siz k))], (0, 0), h)
      refine ab_W.itT (mm _) (p := (nI (siz k)) ≤ (nI (siz k))) (c1 := (57, [.ref 84, .int (nI k), .int (gtF f (beg k) (siz k)), .int (nI (siz k))], [], (0, 0), h)) (c2 := (20, [.ref 84, .int (nI k), .int (gtF f (beg k) (siz k)), .int (nI (siz k))], [], (0, 0), h)) rfl (Int32.le_refl _) ?_
      refine ab_W.go (mm _) 1 (c' := (58, [.ref 84, .int (nI k), .int (gtF f (beg k) (siz k)), .int (nI (siz k))], [.int (gtF f (beg k) (siz k))], (0, 0), h)) rfl ?_
      refine ab_W.retI (mm _) (rt := some .int) (v := gtF f (beg k) (siz k)) rfl rfl ?_
      exact hp
    · intro i hi ih
      refine ab_W.go (mm _) 2 (c' := (14, [.ref 84, .int (nI k), .int (gtF f (beg k) i), .int (nI i)], [.int (nI k), .int (nI i)], (0, 0), h)) rfl ?_
      refine ab_W.call (mm _) (k := 71) (av := [.int (nI k)]) (c' := (17, [.ref 84, .int (nI k), .int (gtF f (beg k) i), .int (nI i)], [.int (nI i)], (0, 0), h)) rfl ?_
      refine msizeOf _ h1 hk ?_
      show ab_W _ _ _ (17, [.ref 84, .int (nI k), .int (gtF f (beg k) i), .int (nI i)], [.int (nI (siz k)), .int (nI i)], (0, 0), h)
      refine ab_W.itF (mm _) (p := (nI (siz k)) ≤ (nI i)) (c1 := (57, [.ref 84, .int (nI k), .int (gtF f (beg k) i), .int (nI i)], [], (0, 0), h)) (c2 := (20, [.ref 84, .int (nI k), .int (gtF f (beg k) i), .int (nI i)], [], (0, 0), h)) rfl (fun z => absurd ((nI_leI (by omega) (by omega)).mp z) (by omega)) ?_
      refine ab_W.go (mm _) 1 (c' := (21, [.ref 84, .int (nI k), .int (gtF f (beg k) i), .int (nI i)], [.ref 84], (0, 0), h)) rfl ?_
      refine ab_W.o (mm _) (h0) rfl (c' := (24, [.ref 84, .int (nI k), .int (gtF f (beg k) i), .int (nI i)], [.ref 89], (0, 0), h)) rfl ?_
      refine ab_W.go (mm _) 1 (c' := (25, [.ref 84, .int (nI k), .int (gtF f (beg k) i), .int (nI i)], [.int (nI k), .ref 89], (0, 0), h)) rfl ?_
      refine ab_W.call (mm _) (k := 72) (av := [.int (nI k)]) (c' := (28, [.ref 84, .int (nI k), .int (gtF f (beg k) i), .int (nI i)], [.ref 89], (0, 0), h)) rfl ?_
      refine mbeginOf _ h1 hk ?_
      show ab_W _ _ _ (28, [.ref 84, .int (nI k), .int (gtF f (beg k) i), .int (nI i)], [.int (nI (beg k)), .ref 89], (0, 0), h)
      refine ab_W.go (mm _) 2 (c' := (30, [.ref 84, .int (nI k), .int (gtF f (beg k) i), .int (nI i)], [.int ((nI (beg k)) + (nI i)), .ref 89], (0, 0), h)) rfl ?_
      refine ab_W.topi (nI_add (beg k) i) ?_
      refine ab_W.iald (mm _) (j := beg k + i) (hN) (by simp only [nI_add, pk_mul]) (by omega) rfl rfl ?_
      show ab_W _ _ _ (31, [.ref 84, .int (nI k), .int (gtF f (beg k) i), .int (nI i)], [.int (f (beg k + i))], (0, 0), h)
      refine ab_W.go (mm _) 1 (c' := (32, [.ref 84, .int (nI k), .int (gtF f (beg k) i), .int (nI i)], [.int (gtF f (beg k) i), .int (f (beg k + i))], (0, 0), h)) rfl ?_
      refine ab_W.ite (mm _) (p := (f (beg k + i)) ≤ (gtF f (beg k) i)) (c1 := (49, [.ref 84, .int (nI k), .int (gtF f (beg k) i), .int (nI i)], [], (0, 0), h)) (c2 := (35, [.ref 84, .int (nI k), .int (gtF f (beg k) i), .int (nI i)], [], (0, 0), h)) rfl (fun q => ?_) (fun q => ?_)
      · skip
        rw [show gtF f (beg k) (i + 1) = _ from if_neg (Int32.not_lt.mpr q)] at ih
        refine ab_W.go (mm _) 3 (c' := (54, [.ref 84, .int (nI k), .int (gtF f (beg k) i), .int (nI i + nI 1)], [], (0, 0), h)) rfl ?_
        rw [nI_add i 1]
        refine ab_W.go (mm _) 1 (c' := (12, [.ref 84, .int (nI k), .int (gtF f (beg k) i), .int (nI (i + 1))], [], (0, 0), h)) rfl ?_
        exact ih
      · skip
        rw [show gtF f (beg k) (i + 1) = _ from if_pos (Int32.not_le.mp q)] at ih
        refine ab_W.go (mm _) 1 (c' := (36, [.ref 84, .int (nI k), .int (gtF f (beg k) i), .int (nI i)], [.ref 84], (0, 0), h)) rfl ?_
        refine ab_W.o (mm _) (h0) rfl (c' := (39, [.ref 84, .int (nI k), .int (gtF f (beg k) i), .int (nI i)], [.ref 89], (0, 0), h)) rfl ?_
        refine ab_W.go (mm _) 1 (c' := (40, [.ref 84, .int (nI k), .int (gtF f (beg k) i), .int (nI i)], [.int (nI k), .ref 89], (0, 0), h)) rfl ?_
        refine ab_W.call (mm _) (k := 72) (av := [.int (nI k)]) (c' := (43, [.ref 84, .int (nI k), .int (gtF f (beg k) i), .int (nI i)], [.ref 89], (0, 0), h)) rfl ?_
        refine mbeginOf _ h1 hk ?_
        show ab_W _ _ _ (43, [.ref 84, .int (nI k), .int (gtF f (beg k) i), .int (nI i)], [.int (nI (beg k)), .ref 89], (0, 0), h)
        refine ab_W.go (mm _) 2 (c' := (45, [.ref 84, .int (nI k), .int (gtF f (beg k) i), .int (nI i)], [.int ((nI (beg k)) + (nI i)), .ref 89], (0, 0), h)) rfl ?_
        refine ab_W.topi (nI_add (beg k) i) ?_
        refine ab_W.iald (mm _) (j := beg k + i) (hN) (by simp only [nI_add, pk_mul]) (by omega) rfl rfl ?_
        show ab_W _ _ _ (46, [.ref 84, .int (nI k), .int (gtF f (beg k) i), .int (nI i)], [.int (f (beg k + i))], (0, 0), h)
        refine ab_W.go (mm _) 3 (c' := (54, [.ref 84, .int (nI k), .int (f (beg k + i)), .int (nI i + nI 1)], [], (0, 0), h)) rfl ?_
        rw [nI_add i 1]
        refine ab_W.go (mm _) 1 (c' := (12, [.ref 84, .int (nI k), .int (f (beg k + i)), .int (nI (i + 1))], [], (0, 0), h)) rfl ?_
        exact ih
  refine ⟨rfl, ?_⟩
  show ab_W _ _ _ (0, [.ref 84, .int (nI k), .retAddr 0, .retAddr 0], [], (0, 0), h)
  refine ab_W.go (mm _) 1 (c' := (1, [.ref 84, .int (nI k), .retAddr 0, .retAddr 0], [.ref 84], (0, 0), h)) rfl ?_
  refine ab_W.o (mm _) (h0) rfl (c' := (4, [.ref 84, .int (nI k), .retAddr 0, .retAddr 0], [.ref 89], (0, 0), h)) rfl ?_
  refine ab_W.go (mm _) 1 (c' := (5, [.ref 84, .int (nI k), .retAddr 0, .retAddr 0], [.int (nI k), .ref 89], (0, 0), h)) rfl ?_
  refine ab_W.call (mm _) (k := 72) (av := [.int (nI k)]) (c' := (8, [.ref 84, .int (nI k), .retAddr 0, .retAddr 0], [.ref 89], (0, 0), h)) rfl ?_
  refine mbeginOf _ h1 hk ?_
  show ab_W _ _ _ (8, [.ref 84, .int (nI k), .retAddr 0, .retAddr 0], [.int (nI (beg k)), .ref 89], (0, 0), h)
  refine ab_W.iald (mm _) (j := beg k) (hN) rfl (by omega) rfl rfl ?_
  show ab_W _ _ _ (9, [.ref 84, .int (nI k), .retAddr 0, .retAddr 0], [.int (f (beg k))], (0, 0), h)
  refine ab_W.go (mm _) 3 (c' := (12, [.ref 84, .int (nI k), .int (f (beg k)), .int (nI 0)], [], (0, 0), h)) rfl ?_
  exact loop 0 (Nat.zero_le _)
theorem sp_mgreater (d : Nat) {h : ab_H} {x y : Int32} {post : ab_P} (hp : post (some (.int (mxI x y))) h) : mCC (d + 1) kSpanStampsModel_greater [.int x, .int y] h post := by
  refine ⟨rfl, ?_⟩
  show ab_W _ _ _ (0, [.int x, .int y], [], (0, 0), h)
  refine ab_W.go (mm _) 2 (c' := (2, [.int x, .int y], [.int y, .int x], (0, 0), h)) rfl ?_
  refine ab_W.ite (mm _) (p := x ≤ y) (c1 := (9, [.int x, .int y], [], (0, 0), h)) (c2 := (5, [.int x, .int y], [], (0, 0), h)) rfl (fun q => ?_) (fun q => ?_)
  · skip
    refine ab_W.go (mm _) 1 (c' := (10, [.int x, .int y], [.int y], (0, 0), h)) rfl ?_
    refine ab_W.retI (mm _) (rt := some .int) (v := y) rfl rfl ?_
    have e : mxI x y = y := by
      unfold mxI
      by_cases z : x < y
      · exact if_pos z
      · rw [if_neg z]
        exact Int32.le_antisymm q (Int32.not_lt.mp z)
    rw [e] at hp
    exact hp
  · skip
    refine ab_W.go (mm _) 2 (c' := (10, [.int x, .int y], [.int x], (0, 0), h)) rfl ?_
    refine ab_W.retI (mm _) (rt := some .int) (v := x) rfl rfl ?_
    rw [show mxI x y = x from if_neg (fun z => q (Int32.le_of_lt z))] at hp
    exact hp
theorem sp_mchanged (d : Nat) {h : ab_H} {hap sz op : Int32} {H : Nat → Nat → Int32} {s : Nat} {f : Nat → Int32} (h0 : h[84]? = some (mObj hap sz op)) (hH : arrH h 88 12 H) (hs : s < 12) (hN : nowP h f) {post : ab_P} (hp : post (some (.int (nI (chF f (H s) 64)))) h) : mCC (d + 1) kSpanStampsModel_changed [.ref 84, .int (nI s)] h post := by
  obtain ⟨g, g1, g2⟩ := hH
  have loop : ∀ c, c ≤ 64 → ab_W (ab_st (mT kSpanStampsModel_changed) mB mF (mR kSpanStampsModel_changed) none) (mCC d) post (4, [.ref 84, .int (nI s), .int (nI (chF f (H s) c)), .int (nI c)], [], (0, 0), h) := by
    refine down 64 ?_ ?_
    · skip
      refine ab_W.go (mm _) 2 (c' := (7, [.ref 84, .int (nI s), .int (nI (chF f (H s) 64)), .int (nI 64)], [.int (nI 64), .int (nI 64)], (0, 0), h)) rfl ?_
      refine ab_W.itT (mm _) (p := (nI 64) ≤ (nI 64)) (c1 := (44, [.ref 84, .int (nI s), .int (nI (chF f (H s) 64)), .int (nI 64)], [], (0, 0), h)) (c2 := (10, [.ref 84, .int (nI s), .int (nI (chF f (H s) 64)), .int (nI 64)], [], (0, 0), h)) rfl ((by decide)) ?_
      refine ab_W.go (mm _) 1 (c' := (45, [.ref 84, .int (nI s), .int (nI (chF f (H s) 64)), .int (nI 64)], [.int (nI (chF f (H s) 64))], (0, 0), h)) rfl ?_
      refine ab_W.retI (mm _) (rt := some .int) (v := nI (chF f (H s) 64)) rfl rfl ?_
      exact hp
    · intro c hc ih
      refine ab_W.go (mm _) 2 (c' := (7, [.ref 84, .int (nI s), .int (nI (chF f (H s) c)), .int (nI c)], [.int (nI 64), .int (nI c)], (0, 0), h)) rfl ?_
      refine ab_W.itF (mm _) (p := (nI 64) ≤ (nI c)) (c1 := (44, [.ref 84, .int (nI s), .int (nI (chF f (H s) c)), .int (nI c)], [], (0, 0), h)) (c2 := (10, [.ref 84, .int (nI s), .int (nI (chF f (H s) c)), .int (nI c)], [], (0, 0), h)) rfl (fun z => absurd ((nI_leI (by omega) (by omega)).mp z) (by omega)) ?_
      refine ab_W.go (mm _) 2 (c' := (12, [.ref 84, .int (nI s), .int (nI (chF f (H s) c)), .int (nI c)], [.ref 84, .int (nI (chF f (H s) c))], (0, 0), h)) rfl ?_
      refine ab_W.o (mm _) (h0) rfl (c' := (15, [.ref 84, .int (nI s), .int (nI (chF f (H s) c)), .int (nI c)], [.ref 89, .int (nI (chF f (H s) c))], (0, 0), h)) rfl ?_
      refine ab_W.go (mm _) 1 (c' := (16, [.ref 84, .int (nI s), .int (nI (chF f (H s) c)), .int (nI c)], [.int (nI c), .ref 89, .int (nI (chF f (H s) c))], (0, 0), h)) rfl ?_
      refine ab_W.iald (mm _) (j := c) (hN) rfl (by omega) rfl rfl ?_
      show ab_W _ _ _ (17, [.ref 84, .int (nI s), .int (nI (chF f (H s) c)), .int (nI c)], [.int (f c), .int (nI (chF f (H s) c))], (0, 0), h)
      refine ab_W.go (mm _) 1 (c' := (18, [.ref 84, .int (nI s), .int (nI (chF f (H s) c)), .int (nI c)], [.ref 84, .int (f c), .int (nI (chF f (H s) c))], (0, 0), h)) rfl ?_
      refine ab_W.o (mm _) (h0) rfl (c' := (21, [.ref 84, .int (nI s), .int (nI (chF f (H s) c)), .int (nI c)], [.ref 88, .int (f c), .int (nI (chF f (H s) c))], (0, 0), h)) rfl ?_
      refine ab_W.go (mm _) 3 (c' := (25, [.ref 84, .int (nI s), .int (nI (chF f (H s) c)), .int (nI c)], [.int ((nI 64) * (nI s)), .ref 88, .int (f c), .int (nI (chF f (H s) c))], (0, 0), h)) rfl ?_
      refine ab_W.topi (pk_mul 64 s) ?_
      refine ab_W.go (mm _) 2 (c' := (27, [.ref 84, .int (nI s), .int (nI (chF f (H s) c)), .int (nI c)], [.int ((nI (64 * s)) + (nI c)), .ref 88, .int (f c), .int (nI (chF f (H s) c))], (0, 0), h)) rfl ?_
      refine ab_W.topi (nI_add (64 * s) c) ?_
      refine ab_W.iald (mm _) (j := 64 * s + c) (g1) (by simp only [nI_add, pk_mul]) (by omega) rfl rfl ?_
      show ab_W _ _ _ (28, [.ref 84, .int (nI s), .int (nI (chF f (H s) c)), .int (nI c)], [.int (g (64 * s + c)), .int (f c), .int (nI (chF f (H s) c))], (0, 0), h)
      refine ab_W.topi (g2 s c hs hc) ?_
      refine ab_W.ite (mm _) (p := (f c) = (H s c)) (c1 := (35, [.ref 84, .int (nI s), .int (nI (chF f (H s) c)), .int (nI c)], [.int (nI (chF f (H s) c))], (0, 0), h)) (c2 := (31, [.ref 84, .int (nI s), .int (nI (chF f (H s) c)), .int (nI c)], [.int (nI (chF f (H s) c))], (0, 0), h)) rfl (fun q => ?_) (fun q => ?_)
      · skip
        rw [show chF f (H s) (c + 1) = chF f (H s) c from cn_f (fun z => z q)] at ih
        refine ab_W.go (mm _) 2 (c' := (37, [.ref 84, .int (nI s), .int (nI (chF f (H s) c)), .int (nI c)], [.int ((nI (chF f (H s) c)) + (nI 0))], (0, 0), h)) rfl ?_
        refine ab_W.topi (nI_add (chF f (H s) c) 0) ?_
        refine ab_W.go (mm _) 2 (c' := (41, [.ref 84, .int (nI s), .int (nI ((chF f (H s) c) + 0)), .int (nI c + nI 1)], [], (0, 0), h)) rfl ?_
        rw [nI_add c 1]
        refine ab_W.go (mm _) 1 (c' := (4, [.ref 84, .int (nI s), .int (nI ((chF f (H s) c) + 0)), .int (nI (c + 1))], [], (0, 0), h)) rfl ?_
        exact ih
      · skip
        rw [show chF f (H s) (c + 1) = chF f (H s) c + 1 from cn_t q] at ih
        refine ab_W.go (mm _) 3 (c' := (37, [.ref 84, .int (nI s), .int (nI (chF f (H s) c)), .int (nI c)], [.int ((nI (chF f (H s) c)) + (nI 1))], (0, 0), h)) rfl ?_
        refine ab_W.topi (nI_add (chF f (H s) c) 1) ?_
        refine ab_W.go (mm _) 2 (c' := (41, [.ref 84, .int (nI s), .int (nI ((chF f (H s) c) + 1)), .int (nI c + nI 1)], [], (0, 0), h)) rfl ?_
        rw [nI_add c 1]
        refine ab_W.go (mm _) 1 (c' := (4, [.ref 84, .int (nI s), .int (nI ((chF f (H s) c) + 1)), .int (nI (c + 1))], [], (0, 0), h)) rfl ?_
        exact ih
  refine ⟨rfl, ?_⟩
  show ab_W _ _ _ (0, [.ref 84, .int (nI s), .retAddr 0, .retAddr 0], [], (0, 0), h)
  refine ab_W.go (mm _) 4 (c' := (4, [.ref 84, .int (nI s), .int (nI 0), .int (nI 0)], [], (0, 0), h)) rfl ?_
  exact loop 0 (Nat.zero_le _)
theorem sp_mlevel (d : Nat) {h : ab_H} {hap sz op v : Int32} {k : Nat} {f : Nat → Int32} (h0 : h[84]? = some (mObj hap sz op)) (l89 : 89 < h.length) (h1 : 1 ≤ k) (hk : k < 128) {post : ab_P} (hp : post none (hA h 89 (lev f k v))) : mCC (d + 4) kSpanStampsModel_level [.ref 84, .int (nI k), .int v] (hA h 89 f) post := by
  obtain ⟨s1, s2, s3, s4⟩ := sp_le k hk h1
  have f1 : ∀ f, (hA h 89 f)[84]? = some (mObj hap sz op) := fun f => (hA_ne (by decide)).trans h0
  have loop : ∀ i, i ≤ siz k → ab_W (ab_st (mT kSpanStampsModel_level) mB mF (mR kSpanStampsModel_level) none) (mCC (d + 3)) post (2, [.ref 84, .int (nI k), .int v, .int (nI i)], [], (0, 0), hA h 89 (lvF f (beg k) (beg k + i) v)) := by
    refine down (siz k) ?_ ?_
    · skip
      refine ab_W.go (mm _) 2 (c' := (4, [.ref 84, .int (nI k), .int v, .int (nI (siz k))], [.int (nI k), .int (nI (siz k))], (0, 0), hA h 89 (lvF f (beg k) (beg k + siz k) v))) rfl ?_
      refine ab_W.call (mm _) (k := 71) (av := [.int (nI k)]) (c' := (7, [.ref 84, .int (nI k), .int v, .int (nI (siz k))], [.int (nI (siz k))], (0, 0), hA h 89 (lvF f (beg k) (beg k + siz k) v))) rfl ?_
      refine msizeOf _ h1 hk ?_
      show ab_W _ _ _ (7, [.ref 84, .int (nI k), .int v, .int (nI (siz k))], [.int (nI (siz k)), .int (nI (siz k))], (0, 0), hA h 89 (lvF f (beg k) (beg k + siz k) v))
      refine ab_W.itT (mm _) (p := (nI (siz k)) ≤ (nI (siz k))) (c1 := (28, [.ref 84, .int (nI k), .int v, .int (nI (siz k))], [], (0, 0), hA h 89 (lvF f (beg k) (beg k + siz k) v))) (c2 := (10, [.ref 84, .int (nI k), .int v, .int (nI (siz k))], [], (0, 0), hA h 89 (lvF f (beg k) (beg k + siz k) v))) rfl (Int32.le_refl _) ?_
      refine ab_W.ret (mm _) (v := none) rfl ?_
      exact hp
    · intro i hi ih
      refine ab_W.go (mm _) 2 (c' := (4, [.ref 84, .int (nI k), .int v, .int (nI i)], [.int (nI k), .int (nI i)], (0, 0), hA h 89 (lvF f (beg k) (beg k + i) v))) rfl ?_
      refine ab_W.call (mm _) (k := 71) (av := [.int (nI k)]) (c' := (7, [.ref 84, .int (nI k), .int v, .int (nI i)], [.int (nI i)], (0, 0), hA h 89 (lvF f (beg k) (beg k + i) v))) rfl ?_
      refine msizeOf _ h1 hk ?_
      show ab_W _ _ _ (7, [.ref 84, .int (nI k), .int v, .int (nI i)], [.int (nI (siz k)), .int (nI i)], (0, 0), hA h 89 (lvF f (beg k) (beg k + i) v))
      refine ab_W.itF (mm _) (p := (nI (siz k)) ≤ (nI i)) (c1 := (28, [.ref 84, .int (nI k), .int v, .int (nI i)], [], (0, 0), hA h 89 (lvF f (beg k) (beg k + i) v))) (c2 := (10, [.ref 84, .int (nI k), .int v, .int (nI i)], [], (0, 0), hA h 89 (lvF f (beg k) (beg k + i) v))) rfl (fun z => absurd ((nI_leI (by omega) (by omega)).mp z) (by omega)) ?_
      refine ab_W.go (mm _) 1 (c' := (11, [.ref 84, .int (nI k), .int v, .int (nI i)], [.ref 84], (0, 0), hA h 89 (lvF f (beg k) (beg k + i) v))) rfl ?_
      refine ab_W.o (mm _) (f1 _) rfl (c' := (14, [.ref 84, .int (nI k), .int v, .int (nI i)], [.ref 89], (0, 0), hA h 89 (lvF f (beg k) (beg k + i) v))) rfl ?_
      refine ab_W.go (mm _) 1 (c' := (15, [.ref 84, .int (nI k), .int v, .int (nI i)], [.int (nI k), .ref 89], (0, 0), hA h 89 (lvF f (beg k) (beg k + i) v))) rfl ?_
      refine ab_W.call (mm _) (k := 72) (av := [.int (nI k)]) (c' := (18, [.ref 84, .int (nI k), .int v, .int (nI i)], [.ref 89], (0, 0), hA h 89 (lvF f (beg k) (beg k + i) v))) rfl ?_
      refine mbeginOf _ h1 hk ?_
      show ab_W _ _ _ (18, [.ref 84, .int (nI k), .int v, .int (nI i)], [.int (nI (beg k)), .ref 89], (0, 0), hA h 89 (lvF f (beg k) (beg k + i) v))
      refine ab_W.go (mm _) 2 (c' := (20, [.ref 84, .int (nI k), .int v, .int (nI i)], [.int ((nI (beg k)) + (nI i)), .ref 89], (0, 0), hA h 89 (lvF f (beg k) (beg k + i) v))) rfl ?_
      refine ab_W.topi (nI_add (beg k) i) ?_
      refine ab_W.go (mm _) 1 (c' := (21, [.ref 84, .int (nI k), .int v, .int (nI i)], [.int v, .int (nI ((beg k) + i)), .ref 89], (0, 0), hA h 89 (lvF f (beg k) (beg k + i) v))) rfl ?_
      refine ab_W.iast (mm _) (j := beg k + i) (hA_at l89) (by simp only [nI_add, pk_mul]) (by omega) rfl rfl ?_
      refine ab_W.hp (hA_hA) ?_
      show ab_W _ _ _ (22, [.ref 84, .int (nI k), .int v, .int (nI i)], [], (0, 0), hA h 89 (upd (lvF f (beg k) (beg k + i) v) (beg k + i) v))
      rw [lvF_s f v (by omega)]
      show ab_W _ _ _ (22, [.ref 84, .int (nI k), .int v, .int (nI i)], [], (0, 0), hA h 89 (lvF f (beg k) (beg k + i + 1) v))
      refine ab_W.go (mm _) 1 (c' := (25, [.ref 84, .int (nI k), .int v, .int (nI i + nI 1)], [], (0, 0), hA h 89 (lvF f (beg k) (beg k + i + 1) v))) rfl ?_
      rw [nI_add i 1]
      refine ab_W.go (mm _) 1 (c' := (2, [.ref 84, .int (nI k), .int v, .int (nI (i + 1))], [], (0, 0), hA h 89 (lvF f (beg k) (beg k + i + 1) v))) rfl ?_
      exact ih
  refine ⟨rfl, ?_⟩
  show ab_W _ _ _ (0, [.ref 84, .int (nI k), .int v, .retAddr 0], [], (0, 0), hA h 89 f)
  refine ab_W.go (mm _) 2 (c' := (2, [.ref 84, .int (nI k), .int v, .int (nI 0)], [], (0, 0), hA h 89 f)) rfl ?_
  have := loop 0 (Nat.zero_le _)
  rw [show lvF f (beg k) (beg k + 0) v = f from lvF_0 f (beg k) v] at this
  exact this
