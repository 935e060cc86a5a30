/-! heights over spans: pure rows, and the class's -/
def hA (h : ab_H) (a : Nat) (f : Nat → Int32) : ab_H := h.set a (.inl (0, 64, .inl f))
theorem hA_at {h : ab_H} {a : Nat} {f : Nat → Int32} (ha : a < h.length) : (hA h a f)[a]? = some (.inl (0, 64, .inl f)) := List.getElem?_set_self ha
theorem hA_ne {h : ab_H} {a b : Nat} {f : Nat → Int32} (hb : a ≠ b) : (hA h a f)[b]? = h[b]? := List.getElem?_set_ne hb
theorem hA_hA {h : ab_H} {a : Nat} {f g : Nat → Int32} : (hA h a f).set a (.inl (0, 64, .inl g)) = hA h a g := List.set_set _
theorem hA_len {h : ab_H} {a : Nat} {f : Nat → Int32} : (hA h a f).length = h.length := List.length_set
theorem hA_self {h : ab_H} {a : Nat} {f : Nat → Int32} (ha : h[a]? = some (.inl (0, 64, .inl f))) : hA h a f = h := by
  apply List.ext_getElem?
  intro j
  by_cases hj : a = j
  · subst hj
    rw [hA_at (List.getElem?_eq_some_iff.mp ha).1, ha]
  · rw [hA_ne hj]
theorem hA_lt {h : ab_H} {a : Nat} {e : va_E} (ha : h[a]? = some e) : a < h.length := (List.getElem?_eq_some_iff.mp ha).1
def mnF (f : Nat → Int32) (b : Nat) : Nat → Int32
  | 0 => f b
  | i + 1 => if f (b + i) < mnF f b i then f (b + i) else mnF f b i
def mxF (f : Nat → Int32) (b : Nat) : Nat → Int32
  | 0 => f b
  | i + 1 => if mxF f b i < f (b + i) then f (b + i) else mxF f b i
theorem mnF_1 (f : Nat → Int32) (b : Nat) : mnF f b 1 = f b := by
  show (if f (b + 0) < f b then f (b + 0) else f b) = f b
  split <;> rfl
theorem mxF_1 (f : Nat → Int32) (b : Nat) : mxF f b 1 = f b := by
  show (if f b < f (b + 0) then f (b + 0) else f b) = f b
  split <;> rfl
def mn (f : Nat → Int32) (k : Nat) : Int32 := mnF f (beg k) (siz k)
def mx (f : Nat → Int32) (k : Nat) : Int32 := mxF f (beg k) (siz k)
def inK (k j : Nat) : Prop := beg k ≤ j ∧ j < beg k + siz k
def alk (f : Nat → Int32) (k : Nat) : Prop := ∀ j, inK k j → f j = f (beg k)
def lvF (f : Nat → Int32) (b c : Nat) (v : Int32) : Nat → Int32 := fun j => if b ≤ j ∧ j < c then v else f j
def lev (f : Nat → Int32) (k : Nat) (v : Int32) : Nat → Int32 := lvF f (beg k) (beg k + siz k) v
theorem lvF_0 (f : Nat → Int32) (b : Nat) (v : Int32) : lvF f b b v = f := by
  funext j
  exact if_neg (by omega)
theorem lvF_s (f : Nat → Int32) {b c : Nat} (v : Int32) (h : b ≤ c) : upd (lvF f b c v) c v = lvF f b (c + 1) v := by
  funext j
  unfold upd lvF
  by_cases hj : j = c
  · subst hj
    rw [if_pos rfl, if_pos (by omega)]
  · rw [if_neg hj]
    by_cases h1 : b ≤ j ∧ j < c
    · rw [if_pos h1, if_pos (by omega)]
    · rw [if_neg h1, if_neg (by omega)]
theorem sp_isAlike (d : Nat) {h : ab_H} {a k : Nat} {f : Nat → Int32} (ha : h[a]? = some (.inl (0, 64, .inl f))) (h1 : 1 ≤ k) (hk : k < 128) {post : ab_P} (hp : ∀ v : Int32, (alk f k ∧ v = nI 1) ∨ (¬ alk f k ∧ v = nI 0) → post (some (.int v)) h) : mCC (d + 2) kSpan_isAlike [.ref a, .int (nI (beg k)), .int (nI (dep k))] h post := by
  obtain ⟨s1, s2, s3, s4⟩ := sp_le k hk h1
  have loop : ∀ c, c ≤ beg k + siz k → beg k < c → (∀ j, beg k ≤ j → j < c → f j = f (beg k)) → ab_W (ab_st (mT kSpan_isAlike) mB mF (mR kSpan_isAlike) none) (mCC (d + 1)) post (12, [.ref a, .int (nI (beg k)), .int (nI (dep k)), .int (nI (beg k + siz k)), .int (nI c)], [], (0, 0), h) := by
    refine down (beg k + siz k) ?_ ?_
    · intro h2 hall
      refine ab_W.go (mm _) 2 (c' := (15, [.ref a, .int (nI (beg k)), .int (nI (dep k)), .int (nI (beg k + siz k)), .int (nI (beg k + siz k))], [.int (nI (beg k + siz k)), .int (nI (beg k + siz k))], (0, 0), h)) rfl ?_
      refine ab_W.itT (mm _) (p := (nI (beg k + siz k)) ≤ (nI (beg k + siz k))) (c1 := (36, [.ref a, .int (nI (beg k)), .int (nI (dep k)), .int (nI (beg k + siz k)), .int (nI (beg k + siz k))], [], (0, 0), h)) (c2 := (18, [.ref a, .int (nI (beg k)), .int (nI (dep k)), .int (nI (beg k + siz k)), .int (nI (beg k + siz k))], [], (0, 0), h)) rfl ((nI_leI (by omega) (by omega)).mpr (Nat.le_refl _)) ?_
      refine ab_W.go (mm _) 1 (c' := (37, [.ref a, .int (nI (beg k)), .int (nI (dep k)), .int (nI (beg k + siz k)), .int (nI (beg k + siz k))], [.int (nI 1)], (0, 0), h)) rfl ?_
      refine ab_W.retI (mm _) (rt := some .boolean) (v := nI 1) rfl rfl ?_
      exact hp _ (Or.inl ⟨fun j hj => hall j hj.1 hj.2, rfl⟩)
    · intro c hc ih h2 hall
      refine ab_W.go (mm _) 2 (c' := (15, [.ref a, .int (nI (beg k)), .int (nI (dep k)), .int (nI (beg k + siz k)), .int (nI c)], [.int (nI (beg k + siz k)), .int (nI c)], (0, 0), h)) rfl ?_
      refine ab_W.itF (mm _) (p := (nI (beg k + siz k)) ≤ (nI c)) (c1 := (36, [.ref a, .int (nI (beg k)), .int (nI (dep k)), .int (nI (beg k + siz k)), .int (nI c)], [], (0, 0), h)) (c2 := (18, [.ref a, .int (nI (beg k)), .int (nI (dep k)), .int (nI (beg k + siz k)), .int (nI c)], [], (0, 0), h)) rfl (fun z => absurd ((nI_leI (by omega) (by omega)).mp z) (by omega)) ?_
      refine ab_W.go (mm _) 2 (c' := (21, [.ref a, .int (nI (beg k)), .int (nI (dep k)), .int (nI (beg k + siz k)), .int (nI c)], [.int (nI c), .ref a], (0, 0), h)) rfl ?_
      refine ab_W.iald (mm _) (j := c) (ha) rfl (by omega) rfl rfl ?_
      show ab_W _ _ _ (22, [.ref a, .int (nI (beg k)), .int (nI (dep k)), .int (nI (beg k + siz k)), .int (nI c)], [.int (f c)], (0, 0), h)
      refine ab_W.go (mm _) 2 (c' := (24, [.ref a, .int (nI (beg k)), .int (nI (dep k)), .int (nI (beg k + siz k)), .int (nI c)], [.int (nI (beg k)), .ref a, .int (f c)], (0, 0), h)) rfl ?_
      refine ab_W.iald (mm _) (j := (beg k)) (ha) rfl (by omega) rfl rfl ?_
      show ab_W _ _ _ (25, [.ref a, .int (nI (beg k)), .int (nI (dep k)), .int (nI (beg k + siz k)), .int (nI c)], [.int (f (beg k)), .int (f c)], (0, 0), h)
      refine ab_W.ite (mm _) (p := (f c) = (f (beg k))) (c1 := (30, [.ref a, .int (nI (beg k)), .int (nI (dep k)), .int (nI (beg k + siz k)), .int (nI c)], [], (0, 0), h)) (c2 := (28, [.ref a, .int (nI (beg k)), .int (nI (dep k)), .int (nI (beg k + siz k)), .int (nI c)], [], (0, 0), h)) rfl (fun q2 => ?_) (fun q2 => ?_)
      · skip
        refine ab_W.go (mm _) 1 (c' := (33, [.ref a, .int (nI (beg k)), .int (nI (dep k)), .int (nI (beg k + siz k)), .int (nI c + nI 1)], [], (0, 0), h)) rfl ?_
        rw [nI_add c 1]
        refine ab_W.go (mm _) 1 (c' := (12, [.ref a, .int (nI (beg k)), .int (nI (dep k)), .int (nI (beg k + siz k)), .int (nI (c + 1))], [], (0, 0), h)) rfl ?_
        exact ih (by omega) (fun j h1 h2 => by
          rcases Nat.lt_or_ge j c with z | z
          · exact hall j h1 z
          · rw [show j = c by omega]; exact q2)
      · skip
        refine ab_W.go (mm _) 1 (c' := (29, [.ref a, .int (nI (beg k)), .int (nI (dep k)), .int (nI (beg k + siz k)), .int (nI c)], [.int (nI 0)], (0, 0), h)) rfl ?_
        refine ab_W.retI (mm _) (rt := some .boolean) (v := nI 0) rfl rfl ?_
        exact hp _ (Or.inr ⟨fun z => q2 (z c ⟨by omega, hc⟩), rfl⟩)
  refine ⟨rfl, ?_⟩
  show ab_W _ _ _ (0, [.ref a, .int (nI (beg k)), .int (nI (dep k)), .retAddr 0, .retAddr 0], [], (0, 0), h)
  refine ab_W.go (mm _) 2 (c' := (2, [.ref a, .int (nI (beg k)), .int (nI (dep k)), .retAddr 0, .retAddr 0], [.int (nI (dep k)), .int (nI (beg k))], (0, 0), h)) rfl ?_
  refine ab_W.call (mm _) (k := 22) (av := [.int (nI (dep k))]) (c' := (5, [.ref a, .int (nI (beg k)), .int (nI (dep k)), .retAddr 0, .retAddr 0], [.int (nI (beg k))], (0, 0), h)) rfl ?_
  refine sp_sizeOf _ s1 ?_
  show ab_W _ _ _ (5, [.ref a, .int (nI (beg k)), .int (nI (dep k)), .retAddr 0, .retAddr 0], [.int (nI (siz k)), .int (nI (beg k))], (0, 0), h)
  refine ab_W.go (mm _) 1 (c' := (6, [.ref a, .int (nI (beg k)), .int (nI (dep k)), .retAddr 0, .retAddr 0], [.int ((nI (beg k)) + (nI (siz k)))], (0, 0), h)) rfl ?_
  refine ab_W.topi (nI_add (beg k) (siz k)) ?_
  refine ab_W.go (mm _) 4 (c' := (10, [.ref a, .int (nI (beg k)), .int (nI (dep k)), .int (nI ((beg k) + (siz k))), .retAddr 0], [.int ((nI (beg k)) + (nI 1))], (0, 0), h)) rfl ?_
  refine ab_W.topi (nI_add (beg k) 1) ?_
  refine ab_W.go (mm _) 1 (c' := (12, [.ref a, .int (nI (beg k)), .int (nI (dep k)), .int (nI ((beg k) + (siz k))), .int (nI ((beg k) + 1))], [], (0, 0), h)) rfl ?_
  exact loop (beg k + 1) (by omega) (by omega) (fun j h1 h2 => by rw [show j = beg k by omega])
theorem sp_greatestOf (d : Nat) {h : ab_H} {a k : Nat} {f : Nat → Int32} (ha : h[a]? = some (.inl (0, 64, .inl f))) (h1 : 1 ≤ k) (hk : k < 128) {post : ab_P} (hp : post (some (.int (mx f k))) h) : mCC (d + 2) kSpan_greatestOf [.ref a, .int (nI (beg k)), .int (nI (dep k))] h post := by
  obtain ⟨s1, s2, s3, s4⟩ := sp_le k hk h1
  have loop : ∀ i, i ≤ siz k → 1 ≤ i → ab_W (ab_st (mT kSpan_greatestOf) mB mF (mR kSpan_greatestOf) none) (mCC (d + 1)) post (17, [.ref a, .int (nI (beg k)), .int (nI (dep k)), .int (nI (beg k + siz k)), .int (mxF f (beg k) i), .int (nI (beg k + i))], [], (0, 0), h) := by
    refine down (siz k) ?_ ?_
    · intro h2
      refine ab_W.go (mm _) 2 (c' := (20, [.ref a, .int (nI (beg k)), .int (nI (dep k)), .int (nI (beg k + siz k)), .int (mxF f (beg k) (siz k)), .int (nI (beg k + siz k))], [.int (nI (beg k + siz k)), .int (nI (beg k + siz k))], (0, 0), h)) rfl ?_
      refine ab_W.itT (mm _) (p := (nI (beg k + siz k)) ≤ (nI (beg k + siz k))) (c1 := (40, [.ref a, .int (nI (beg k)), .int (nI (dep k)), .int (nI (beg k + siz k)), .int (mxF f (beg k) (siz k)), .int (nI (beg k + siz k))], [], (0, 0), h)) (c2 := (23, [.ref a, .int (nI (beg k)), .int (nI (dep k)), .int (nI (beg k + siz k)), .int (mxF f (beg k) (siz k)), .int (nI (beg k + siz k))], [], (0, 0), h)) rfl ((nI_leI (by omega) (by omega)).mpr (Nat.le_refl _)) ?_
      refine ab_W.go (mm _) 1 (c' := (42, [.ref a, .int (nI (beg k)), .int (nI (dep k)), .int (nI (beg k + siz k)), .int (mxF f (beg k) (siz k)), .int (nI (beg k + siz k))], [.int (mxF f (beg k) (siz k))], (0, 0), h)) rfl ?_
      refine ab_W.retI (mm _) (rt := some .int) (v := mxF f (beg k) (siz k)) rfl rfl ?_
      exact hp
    · intro i hi ih h2
      refine ab_W.go (mm _) 2 (c' := (20, [.ref a, .int (nI (beg k)), .int (nI (dep k)), .int (nI (beg k + siz k)), .int (mxF f (beg k) i), .int (nI (beg k + i))], [.int (nI (beg k + siz k)), .int (nI (beg k + i))], (0, 0), h)) rfl ?_
      refine ab_W.itF (mm _) (p := (nI (beg k + siz k)) ≤ (nI (beg k + i))) (c1 := (40, [.ref a, .int (nI (beg k)), .int (nI (dep k)), .int (nI (beg k + siz k)), .int (mxF f (beg k) i), .int (nI (beg k + i))], [], (0, 0), h)) (c2 := (23, [.ref a, .int (nI (beg k)), .int (nI (dep k)), .int (nI (beg k + siz k)), .int (mxF f (beg k) i), .int (nI (beg k + i))], [], (0, 0), h)) rfl (fun z => absurd ((nI_leI (by omega) (by omega)).mp z) (by omega)) ?_
      refine ab_W.go (mm _) 3 (c' := (28, [.ref a, .int (nI (beg k)), .int (nI (dep k)), .int (nI (beg k + siz k)), .int (mxF f (beg k) i), .int (nI (beg k + i))], [.int (nI (beg k + i)), .ref a, .int (mxF f (beg k) i)], (0, 0), h)) rfl ?_
      refine ab_W.iald (mm _) (j := (beg k + i)) (ha) rfl (by omega) rfl rfl ?_
      show ab_W _ _ _ (29, [.ref a, .int (nI (beg k)), .int (nI (dep k)), .int (nI (beg k + siz k)), .int (mxF f (beg k) i), .int (nI (beg k + i))], [.int (f (beg k + i)), .int (mxF f (beg k) i)], (0, 0), h)
      refine ab_W.go (mm _) 3 (c' := (37, [.ref a, .int (nI (beg k)), .int (nI (dep k)), .int (nI (beg k + siz k)), .int (if (mxF f (beg k) i) < (f (beg k + i)) then (f (beg k + i)) else (mxF f (beg k) i)), .int (nI (beg k + i) + nI 1)], [], (0, 0), h)) rfl ?_
      rw [nI_add (beg k + i) 1]
      refine ab_W.go (mm _) 1 (c' := (17, [.ref a, .int (nI (beg k)), .int (nI (dep k)), .int (nI (beg k + siz k)), .int (if (mxF f (beg k) i) < (f (beg k + i)) then (f (beg k + i)) else (mxF f (beg k) i)), .int (nI ((beg k + i) + 1))], [], (0, 0), h)) rfl ?_
      exact ih (by omega)
  refine ⟨rfl, ?_⟩
  show ab_W _ _ _ (0, [.ref a, .int (nI (beg k)), .int (nI (dep k)), .retAddr 0, .retAddr 0, .retAddr 0], [], (0, 0), h)
  refine ab_W.go (mm _) 2 (c' := (2, [.ref a, .int (nI (beg k)), .int (nI (dep k)), .retAddr 0, .retAddr 0, .retAddr 0], [.int (nI (dep k)), .int (nI (beg k))], (0, 0), h)) rfl ?_
  refine ab_W.call (mm _) (k := 22) (av := [.int (nI (dep k))]) (c' := (5, [.ref a, .int (nI (beg k)), .int (nI (dep k)), .retAddr 0, .retAddr 0, .retAddr 0], [.int (nI (beg k))], (0, 0), h)) rfl ?_
  refine sp_sizeOf _ s1 ?_
  show ab_W _ _ _ (5, [.ref a, .int (nI (beg k)), .int (nI (dep k)), .retAddr 0, .retAddr 0, .retAddr 0], [.int (nI (siz k)), .int (nI (beg k))], (0, 0), h)
  refine ab_W.go (mm _) 1 (c' := (6, [.ref a, .int (nI (beg k)), .int (nI (dep k)), .retAddr 0, .retAddr 0, .retAddr 0], [.int ((nI (beg k)) + (nI (siz k)))], (0, 0), h)) rfl ?_
  refine ab_W.topi (nI_add (beg k) (siz k)) ?_
  refine ab_W.go (mm _) 3 (c' := (9, [.ref a, .int (nI (beg k)), .int (nI (dep k)), .int (nI ((beg k) + (siz k))), .retAddr 0, .retAddr 0], [.int (nI (beg k)), .ref a], (0, 0), h)) rfl ?_
  refine ab_W.iald (mm _) (j := (beg k)) (ha) rfl (by omega) rfl rfl ?_
  show ab_W _ _ _ (10, [.ref a, .int (nI (beg k)), .int (nI (dep k)), .int (nI ((beg k) + (siz k))), .retAddr 0, .retAddr 0], [.int (f (beg k))], (0, 0), h)
  refine ab_W.go (mm _) 4 (c' := (15, [.ref a, .int (nI (beg k)), .int (nI (dep k)), .int (nI ((beg k) + (siz k))), .int (f (beg k)), .retAddr 0], [.int ((nI (beg k)) + (nI 1))], (0, 0), h)) rfl ?_
  refine ab_W.topi (nI_add (beg k) 1) ?_
  refine ab_W.go (mm _) 1 (c' := (17, [.ref a, .int (nI (beg k)), .int (nI (dep k)), .int (nI ((beg k) + (siz k))), .int (f (beg k)), .int (nI ((beg k) + 1))], [], (0, 0), h)) rfl ?_
  have := loop 1 (by omega) (by omega)
  rw [mxF_1] at this
  exact this
theorem sp_leastOf (d : Nat) {h : ab_H} {a k : Nat} {f : Nat → Int32} (ha : h[a]? = some (.inl (0, 64, .inl f))) (h1 : 1 ≤ k) (hk : k < 128) {post : ab_P} (hp : post (some (.int (mn f k))) h) : mCC (d + 2) kSpan_leastOf [.ref a, .int (nI (beg k)), .int (nI (dep k))] h post := by
  obtain ⟨s1, s2, s3, s4⟩ := sp_le k hk h1
  have loop : ∀ i, i ≤ siz k → 1 ≤ i → ab_W (ab_st (mT kSpan_leastOf) mB mF (mR kSpan_leastOf) none) (mCC (d + 1)) post (17, [.ref a, .int (nI (beg k)), .int (nI (dep k)), .int (nI (beg k + siz k)), .int (mnF f (beg k) i), .int (nI (beg k + i))], [], (0, 0), h) := by
    refine down (siz k) ?_ ?_
    · intro h2
      refine ab_W.go (mm _) 2 (c' := (20, [.ref a, .int (nI (beg k)), .int (nI (dep k)), .int (nI (beg k + siz k)), .int (mnF f (beg k) (siz k)), .int (nI (beg k + siz k))], [.int (nI (beg k + siz k)), .int (nI (beg k + siz k))], (0, 0), h)) rfl ?_
      refine ab_W.itT (mm _) (p := (nI (beg k + siz k)) ≤ (nI (beg k + siz k))) (c1 := (40, [.ref a, .int (nI (beg k)), .int (nI (dep k)), .int (nI (beg k + siz k)), .int (mnF f (beg k) (siz k)), .int (nI (beg k + siz k))], [], (0, 0), h)) (c2 := (23, [.ref a, .int (nI (beg k)), .int (nI (dep k)), .int (nI (beg k + siz k)), .int (mnF f (beg k) (siz k)), .int (nI (beg k + siz k))], [], (0, 0), h)) rfl ((nI_leI (by omega) (by omega)).mpr (Nat.le_refl _)) ?_
      refine ab_W.go (mm _) 1 (c' := (42, [.ref a, .int (nI (beg k)), .int (nI (dep k)), .int (nI (beg k + siz k)), .int (mnF f (beg k) (siz k)), .int (nI (beg k + siz k))], [.int (mnF f (beg k) (siz k))], (0, 0), h)) rfl ?_
      refine ab_W.retI (mm _) (rt := some .int) (v := mnF f (beg k) (siz k)) rfl rfl ?_
      exact hp
    · intro i hi ih h2
      refine ab_W.go (mm _) 2 (c' := (20, [.ref a, .int (nI (beg k)), .int (nI (dep k)), .int (nI (beg k + siz k)), .int (mnF f (beg k) i), .int (nI (beg k + i))], [.int (nI (beg k + siz k)), .int (nI (beg k + i))], (0, 0), h)) rfl ?_
      refine ab_W.itF (mm _) (p := (nI (beg k + siz k)) ≤ (nI (beg k + i))) (c1 := (40, [.ref a, .int (nI (beg k)), .int (nI (dep k)), .int (nI (beg k + siz k)), .int (mnF f (beg k) i), .int (nI (beg k + i))], [], (0, 0), h)) (c2 := (23, [.ref a, .int (nI (beg k)), .int (nI (dep k)), .int (nI (beg k + siz k)), .int (mnF f (beg k) i), .int (nI (beg k + i))], [], (0, 0), h)) rfl (fun z => absurd ((nI_leI (by omega) (by omega)).mp z) (by omega)) ?_
      refine ab_W.go (mm _) 3 (c' := (28, [.ref a, .int (nI (beg k)), .int (nI (dep k)), .int (nI (beg k + siz k)), .int (mnF f (beg k) i), .int (nI (beg k + i))], [.int (nI (beg k + i)), .ref a, .int (mnF f (beg k) i)], (0, 0), h)) rfl ?_
      refine ab_W.iald (mm _) (j := (beg k + i)) (ha) rfl (by omega) rfl rfl ?_
      show ab_W _ _ _ (29, [.ref a, .int (nI (beg k)), .int (nI (dep k)), .int (nI (beg k + siz k)), .int (mnF f (beg k) i), .int (nI (beg k + i))], [.int (f (beg k + i)), .int (mnF f (beg k) i)], (0, 0), h)
      refine ab_W.go (mm _) 3 (c' := (37, [.ref a, .int (nI (beg k)), .int (nI (dep k)), .int (nI (beg k + siz k)), .int (if (f (beg k + i)) < (mnF f (beg k) i) then (f (beg k + i)) else (mnF f (beg k) i)), .int (nI (beg k + i) + nI 1)], [], (0, 0), h)) rfl ?_
      rw [nI_add (beg k + i) 1]
      refine ab_W.go (mm _) 1 (c' := (17, [.ref a, .int (nI (beg k)), .int (nI (dep k)), .int (nI (beg k + siz k)), .int (if (f (beg k + i)) < (mnF f (beg k) i) then (f (beg k + i)) else (mnF f (beg k) i)), .int (nI ((beg k + i) + 1))], [], (0, 0), h)) rfl ?_
      exact ih (by omega)
  refine ⟨rfl, ?_⟩
  show ab_W _ _ _ (0, [.ref a, .int (nI (beg k)), .int (nI (dep k)), .retAddr 0, .retAddr 0, .retAddr 0], [], (0, 0), h)
  refine ab_W.go (mm _) 2 (c' := (2, [.ref a, .int (nI (beg k)), .int (nI (dep k)), .retAddr 0, .retAddr 0, .retAddr 0], [.int (nI (dep k)), .int (nI (beg k))], (0, 0), h)) rfl ?_
  refine ab_W.call (mm _) (k := 22) (av := [.int (nI (dep k))]) (c' := (5, [.ref a, .int (nI (beg k)), .int (nI (dep k)), .retAddr 0, .retAddr 0, .retAddr 0], [.int (nI (beg k))], (0, 0), h)) rfl ?_
  refine sp_sizeOf _ s1 ?_
  show ab_W _ _ _ (5, [.ref a, .int (nI (beg k)), .int (nI (dep k)), .retAddr 0, .retAddr 0, .retAddr 0], [.int (nI (siz k)), .int (nI (beg k))], (0, 0), h)
  refine ab_W.go (mm _) 1 (c' := (6, [.ref a, .int (nI (beg k)), .int (nI (dep k)), .retAddr 0, .retAddr 0, .retAddr 0], [.int ((nI (beg k)) + (nI (siz k)))], (0, 0), h)) rfl ?_
  refine ab_W.topi (nI_add (beg k) (siz k)) ?_
  refine ab_W.go (mm _) 3 (c' := (9, [.ref a, .int (nI (beg k)), .int (nI (dep k)), .int (nI ((beg k) + (siz k))), .retAddr 0, .retAddr 0], [.int (nI (beg k)), .ref a], (0, 0), h)) rfl ?_
  refine ab_W.iald (mm _) (j := (beg k)) (ha) rfl (by omega) rfl rfl ?_
  show ab_W _ _ _ (10, [.ref a, .int (nI (beg k)), .int (nI (dep k)), .int (nI ((beg k) + (siz k))), .retAddr 0, .retAddr 0], [.int (f (beg k))], (0, 0), h)
  refine ab_W.go (mm _) 4 (c' := (15, [.ref a, .int (nI (beg k)), .int (nI (dep k)), .int (nI ((beg k) + (siz k))), .int (f (beg k)), .retAddr 0], [.int ((nI (beg k)) + (nI 1))], (0, 0), h)) rfl ?_
  refine ab_W.topi (nI_add (beg k) 1) ?_
  refine ab_W.go (mm _) 1 (c' := (17, [.ref a, .int (nI (beg k)), .int (nI (dep k)), .int (nI ((beg k) + (siz k))), .int (f (beg k)), .int (nI ((beg k) + 1))], [], (0, 0), h)) rfl ?_
  have := loop 1 (by omega) (by omega)
  rw [mnF_1] at this
  exact this
theorem sp_level (d : Nat) {h : ab_H} {a k : Nat} {f : Nat → Int32} {v : Int32} (ha : a < h.length) (h1 : 1 ≤ k) (hk : k < 128) {post : ab_P} (hp : post none (hA h a (lev f k v))) : mCC (d + 2) kSpan_level [.ref a, .int (nI (beg k)), .int (nI (dep k)), .int v] (hA h a f) post := by
  obtain ⟨s1, s2, s3, s4⟩ := sp_le k hk h1
  have loop : ∀ c, c ≤ beg k + siz k → beg k ≤ c → ab_W (ab_st (mT kSpan_level) mB mF (mR kSpan_level) none) (mCC (d + 1)) post (11, [.ref a, .int (nI (beg k)), .int (nI (dep k)), .int v, .int (nI (beg k + siz k)), .int (nI c)], [], (0, 0), hA h a (lvF f (beg k) c v)) := by
    refine down (beg k + siz k) ?_ ?_
    · intro h2
      refine ab_W.go (mm _) 2 (c' := (15, [.ref a, .int (nI (beg k)), .int (nI (dep k)), .int v, .int (nI (beg k + siz k)), .int (nI (beg k + siz k))], [.int (nI (beg k + siz k)), .int (nI (beg k + siz k))], (0, 0), hA h a (lvF f (beg k) (beg k + siz k) v))) rfl ?_
      refine ab_W.itT (mm _) (p := (nI (beg k + siz k)) ≤ (nI (beg k + siz k))) (c1 := (29, [.ref a, .int (nI (beg k)), .int (nI (dep k)), .int v, .int (nI (beg k + siz k)), .int (nI (beg k + siz k))], [], (0, 0), hA h a (lvF f (beg k) (beg k + siz k) v))) (c2 := (18, [.ref a, .int (nI (beg k)), .int (nI (dep k)), .int v, .int (nI (beg k + siz k)), .int (nI (beg k + siz k))], [], (0, 0), hA h a (lvF f (beg k) (beg k + siz k) v))) rfl ((nI_leI (by omega) (by omega)).mpr (Nat.le_refl _)) ?_
      refine ab_W.ret (mm _) (v := none) rfl ?_
      exact hp
    · intro c hc ih h2
      refine ab_W.go (mm _) 2 (c' := (15, [.ref a, .int (nI (beg k)), .int (nI (dep k)), .int v, .int (nI (beg k + siz k)), .int (nI c)], [.int (nI (beg k + siz k)), .int (nI c)], (0, 0), hA h a (lvF f (beg k) c v))) rfl ?_
      refine ab_W.itF (mm _) (p := (nI (beg k + siz k)) ≤ (nI c)) (c1 := (29, [.ref a, .int (nI (beg k)), .int (nI (dep k)), .int v, .int (nI (beg k + siz k)), .int (nI c)], [], (0, 0), hA h a (lvF f (beg k) c v))) (c2 := (18, [.ref a, .int (nI (beg k)), .int (nI (dep k)), .int v, .int (nI (beg k + siz k)), .int (nI c)], [], (0, 0), hA h a (lvF f (beg k) c v))) rfl (fun z => absurd ((nI_leI (by omega) (by omega)).mp z) (by omega)) ?_
      refine ab_W.go (mm _) 3 (c' := (22, [.ref a, .int (nI (beg k)), .int (nI (dep k)), .int v, .int (nI (beg k + siz k)), .int (nI c)], [.int v, .int (nI c), .ref a], (0, 0), hA h a (lvF f (beg k) c v))) rfl ?_
      refine ab_W.iast (mm _) (j := c) (hA_at ha) rfl (by omega) rfl rfl ?_
      refine ab_W.hp (hA_hA.trans (congrArg (hA h a) (lvF_s f v h2))) ?_
      show ab_W _ _ _ (23, [.ref a, .int (nI (beg k)), .int (nI (dep k)), .int v, .int (nI (beg k + siz k)), .int (nI c)], [], (0, 0), hA h a (lvF f (beg k) (c + 1) v))
      refine ab_W.go (mm _) 1 (c' := (26, [.ref a, .int (nI (beg k)), .int (nI (dep k)), .int v, .int (nI (beg k + siz k)), .int (nI c + nI 1)], [], (0, 0), hA h a (lvF f (beg k) (c + 1) v))) rfl ?_
      rw [nI_add c 1]
      refine ab_W.go (mm _) 1 (c' := (11, [.ref a, .int (nI (beg k)), .int (nI (dep k)), .int v, .int (nI (beg k + siz k)), .int (nI (c + 1))], [], (0, 0), hA h a (lvF f (beg k) (c + 1) v))) rfl ?_
      exact ih (by omega)
  refine ⟨rfl, ?_⟩
  show ab_W _ _ _ (0, [.ref a, .int (nI (beg k)), .int (nI (dep k)), .int v, .retAddr 0, .retAddr 0], [], (0, 0), hA h a f)
  refine ab_W.go (mm _) 2 (c' := (2, [.ref a, .int (nI (beg k)), .int (nI (dep k)), .int v, .retAddr 0, .retAddr 0], [.int (nI (dep k)), .int (nI (beg k))], (0, 0), hA h a f)) rfl ?_
  refine ab_W.call (mm _) (k := 22) (av := [.int (nI (dep k))]) (c' := (5, [.ref a, .int (nI (beg k)), .int (nI (dep k)), .int v, .retAddr 0, .retAddr 0], [.int (nI (beg k))], (0, 0), hA h a f)) rfl ?_
  refine sp_sizeOf _ s1 ?_
  show ab_W _ _ _ (5, [.ref a, .int (nI (beg k)), .int (nI (dep k)), .int v, .retAddr 0, .retAddr 0], [.int (nI (siz k)), .int (nI (beg k))], (0, 0), hA h a f)
  refine ab_W.go (mm _) 1 (c' := (6, [.ref a, .int (nI (beg k)), .int (nI (dep k)), .int v, .retAddr 0, .retAddr 0], [.int ((nI (beg k)) + (nI (siz k)))], (0, 0), hA h a f)) rfl ?_
  refine ab_W.topi (nI_add (beg k) (siz k)) ?_
  refine ab_W.go (mm _) 3 (c' := (11, [.ref a, .int (nI (beg k)), .int (nI (dep k)), .int v, .int (nI ((beg k) + (siz k))), .int (nI (beg k))], [], (0, 0), hA h a f)) rfl ?_
  have := loop (beg k) (by omega) (by omega)
  rw [lvF_0] at this
  exact this
