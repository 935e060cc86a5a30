/-! pieces of a name; the class's rows on them -/
noncomputable def alD (f : Nat → Int32) (c δ : Nat) : Nat → Nat
  | 0 => δ
  | n + 1 => ci (alk f (anc c (δ - (n + 1)))) (δ - (n + 1)) (alD f c δ n)
theorem alD_le (f : Nat → Int32) (c δ : Nat) : ∀ n, alD f c δ n ≤ δ := by
  intro n
  induction n with
  | zero => exact Nat.le_refl _
  | succ n ih =>
    by_cases h : alk f (anc c (δ - (n + 1)))
    · rw [show alD f c δ (n + 1) = _ from ci_t h]; omega
    · rw [show alD f c δ (n + 1) = _ from ci_f h]; exact ih
noncomputable def wid (f : Nat → Int32) (k : Nat) : Nat := alD f (beg k) (dep k) (dep k)
noncomputable def cst (f : Nat → Int32) (k : Nat) : Nat := dep k + 1000 * (dep k - wid f k)
theorem wid_le (f : Nat → Int32) (k : Nat) : wid f k ≤ dep k := alD_le f _ _ _
theorem sp_alikeDepth (d : Nat) {h : ab_H} {a k : Nat} {f : Nat → Int32} (ha : h[a]? = some (.inl (0, 64, .inl f))) (h1 : 1 ≤ k) (hk : k < 128) {post : ab_P} (hp : post (some (.int (nI (wid f k)))) h) : mCC (d + 3) kSpan_alikeDepth [.ref a, .int (nI (beg k)), .int (nI (dep k))] h post := by
  obtain ⟨s1, s2, s3, s4⟩ := sp_le k hk h1
  have loop : ∀ i, i ≤ dep k → post (some (.int (nI (alD f (beg k) (dep k) (dep k - i))))) h → ab_W (ab_st (mT kSpan_alikeDepth) mB mF (mR kSpan_alikeDepth) none) (mCC (d + 2)) post (2, [.ref a, .int (nI (beg k)), .int (nI (dep k)), .int (nI i)], [], (0, 0), h) := by
    refine down (dep k) ?_ ?_
    · intro hp
      rw [Nat.sub_self] at hp
      refine ab_W.go (mm _) 2 (c' := (4, [.ref a, .int (nI (beg k)), .int (nI (dep k)), .int (nI (dep k))], [.int (nI (dep k)), .int (nI (dep k))], (0, 0), h)) rfl ?_
      refine ab_W.itT (mm _) (p := (nI (dep k)) ≤ (nI (dep k))) (c1 := (28, [.ref a, .int (nI (beg k)), .int (nI (dep k)), .int (nI (dep k))], [], (0, 0), h)) (c2 := (7, [.ref a, .int (nI (beg k)), .int (nI (dep k)), .int (nI (dep k))], [], (0, 0), h)) rfl ((nI_leI (by omega) (by omega)).mpr (Nat.le_refl _)) ?_
      refine ab_W.go (mm _) 1 (c' := (29, [.ref a, .int (nI (beg k)), .int (nI (dep k)), .int (nI (dep k))], [.int (nI (dep k))], (0, 0), h)) rfl ?_
      refine ab_W.retI (mm _) (rt := some .int) (v := nI (dep k)) rfl rfl ?_
      exact hp
    · intro i hi ih hp
      refine ab_W.go (mm _) 2 (c' := (4, [.ref a, .int (nI (beg k)), .int (nI (dep k)), .int (nI i)], [.int (nI (dep k)), .int (nI i)], (0, 0), h)) rfl ?_
      refine ab_W.itF (mm _) (p := (nI (dep k)) ≤ (nI i)) (c1 := (28, [.ref a, .int (nI (beg k)), .int (nI (dep k)), .int (nI i)], [], (0, 0), h)) (c2 := (7, [.ref a, .int (nI (beg k)), .int (nI (dep k)), .int (nI i)], [], (0, 0), h)) rfl (fun z => absurd ((nI_leI (by omega) (by omega)).mp z) (by omega)) ?_
      refine ab_W.go (mm _) 3 (c' := (10, [.ref a, .int (nI (beg k)), .int (nI (dep k)), .int (nI i)], [.int (nI i), .int (nI (beg k)), .ref a], (0, 0), h)) rfl ?_
      obtain ⟨a1, a2, a3, a4, a5⟩ := anc_ok i (by omega) (beg k) s4
      refine ab_W.call (mm _) (k := 25) (av := [.int (nI (beg k)), .int (nI i)]) (c' := (13, [.ref a, .int (nI (beg k)), .int (nI (dep k)), .int (nI i)], [.ref a], (0, 0), h)) rfl ?_
      refine sp_firstAround _ s4 (by omega) ?_
      show ab_W _ _ _ (13, [.ref a, .int (nI (beg k)), .int (nI (dep k)), .int (nI i)], [.int (nI (beg (anc (beg k) i))), .ref a], (0, 0), h)
      refine ab_W.go (mm _) 1 (c' := (14, [.ref a, .int (nI (beg k)), .int (nI (dep k)), .int (nI i)], [.int (nI i), .int (nI (beg (anc (beg k) i))), .ref a], (0, 0), h)) rfl ?_
      refine ab_W.call (mm _) (k := 32) (av := [.ref a, .int (nI (beg (anc (beg k) i))), .int (nI i)]) (c' := (17, [.ref a, .int (nI (beg k)), .int (nI (dep k)), .int (nI i)], [], (0, 0), h)) rfl ?_
      have ei : nI i = nI (dep (anc (beg k) i)) := by rw [a3]
      rw [show dep k - i = (dep k - (i + 1)) + 1 by omega] at hp
      have hi2 : dep k - ((dep k - (i + 1)) + 1) = i := by omega
      have key : mCC (d + 2) kSpan_isAlike [.ref a, .int (nI (beg (anc (beg k) i))), .int (nI (dep (anc (beg k) i)))] h (fun v h' => ab_W (ab_st (mT kSpan_alikeDepth) mB mF (mR kSpan_alikeDepth) none) (mCC (d + 2)) post (17, [.ref a, .int (nI (beg k)), .int (nI (dep k)), .int (nI i)], v.toList ++ [], (0, 0), h')) := by
        refine sp_isAlike d ha a1 a2 (fun v hv => ?_)
        rcases hv with ⟨q2, rfl⟩ | ⟨q2, rfl⟩
        · rw [show alD f (beg k) (dep k) ((dep k - (i + 1)) + 1) = i from (ci_t (by rw [hi2]; exact q2)).trans hi2] at hp
          show ab_W _ _ _ (17, [.ref a, .int (nI (beg k)), .int (nI (dep k)), .int (nI i)], [.int (nI 1)], (0, 0), h)
          refine ab_W.itF (mm _) (p := (nI 1) = 0) (c1 := (22, [.ref a, .int (nI (beg k)), .int (nI (dep k)), .int (nI i)], [], (0, 0), h)) (c2 := (20, [.ref a, .int (nI (beg k)), .int (nI (dep k)), .int (nI i)], [], (0, 0), h)) rfl (nI_ne01) ?_
          refine ab_W.go (mm _) 1 (c' := (21, [.ref a, .int (nI (beg k)), .int (nI (dep k)), .int (nI i)], [.int (nI i)], (0, 0), h)) rfl ?_
          refine ab_W.retI (mm _) (rt := some .int) (v := nI i) rfl rfl ?_
          exact hp
        · rw [show alD f (beg k) (dep k) ((dep k - (i + 1)) + 1) = alD f (beg k) (dep k) (dep k - (i + 1)) from ci_f (by rw [hi2]; exact q2)] at hp
          show ab_W _ _ _ (17, [.ref a, .int (nI (beg k)), .int (nI (dep k)), .int (nI i)], [.int (nI 0)], (0, 0), h)
          refine ab_W.itT (mm _) (p := (nI 0) = 0) (c1 := (22, [.ref a, .int (nI (beg k)), .int (nI (dep k)), .int (nI i)], [], (0, 0), h)) (c2 := (20, [.ref a, .int (nI (beg k)), .int (nI (dep k)), .int (nI i)], [], (0, 0), h)) rfl (nI_0) ?_
          refine ab_W.go (mm _) 1 (c' := (25, [.ref a, .int (nI (beg k)), .int (nI (dep k)), .int (nI i + nI 1)], [], (0, 0), h)) rfl ?_
          rw [nI_add i 1]
          refine ab_W.go (mm _) 1 (c' := (2, [.ref a, .int (nI (beg k)), .int (nI (dep k)), .int (nI (i + 1))], [], (0, 0), h)) rfl ?_
          exact ih hp
      rw [← ei] at key
      exact key
  refine ⟨rfl, ?_⟩
  show ab_W _ _ _ (0, [.ref a, .int (nI (beg k)), .int (nI (dep k)), .retAddr 0], [], (0, 0), h)
  refine ab_W.go (mm _) 2 (c' := (2, [.ref a, .int (nI (beg k)), .int (nI (dep k)), .int (nI 0)], [], (0, 0), h)) rfl ?_
  exact loop 0 (Nat.zero_le _) hp
def isP (N : Int64) (k : Nat) : Prop := lies N k ∧ (k = 1 ∨ ¬ lies N (k / 2))
theorem anc_sub : ∀ i, i ≤ 6 → ∀ j, j ≤ i → ∀ c, c < 64 → beg (anc c j) ≤ beg (anc c i) ∧ beg (anc c i) + siz (anc c i) ≤ beg (anc c j) + siz (anc c j) := by decide +kernel
theorem anc_0 : ∀ c, c < 64 → anc c 0 = 1 := by decide +kernel
theorem lies_anc {N : Int64} {c i j : Nat} (hc : c < 64) (hi : i ≤ 6) (hj : j ≤ i) (h : lies N (anc c j)) : lies N (anc c i) := by
  obtain ⟨a1, a2, a3, a4, a5⟩ := anc_ok i hi c hc
  obtain ⟨b1, b2, b3, b4, b5⟩ := anc_ok j (by omega) c hc
  obtain ⟨c1, c2⟩ := anc_sub i hi j hj c hc
  rw [lies_iff a1 a2]
  rw [lies_iff b1 b2] at h
  intro x hx
  exact h x ⟨by have := hx.1; omega, by have := hx.2; omega⟩
theorem isP_top {N : Int64} {k i : Nat} (h1 : 1 ≤ k) (hk : k < 128) (hp : isP N k) (hi : i < dep k) {c : Nat} (hc : c < 64) (hin : inK k c) : ¬ lies N (anc c i) := by
  obtain ⟨s1, s2, s3, s4⟩ := sp_le k hk h1
  intro hl
  have e := anc_of k hk h1 c hc hin.1 hin.2
  rcases hp.2 with q | q
  · have := (sp_dep0 k hk h1).mpr q
    omega
  · apply q
    have h2 := lies_anc hc (show dep k - 1 ≤ 6 by omega) (show i ≤ dep k - 1 by omega) hl
    have h3 := (anc_up c hc (dep k - 1) (by omega)).1
    rw [show dep k - 1 + 1 = dep k by omega, e] at h3
    rw [h3]
    exact h2
theorem isP_anc {N : Int64} {c i : Nat} (hc : c < 64) (hi : i ≤ 6) (hl : lies N (anc c i)) (hno : ∀ j, j < i → ¬ lies N (anc c j)) : isP N (anc c i) := by
  refine ⟨hl, ?_⟩
  rcases Nat.eq_zero_or_pos i with q | q
  · subst q
    exact Or.inl (anc_0 c hc)
  · right
    have h3 := (anc_up c hc (i - 1) (by omega)).1
    rw [show i - 1 + 1 = i by omega] at h3
    rw [h3]
    exact hno (i - 1) (by omega)
theorem inK_beg {k : Nat} (h1 : 1 ≤ k) (hk : k < 128) : inK k (beg k) := ⟨Nat.le_refl _, by have := sp_le k hk h1; omega⟩
/-- a cell has at most one piece around it -/
theorem isP_one {N : Int64} {k l c : Nat} (h1 : 1 ≤ k) (hk : k < 128) (g1 : 1 ≤ l) (gk : l < 128) (hp : isP N k) (gp : isP N l) (hc : inK k c) (gc : inK l c) : k = l := by
  have hc64 := inK_lt h1 hk hc
  have e := anc_of k hk h1 c hc64 hc.1 hc.2
  have e2 := anc_of l gk g1 c hc64 gc.1 gc.2
  rcases Nat.lt_trichotomy (dep k) (dep l) with q | q | q
  · exact absurd (by rw [e]; exact hp.1) (isP_top g1 gk gp q hc64 gc)
  · rw [← e, ← e2, q]
  · exact absurd (by rw [e2]; exact gp.1) (isP_top h1 hk hp q hc64 hc)
def pcAt (N : Int64) (c k : Nat) : Prop := 1 ≤ k ∧ k < 128 ∧ isP N k ∧ beg k = c
theorem sp_pieceDepth (d : Nat) {h : ab_H} {N : Int64} {c : Nat} (hc : c < 64) {post : ab_P} (hp : ∀ v : Int32, (∃ k, pcAt N c k ∧ v = nI (dep k)) ∨ ((¬ ∃ k, pcAt N c k) ∧ v = -(nI 6)) → post (some (.int v)) h) : mCC (d + 4) kSpan_pieceDepth [.long N, .int (nI c)] h post := by
  have loop : ∀ i, i ≤ 7 → (∀ j, j < i → ¬ lies N (anc c j)) → ∀ v4 : Value, ab_W (ab_st (mT kSpan_pieceDepth) mB mF (mR kSpan_pieceDepth) none) (mCC (d + 3)) post (2, [.long N, .retAddr 0, .int (nI c), .int (nI i), v4], [], (0, 0), h) := by
    refine down 7 ?_ ?_
    · intro hno v4
      refine ab_W.go (mm _) 2 (c' := (5, [.long N, .retAddr 0, .int (nI c), .int (nI 7), v4], [.int (nI 6), .int (nI 7)], (0, 0), h)) rfl ?_
      refine ab_W.itT (mm _) (p := (nI 6) < (nI 7)) (c1 := (44, [.long N, .retAddr 0, .int (nI c), .int (nI 7), v4], [], (0, 0), h)) (c2 := (8, [.long N, .retAddr 0, .int (nI c), .int (nI 7), v4], [], (0, 0), h)) rfl ((by decide)) ?_
      refine ab_W.go (mm _) 1 (c' := (46, [.long N, .retAddr 0, .int (nI c), .int (nI 7), v4], [.int (-(nI 6))], (0, 0), h)) rfl ?_
      refine ab_W.retI (mm _) (rt := some .int) (v := -(nI 6)) rfl rfl ?_
      refine hp _ (Or.inr ⟨?_, rfl⟩)
      rintro ⟨k, k1, k2, k3, k4⟩
      have e := anc_of k k2 k1 c hc (by omega) (by have := sp_le k k2 k1; omega)
      refine hno (dep k) (by have := (sp_le k k2 k1).1; omega) ?_
      rw [e]
      exact k3.1
    · intro i hi ih hno v4
      obtain ⟨a1, a2, a3, a4, a5⟩ := anc_ok i (by omega) c hc
      refine ab_W.go (mm _) 2 (c' := (5, [.long N, .retAddr 0, .int (nI c), .int (nI i), v4], [.int (nI 6), .int (nI i)], (0, 0), h)) rfl ?_
      refine ab_W.itF (mm _) (p := (nI 6) < (nI i)) (c1 := (44, [.long N, .retAddr 0, .int (nI c), .int (nI i), v4], [], (0, 0), h)) (c2 := (8, [.long N, .retAddr 0, .int (nI c), .int (nI i), v4], [], (0, 0), h)) rfl (fun z => absurd ((nI_ltI (by omega) (by omega)).mp z) (by omega)) ?_
      refine ab_W.go (mm _) 2 (c' := (10, [.long N, .retAddr 0, .int (nI c), .int (nI i), v4], [.int (nI i), .int (nI c)], (0, 0), h)) rfl ?_
      refine ab_W.call (mm _) (k := 25) (av := [.int (nI c), .int (nI i)]) (c' := (13, [.long N, .retAddr 0, .int (nI c), .int (nI i), v4], [], (0, 0), h)) rfl ?_
      refine sp_firstAround _ hc (by omega) ?_
      show ab_W _ _ _ (13, [.long N, .retAddr 0, .int (nI c), .int (nI i), v4], [.int (nI (beg (anc c i)))], (0, 0), h)
      refine ab_W.go (mm _) 4 (c' := (19, [.long N, .retAddr 0, .int (nI c), .int (nI i), .int (nI (beg (anc c i)))], [.int (nI i), .int (nI (beg (anc c i))), .long N], (0, 0), h)) rfl ?_
      refine ab_W.call (mm _) (k := 26) (av := [.long N, .int (nI (beg (anc c i))), .int (nI i)]) (c' := (22, [.long N, .retAddr 0, .int (nI c), .int (nI i), .int (nI (beg (anc c i)))], [], (0, 0), h)) rfl ?_
      have ei : nI i = nI (dep (anc c i)) := by rw [a3]
      have key : mCC (d + 3) kSpan_liesIn [.long N, .int (nI (beg (anc c i))), .int (nI (dep (anc c i)))] h (fun v h' => ab_W (ab_st (mT kSpan_pieceDepth) mB mF (mR kSpan_pieceDepth) none) (mCC (d + 3)) post (22, [.long N, .retAddr 0, .int (nI c), .int (nI i), .int (nI (beg (anc c i)))], v.toList ++ [], (0, 0), h')) := by
        refine sp_liesIn d a1 a2 (fun v hv => ?_)
        rcases hv with ⟨q2, rfl⟩ | ⟨q2, rfl⟩
        · skip
          show ab_W _ _ _ (22, [.long N, .retAddr 0, .int (nI c), .int (nI i), .int (nI (beg (anc c i)))], [.int (nI 1)], (0, 0), h)
          have hP := isP_anc hc (by omega) q2 hno
          refine ab_W.itF (mm _) (p := (nI 1) = 0) (c1 := (38, [.long N, .retAddr 0, .int (nI c), .int (nI i), .int (nI (beg (anc c i)))], [], (0, 0), h)) (c2 := (25, [.long N, .retAddr 0, .int (nI c), .int (nI i), .int (nI (beg (anc c i)))], [], (0, 0), h)) rfl (nI_ne01) ?_
          refine ab_W.go (mm _) 2 (c' := (28, [.long N, .retAddr 0, .int (nI c), .int (nI i), .int (nI (beg (anc c i)))], [.int (nI c), .int (nI (beg (anc c i)))], (0, 0), h)) rfl ?_
          refine ab_W.ite (mm _) (p := (nI (beg (anc c i))) = (nI c)) (c1 := (31, [.long N, .retAddr 0, .int (nI c), .int (nI i), .int (nI (beg (anc c i)))], [], (0, 0), h)) (c2 := (35, [.long N, .retAddr 0, .int (nI c), .int (nI i), .int (nI (beg (anc c i)))], [], (0, 0), h)) rfl (fun q3 => ?_) (fun q3 => ?_)
          · skip
            have q3 := (nI_eq (by omega) (by omega)).mp q3
            refine ab_W.go (mm _) 2 (c' := (37, [.long N, .retAddr 0, .int (nI c), .int (nI i), .int (nI (beg (anc c i)))], [.int (nI i)], (0, 0), h)) rfl ?_
            refine ab_W.retI (mm _) (rt := some .int) (v := nI i) rfl rfl ?_
            exact hp _ (Or.inl ⟨anc c i, ⟨a1, a2, hP, q3⟩, ei⟩)
          · skip
            have q3 : ¬ beg (anc c i) = c := fun z => q3 ((nI_eq (by omega) (by omega)).mpr z)
            refine ab_W.go (mm _) 1 (c' := (37, [.long N, .retAddr 0, .int (nI c), .int (nI i), .int (nI (beg (anc c i)))], [.int (-(nI 6))], (0, 0), h)) rfl ?_
            refine ab_W.retI (mm _) (rt := some .int) (v := -(nI 6)) rfl rfl ?_
            refine hp _ (Or.inr ⟨?_, rfl⟩)
            rintro ⟨k, k1, k2, k3, k4⟩
            have := isP_one k1 k2 a1 a2 k3 hP (c := c) (by rw [← k4]; exact inK_beg k1 k2) ⟨a4, a5⟩
            subst this
            exact q3 k4
        · skip
          show ab_W _ _ _ (22, [.long N, .retAddr 0, .int (nI c), .int (nI i), .int (nI (beg (anc c i)))], [.int (nI 0)], (0, 0), h)
          refine ab_W.itT (mm _) (p := (nI 0) = 0) (c1 := (38, [.long N, .retAddr 0, .int (nI c), .int (nI i), .int (nI (beg (anc c i)))], [], (0, 0), h)) (c2 := (25, [.long N, .retAddr 0, .int (nI c), .int (nI i), .int (nI (beg (anc c i)))], [], (0, 0), h)) rfl (nI_0) ?_
          refine ab_W.go (mm _) 1 (c' := (41, [.long N, .retAddr 0, .int (nI c), .int (nI i + nI 1), .int (nI (beg (anc c i)))], [], (0, 0), h)) rfl ?_
          rw [nI_add i 1]
          refine ab_W.go (mm _) 1 (c' := (2, [.long N, .retAddr 0, .int (nI c), .int (nI (i + 1)), .int (nI (beg (anc c i)))], [], (0, 0), h)) rfl ?_
          exact ih (fun j hj => by
            rcases Nat.lt_or_ge j i with z | z
            · exact hno j z
            · rw [show j = i by omega]; exact q2) _
      rw [← ei] at key
      exact key
  refine ⟨rfl, ?_⟩
  show ab_W _ _ _ (0, [.long N, .retAddr 0, .int (nI c), .retAddr 0, .retAddr 0], [], (0, 0), h)
  refine ab_W.go (mm _) 2 (c' := (2, [.long N, .retAddr 0, .int (nI c), .int (nI 0), .retAddr 0], [], (0, 0), h)) rfl ?_
  exact loop 0 (Nat.zero_le _) (fun j hj => absurd hj (Nat.not_lt_zero j)) _
/-! counting -/
noncomputable def cn (p : Nat → Prop) : Nat → Nat
  | 0 => 0
  | i + 1 => cn p i + ci (p i) 1 0
theorem cn_t {p : Nat → Prop} {i : Nat} (h : p i) : cn p (i + 1) = cn p i + 1 := by
  show cn p i + ci (p i) 1 0 = _
  rw [ci_t h]
theorem cn_f {p : Nat → Prop} {i : Nat} (h : ¬ p i) : cn p (i + 1) = cn p i := by
  show cn p i + ci (p i) 1 0 = _
  rw [ci_f h]
  rfl
theorem cn_le (p : Nat → Prop) : ∀ n, cn p n ≤ n := by
  intro n
  induction n with
  | zero => exact Nat.le_refl _
  | succ n ih =>
    by_cases h : p n
    · rw [cn_t h]; omega
    · rw [cn_f h]; omega
theorem cn_list (p : Nat → Prop) (n : Nat) : cn p n = ((List.range n).filter (fun i => ci (p i) true false)).length := by
  induction n with
  | zero => rfl
  | succ n ih =>
    rw [List.range_succ, List.filter_append, List.length_append, ← ih]
    by_cases h : p n
    · rw [cn_t h, List.filter_cons_of_pos (by rw [ci_t h])]; rfl
    · rw [cn_f h, List.filter_cons_of_neg (by rw [ci_f h]; decide)]; rfl
theorem cn_mem {p : Nat → Prop} {n i : Nat} : i ∈ (List.range n).filter (fun i => ci (p i) true false) ↔ i < n ∧ p i := by
  rw [List.mem_filter, List.mem_range]
  refine and_congr_right fun _ => ?_
  by_cases h : p i
  · rw [ci_t h]; exact ⟨fun _ => h, fun _ => rfl⟩
  · rw [ci_f h]; exact ⟨fun z => (by cases z), fun z => absurd z h⟩
theorem cn_bij {p q : Nat → Prop} {n m : Nat} (g : Nat → Nat) (h1 : ∀ k, k < n → p k → g k < m ∧ q (g k)) (h2 : ∀ k l, k < n → l < n → p k → p l → g k = g l → k = l) (h3 : ∀ c, c < m → q c → ∃ k, k < n ∧ p k ∧ g k = c) : cn p n = cn q m := by
  rw [cn_list, cn_list, ← List.length_map (f := g)]
  have nd : ∀ (r : Nat → Prop) (k : Nat), ((List.range k).filter (fun i => ci (r i) true false)).Nodup := fun r k => List.Pairwise.filter _ List.nodup_range
  have nd1 : (((List.range n).filter (fun i => ci (p i) true false)).map g).Nodup := by
    refine List.pairwise_map.mpr ?_
    refine List.Pairwise.imp_of_mem ?_ (nd p n)
    intro a b ha hb hab he
    obtain ⟨a1, a2⟩ := cn_mem.mp ha
    obtain ⟨b1, b2⟩ := cn_mem.mp hb
    exact hab (h2 a b a1 b1 a2 b2 he)
  refine List.Perm.length_eq ((List.perm_ext_iff_of_nodup nd1 (nd q m)).mpr ?_)
  intro c
  rw [cn_mem, List.mem_map]
  constructor
  · rintro ⟨k, hk, rfl⟩
    obtain ⟨a1, a2⟩ := cn_mem.mp hk
    exact h1 k a1 a2
  · rintro ⟨c1, c2⟩
    obtain ⟨k, k1, k2, k3⟩ := h3 c c1 c2
    exact ⟨k, cn_mem.mpr ⟨k1, k2⟩, k3⟩
/-- how many pieces a name has -/
noncomputable def npc (N : Int64) : Nat := cn (fun k => 1 ≤ k ∧ isP N k) 128
theorem npc_cells (N : Int64) : npc N = cn (fun c => ∃ k, pcAt N c k) 64 := by
  refine cn_bij beg ?_ ?_ ?_
  · intro k hk hp
    exact ⟨(sp_le k hk hp.1).2.2.2, k, hp.1, hk, hp.2, rfl⟩
  · intro k l hk hl hp hq he
    exact isP_one hp.1 hk hq.1 hl hp.2 hq.2 (inK_beg hp.1 hk) (by rw [he]; exact inK_beg hq.1 hl)
  · rintro c hc ⟨k, k1, k2, k3, k4⟩
    exact ⟨k, k2, ⟨k1, k3⟩, k4⟩
theorem nI_dep_ne {k : Nat} (h1 : 1 ≤ k) (hk : k < 128) : ¬ nI (dep k) = -(nI 6) := by
  have h6 := (sp_le k hk h1).1
  have key : ∀ δ, δ ≤ 6 → ¬ nI δ = -(nI 6) := by decide
  exact key _ h6
theorem sp_countPieces (d : Nat) {h : ab_H} {N : Int64} {post : ab_P} (hp : post (some (.int (nI (npc N)))) h) : mCC (d + 5) kSpan_countPieces [.long N] h post := by
  rw [npc_cells] at hp
  have loop : ∀ c, c ≤ 64 → ab_W (ab_st (mT kSpan_countPieces) mB mF (mR kSpan_countPieces) none) (mCC (d + 4)) post (4, [.long N, .retAddr 0, .int (nI (cn (fun c => ∃ k, pcAt N c k) c)), .int (nI c)], [], (0, 0), h) := by
    refine down 64 ?_ ?_
    · skip
      refine ab_W.go (mm _) 2 (c' := (7, [.long N, .retAddr 0, .int (nI (cn (fun c => ∃ k, pcAt N c k) 64)), .int (nI 64)], [.int (nI 64), .int (nI 64)], (0, 0), h)) rfl ?_
      refine ab_W.itT (mm _) (p := (nI 64) ≤ (nI 64)) (c1 := (29, [.long N, .retAddr 0, .int (nI (cn (fun c => ∃ k, pcAt N c k) 64)), .int (nI 64)], [], (0, 0), h)) (c2 := (10, [.long N, .retAddr 0, .int (nI (cn (fun c => ∃ k, pcAt N c k) 64)), .int (nI 64)], [], (0, 0), h)) rfl ((by decide)) ?_
      refine ab_W.go (mm _) 1 (c' := (30, [.long N, .retAddr 0, .int (nI (cn (fun c => ∃ k, pcAt N c k) 64)), .int (nI 64)], [.int (nI (cn (fun c => ∃ k, pcAt N c k) 64))], (0, 0), h)) rfl ?_
      refine ab_W.retI (mm _) (rt := some .int) (v := nI (cn (fun c => ∃ k, pcAt N c k) 64)) rfl rfl ?_
      exact hp
    · intro c hc ih
      refine ab_W.go (mm _) 2 (c' := (7, [.long N, .retAddr 0, .int (nI (cn (fun c => ∃ k, pcAt N c k) c)), .int (nI c)], [.int (nI 64), .int (nI c)], (0, 0), h)) rfl ?_
      refine ab_W.itF (mm _) (p := (nI 64) ≤ (nI c)) (c1 := (29, [.long N, .retAddr 0, .int (nI (cn (fun c => ∃ k, pcAt N c k) c)), .int (nI c)], [], (0, 0), h)) (c2 := (10, [.long N, .retAddr 0, .int (nI (cn (fun c => ∃ k, pcAt N c k) c)), .int (nI c)], [], (0, 0), h)) rfl (fun z => absurd ((nI_leI (by omega) (by omega)).mp z) (by omega)) ?_
      refine ab_W.go (mm _) 2 (c' := (12, [.long N, .retAddr 0, .int (nI (cn (fun c => ∃ k, pcAt N c k) c)), .int (nI c)], [.int (nI c), .long N], (0, 0), h)) rfl ?_
      refine ab_W.call (mm _) (k := 31) (av := [.long N, .int (nI c)]) (c' := (15, [.long N, .retAddr 0, .int (nI (cn (fun c => ∃ k, pcAt N c k) c)), .int (nI c)], [], (0, 0), h)) rfl ?_
      refine sp_pieceDepth d hc (fun v hv => ?_)
      rcases hv with ⟨k, hk, rfl⟩ | ⟨hk, rfl⟩
      · rw [cn_t ⟨k, hk⟩] at ih
        show ab_W _ _ _ (15, [.long N, .retAddr 0, .int (nI (cn (fun c => ∃ k, pcAt N c k) c)), .int (nI c)], [.int (nI (dep k))], (0, 0), h)
        refine ab_W.go (mm _) 1 (c' := (17, [.long N, .retAddr 0, .int (nI (cn (fun c => ∃ k, pcAt N c k) c)), .int (nI c)], [.int (-(nI 6)), .int (nI (dep k))], (0, 0), h)) rfl ?_
        refine ab_W.itF (mm _) (p := (nI (dep k)) = (-(nI 6))) (c1 := (23, [.long N, .retAddr 0, .int (nI (cn (fun c => ∃ k, pcAt N c k) c)), .int (nI c)], [], (0, 0), h)) (c2 := (20, [.long N, .retAddr 0, .int (nI (cn (fun c => ∃ k, pcAt N c k) c)), .int (nI c)], [], (0, 0), h)) rfl (nI_dep_ne hk.1 hk.2.1) ?_
        refine ab_W.go (mm _) 1 (c' := (23, [.long N, .retAddr 0, .int (nI (cn (fun c => ∃ k, pcAt N c k) c) + nI 1), .int (nI c)], [], (0, 0), h)) rfl ?_
        rw [nI_add (cn (fun c => ∃ k, pcAt N c k) c) 1]
        refine ab_W.go (mm _) 1 (c' := (26, [.long N, .retAddr 0, .int (nI ((cn (fun c => ∃ k, pcAt N c k) c) + 1)), .int (nI c + nI 1)], [], (0, 0), h)) rfl ?_
        rw [nI_add c 1]
        refine ab_W.go (mm _) 1 (c' := (4, [.long N, .retAddr 0, .int (nI ((cn (fun c => ∃ k, pcAt N c k) c) + 1)), .int (nI (c + 1))], [], (0, 0), h)) rfl ?_
        exact ih
      · rw [cn_f hk] at ih
        show ab_W _ _ _ (15, [.long N, .retAddr 0, .int (nI (cn (fun c => ∃ k, pcAt N c k) c)), .int (nI c)], [.int (-(nI 6))], (0, 0), h)
        refine ab_W.go (mm _) 1 (c' := (17, [.long N, .retAddr 0, .int (nI (cn (fun c => ∃ k, pcAt N c k) c)), .int (nI c)], [.int (-(nI 6)), .int (-(nI 6))], (0, 0), h)) rfl ?_
        refine ab_W.itT (mm _) (p := (-(nI 6)) = (-(nI 6))) (c1 := (23, [.long N, .retAddr 0, .int (nI (cn (fun c => ∃ k, pcAt N c k) c)), .int (nI c)], [], (0, 0), h)) (c2 := (20, [.long N, .retAddr 0, .int (nI (cn (fun c => ∃ k, pcAt N c k) c)), .int (nI c)], [], (0, 0), h)) rfl (rfl) ?_
        refine ab_W.go (mm _) 1 (c' := (26, [.long N, .retAddr 0, .int (nI (cn (fun c => ∃ k, pcAt N c k) c)), .int (nI c + nI 1)], [], (0, 0), h)) rfl ?_
        rw [nI_add c 1]
        refine ab_W.go (mm _) 1 (c' := (4, [.long N, .retAddr 0, .int (nI (cn (fun c => ∃ k, pcAt N c k) c)), .int (nI (c + 1))], [], (0, 0), h)) rfl ?_
        exact ih
  refine ⟨rfl, ?_⟩
  show ab_W _ _ _ (0, [.long N, .retAddr 0, .retAddr 0, .retAddr 0], [], (0, 0), h)
  refine ab_W.go (mm _) 4 (c' := (4, [.long N, .retAddr 0, .int (nI 0), .int (nI 0)], [], (0, 0), h)) rfl ?_
  exact loop 0 (Nat.zero_le _)
