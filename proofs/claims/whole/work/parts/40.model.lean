/-! THE REFERENCE: its cells 84 to 99, and its small methods -/
def mObj (hp sz op : Int32) : va_E := .inr (5, [.ref 85, .ref 86, .ref 87, .ref 88, .int hp, .ref 89, .ref 90, .ref 91, .ref 92, .ref 93, .int sz, .int op, .ref 94, .ref 95, .ref 96, .ref 97, .ref 98, .ref 99])
def arrB (h : ab_H) (a n : Nat) (p : Nat → Bool) : Prop := ∃ g, h[a]? = some (.inl (2, n, .inl g)) ∧ ∀ s, s < n → g s = b2i (p s)
def arrL (h : ab_H) (a n : Nat) (N : Nat → Int64) : Prop := ∃ g, h[a]? = some (.inl (1, n, .inr (.inl g))) ∧ ∀ s, s < n → g s = N s
def arrH (h : ab_H) (a n : Nat) (H : Nat → Nat → Int32) : Prop := ∃ g, h[a]? = some (.inl (0, 64 * n, .inl g)) ∧ ∀ s c, s < n → c < 64 → g (64 * s + c) = H s c
def arrS (h : ab_H) (a n : Nat) : Prop := ∃ g, h[a]? = some (.inl (0, n, .inl g))
theorem arrB.kept {h h' : ab_H} {a n : Nat} {p : Nat → Bool} (x : arrB h a n p) (e : h'[a]? = h[a]?) : arrB h' a n p := by
  obtain ⟨g, g1, g2⟩ := x
  exact ⟨g, e.trans g1, g2⟩
theorem arrL.kept {h h' : ab_H} {a n : Nat} {p : Nat → Int64} (x : arrL h a n p) (e : h'[a]? = h[a]?) : arrL h' a n p := by
  obtain ⟨g, g1, g2⟩ := x
  exact ⟨g, e.trans g1, g2⟩
theorem arrH.kept {h h' : ab_H} {a n : Nat} {p : Nat → Nat → Int32} (x : arrH h a n p) (e : h'[a]? = h[a]?) : arrH h' a n p := by
  obtain ⟨g, g1, g2⟩ := x
  exact ⟨g, e.trans g1, g2⟩
theorem arrS.kept {h h' : ab_H} {a n : Nat} (x : arrS h a n) (e : h'[a]? = h[a]?) : arrS h' a n := by
  obtain ⟨g, g1⟩ := x
  exact ⟨g, e.trans g1⟩
theorem upd_at (g : Nat → Int32) (j : Nat) (x : Int32) : upd g j x j = x := by unfold upd; exact if_pos rfl
theorem upd_no (g : Nat → Int32) {j i : Nat} (x : Int32) (h : i ≠ j) : upd g j x i = g i := by unfold upd; exact if_neg h
theorem updL_at (g : Nat → Int64) (j : Nat) (x : Int64) : vp_updL g j x j = x := by unfold vp_updL; exact if_pos rfl
theorem updL_no (g : Nat → Int64) {j i : Nat} (x : Int64) (h : i ≠ j) : vp_updL g j x i = g i := by unfold vp_updL; exact if_neg h
theorem arrB.put {h : ab_H} {a n s : Nat} {p : Nat → Bool} {g : Nat → Int32} {v : Bool} (g1 : h[a]? = some (.inl (2, n, .inl g))) (g2 : ∀ s, s < n → g s = b2i (p s)) : arrB (h.set a (.inl (2, n, .inl (upd g s (b2i v))))) a n (va_up p s v) := by
  refine ⟨_, set_at g1, fun t ht => ?_⟩
  by_cases e : t = s
  · rw [e, upd_at, va_up_self]
  · rw [upd_no _ _ e, va_up_ne _ _ e, g2 t ht]
theorem arrL.put {h : ab_H} {a n s : Nat} {p : Nat → Int64} {g : Nat → Int64} {v : Int64} (g1 : h[a]? = some (.inl (1, n, .inr (.inl g)))) (g2 : ∀ s, s < n → g s = p s) : arrL (h.set a (.inl (1, n, .inr (.inl (vp_updL g s v))))) a n (va_up p s v) := by
  refine ⟨_, set_at g1, fun t ht => ?_⟩
  by_cases e : t = s
  · rw [e, updL_at, va_up_self]
  · rw [updL_no _ _ e, va_up_ne _ _ e, g2 t ht]
/-- the reference's cells -/
def relM (h : ab_H) (σ : Sg) : Prop := (∃ sz op, h[84]? = some (mObj (nI (hn σ.1)) sz op)) ∧ arrB h 85 12 (pr σ.1) ∧ arrL h 86 12 (nm σ.1) ∧ arrL h 87 12 (kn σ.1) ∧ arrH h 88 12 (ht σ.1) ∧ (arrS h 89 64 ∧ arrS h 90 128 ∧ arrS h 91 256 ∧ arrS h 92 16 ∧ arrS h 93 16) ∧ (∃ g, h[94]? = some (.inl (2, 2, .inl g)) ∧ ∀ k, k < 2 → g k = b2i (σ.2.2 k)) ∧ (∃ g, h[95]? = some (.inl (2, 24, .inl g)) ∧ ∀ k s, k < 2 → s < 12 → g (12 * k + s) = b2i (pr (σ.2.1 k) s)) ∧ (∃ g, h[96]? = some (.inl (1, 24, .inr (.inl g))) ∧ ∀ k s, k < 2 → s < 12 → g (12 * k + s) = nm (σ.2.1 k) s) ∧ (∃ g, h[97]? = some (.inl (1, 24, .inr (.inl g))) ∧ ∀ k s, k < 2 → s < 12 → g (12 * k + s) = kn (σ.2.1 k) s) ∧ (∃ g, h[98]? = some (.inl (0, 1536, .inl g)) ∧ ∀ k s c, k < 2 → s < 12 → c < 64 → g (768 * k + (64 * s + c)) = ht (σ.2.1 k) s c) ∧ (∃ g, h[99]? = some (.inl (0, 2, .inl g)) ∧ ∀ k, k < 2 → g k = nI (hn (σ.2.1 k)))
/-- what a step on the present stamps and the passing cells leaves -/
theorem relM.cur {h h' : ab_H} {σ : Sg} {c' : Ci} (hR : relM h σ) (h0 : ∃ sz op, h'[84]? = some (mObj (nI (hn c')) sz op)) (h1 : arrB h' 85 12 (pr c')) (h2 : arrL h' 86 12 (nm c')) (h3 : arrL h' 87 12 (kn c')) (h4 : arrH h' 88 12 (ht c')) (h5 : arrS h' 89 64 ∧ arrS h' 90 128 ∧ arrS h' 91 256 ∧ arrS h' 92 16 ∧ arrS h' 93 16) (hk : ∀ i, 94 ≤ i → h'[i]? = h[i]?) : relM h' (c', σ.2) := by
  obtain ⟨-, -, -, -, -, -, ⟨g4, a4, b4⟩, ⟨g5, a5, b5⟩, ⟨g6, a6, b6⟩, ⟨g7, a7, b7⟩, ⟨g8, a8, b8⟩, ⟨g9, a9, b9⟩⟩ := hR
  exact ⟨h0, h1, h2, h3, h4, h5, ⟨g4, (hk _ (by omega)).trans a4, b4⟩, ⟨g5, (hk _ (by omega)).trans a5, b5⟩, ⟨g6, (hk _ (by omega)).trans a6, b6⟩, ⟨g7, (hk _ (by omega)).trans a7, b7⟩, ⟨g8, (hk _ (by omega)).trans a8, b8⟩, ⟨g9, (hk _ (by omega)).trans a9, b9⟩⟩
theorem sp_misStamp (d : Nat) {h : ab_H} {x hap sz op : Int32} {c : Ci} (h0 : h[84]? = some (mObj hap sz op)) (hB : arrB h 85 12 (pr c)) {post : ab_P} (hp : ∀ v : Int32, (noS c x ∧ v = nI 0) ∨ ((∃ s, s < 12 ∧ x = nI s ∧ pr c s = true) ∧ v = nI 1) → post (some (.int v)) h) : mCC (d + 2) kSpanStampsModel_isStamp [.ref 84, .int x] h post := by
  obtain ⟨g, g1, g2⟩ := hB
  rcases pk_ix x (n := 12) (by decide) with q | q | ⟨j, j1, rfl⟩
  · refine ⟨rfl, ?_⟩
    show ab_W _ _ _ (0, [.ref 84, .int x], [], (0, 0), h)
    refine ab_W.go (mm _) 3 (c' := (4, [.ref 84, .int x], [.int (nI 11), .int (nI 0), .int x], (0, 0), h)) rfl ?_
    refine ab_W.call (mm _) (k := 64) (av := [.int x, .int (nI 0), .int (nI 11)]) (c' := (7, [.ref 84, .int x], [], (0, 0), h)) rfl ?_
    refine min_ _ (fun v hv => ?_)
    rcases hv with ⟨⟨a, b⟩, rfl⟩ | ⟨a, rfl⟩
    · exact absurd q (Int32.not_lt.mpr a)
    · skip
      show ab_W _ _ _ (7, [.ref 84, .int x], [.int (nI 0)], (0, 0), h)
      refine ab_W.itT (mm _) (p := (nI 0) = 0) (c1 := (23, [.ref 84, .int x], [], (0, 0), h)) (c2 := (10, [.ref 84, .int x], [], (0, 0), h)) rfl (rfl) ?_
      refine ab_W.go (mm _) 1 (c' := (24, [.ref 84, .int x], [.int (nI 0)], (0, 0), h)) rfl ?_
      refine ab_W.retI (mm _) (rt := some .boolean) (v := nI 0) rfl rfl ?_
      exact hp _ (Or.inl ⟨Or.inl q, rfl⟩)
  · refine ⟨rfl, ?_⟩
    show ab_W _ _ _ (0, [.ref 84, .int x], [], (0, 0), h)
    refine ab_W.go (mm _) 3 (c' := (4, [.ref 84, .int x], [.int (nI 11), .int (nI 0), .int x], (0, 0), h)) rfl ?_
    refine ab_W.call (mm _) (k := 64) (av := [.int x, .int (nI 0), .int (nI 11)]) (c' := (7, [.ref 84, .int x], [], (0, 0), h)) rfl ?_
    refine min_ _ (fun v hv => ?_)
    rcases hv with ⟨⟨a, b⟩, rfl⟩ | ⟨a, rfl⟩
    · exact absurd (Int32.le_trans q b) (by decide)
    · skip
      show ab_W _ _ _ (7, [.ref 84, .int x], [.int (nI 0)], (0, 0), h)
      refine ab_W.itT (mm _) (p := (nI 0) = 0) (c1 := (23, [.ref 84, .int x], [], (0, 0), h)) (c2 := (10, [.ref 84, .int x], [], (0, 0), h)) rfl (rfl) ?_
      refine ab_W.go (mm _) 1 (c' := (24, [.ref 84, .int x], [.int (nI 0)], (0, 0), h)) rfl ?_
      refine ab_W.retI (mm _) (rt := some .boolean) (v := nI 0) rfl rfl ?_
      exact hp _ (Or.inl ⟨Or.inr (Or.inl q), rfl⟩)
  · refine ⟨rfl, ?_⟩
    show ab_W _ _ _ (0, [.ref 84, .int (nI j)], [], (0, 0), h)
    refine ab_W.go (mm _) 3 (c' := (4, [.ref 84, .int (nI j)], [.int (nI 11), .int (nI 0), .int (nI j)], (0, 0), h)) rfl ?_
    refine ab_W.call (mm _) (k := 64) (av := [.int (nI j), .int (nI 0), .int (nI 11)]) (c' := (7, [.ref 84, .int (nI j)], [], (0, 0), h)) rfl ?_
    refine min_ _ (fun v hv => ?_)
    rcases hv with ⟨⟨a, b⟩, rfl⟩ | ⟨a, rfl⟩
    · skip
      show ab_W _ _ _ (7, [.ref 84, .int (nI j)], [.int (nI 1)], (0, 0), h)
      refine ab_W.itF (mm _) (p := (nI 1) = 0) (c1 := (23, [.ref 84, .int (nI j)], [], (0, 0), h)) (c2 := (10, [.ref 84, .int (nI j)], [], (0, 0), h)) rfl (nI_ne01) ?_
      refine ab_W.go (mm _) 1 (c' := (11, [.ref 84, .int (nI j)], [.ref 84], (0, 0), h)) rfl ?_
      refine ab_W.o (mm _) (h0) rfl (c' := (14, [.ref 84, .int (nI j)], [.ref 85], (0, 0), h)) rfl ?_
      refine ab_W.go (mm _) 1 (c' := (15, [.ref 84, .int (nI j)], [.int (nI j), .ref 85], (0, 0), h)) rfl ?_
      refine ab_W.bald (mm _) (j := j) (g1) rfl (by omega) rfl rfl ?_
      show ab_W _ _ _ (16, [.ref 84, .int (nI j)], [.int (g j)], (0, 0), h)
      refine ab_W.topi (g2 j j1) ?_
      refine ab_W.ite (mm _) (p := (b2i (pr c j)) = 0) (c1 := (23, [.ref 84, .int (nI j)], [], (0, 0), h)) (c2 := (19, [.ref 84, .int (nI j)], [], (0, 0), h)) rfl (fun q => ?_) (fun q => ?_)
      · skip
        refine ab_W.go (mm _) 1 (c' := (24, [.ref 84, .int (nI j)], [.int (nI 0)], (0, 0), h)) rfl ?_
        refine ab_W.retI (mm _) (rt := some .boolean) (v := nI 0) rfl rfl ?_
        exact hp _ (Or.inl ⟨Or.inr (Or.inr ⟨j, j1, rfl, b2i_0.mp q⟩), rfl⟩)
      · skip
        refine ab_W.go (mm _) 2 (c' := (24, [.ref 84, .int (nI j)], [.int (nI 1)], (0, 0), h)) rfl ?_
        refine ab_W.retI (mm _) (rt := some .boolean) (v := nI 1) rfl rfl ?_
        refine hp _ (Or.inr ⟨⟨j, j1, rfl, ?_⟩, rfl⟩)
        cases hb : pr c j with
        | true => rfl
        | false => exact absurd (b2i_0.mpr hb) q
    · exact absurd ⟨Int32.not_lt.mp (nI_pos (by omega)), (nI_leI (by omega) (by omega)).mpr (show j ≤ 11 by omega)⟩ a
theorem cb_le (p : Nat → Bool) : ∀ n, cb p n ≤ n := by
  intro n
  induction n with
  | zero => exact Nat.le_refl _
  | succ n ih =>
    cases e : p n with
    | true => rw [cb_t e]; omega
    | false => rw [cb_f e]; omega
theorem sp_mmany (d : Nat) {h : ab_H} {hap sz op : Int32} {p : Nat → Bool} (h0 : h[84]? = some (mObj hap sz op)) (hB : arrB h 85 12 p) {post : ab_P} (hp : post (some (.int (nI (cb p 12)))) h) : mCC (d + 1) kSpanStampsModel_many [.ref 84] h post := by
  obtain ⟨g, g1, g2⟩ := hB
  have loop : ∀ s, s ≤ 12 → ab_W (ab_st (mT kSpanStampsModel_many) mB mF (mR kSpanStampsModel_many) none) (mCC d) post (4, [.ref 84, .int (nI (cb p s)), .int (nI s)], [], (0, 0), h) := by
    refine down 12 ?_ ?_
    · skip
      refine ab_W.go (mm _) 2 (c' := (7, [.ref 84, .int (nI (cb p 12)), .int (nI 12)], [.int (nI 12), .int (nI 12)], (0, 0), h)) rfl ?_
      refine ab_W.itT (mm _) (p := (nI 12) ≤ (nI 12)) (c1 := (33, [.ref 84, .int (nI (cb p 12)), .int (nI 12)], [], (0, 0), h)) (c2 := (10, [.ref 84, .int (nI (cb p 12)), .int (nI 12)], [], (0, 0), h)) rfl ((by decide)) ?_
      refine ab_W.go (mm _) 1 (c' := (34, [.ref 84, .int (nI (cb p 12)), .int (nI 12)], [.int (nI (cb p 12))], (0, 0), h)) rfl ?_
      refine ab_W.retI (mm _) (rt := some .int) (v := nI (cb p 12)) rfl rfl ?_
      exact hp
    · intro s hs ih
      refine ab_W.go (mm _) 2 (c' := (7, [.ref 84, .int (nI (cb p s)), .int (nI s)], [.int (nI 12), .int (nI s)], (0, 0), h)) rfl ?_
      refine ab_W.itF (mm _) (p := (nI 12) ≤ (nI s)) (c1 := (33, [.ref 84, .int (nI (cb p s)), .int (nI s)], [], (0, 0), h)) (c2 := (10, [.ref 84, .int (nI (cb p s)), .int (nI s)], [], (0, 0), h)) rfl (fun z => absurd ((nI_leI (by omega) (by omega)).mp z) (by omega)) ?_
      refine ab_W.go (mm _) 2 (c' := (12, [.ref 84, .int (nI (cb p s)), .int (nI s)], [.ref 84, .int (nI (cb p s))], (0, 0), h)) rfl ?_
      refine ab_W.o (mm _) (h0) rfl (c' := (15, [.ref 84, .int (nI (cb p s)), .int (nI s)], [.ref 85, .int (nI (cb p s))], (0, 0), h)) rfl ?_
      refine ab_W.go (mm _) 1 (c' := (16, [.ref 84, .int (nI (cb p s)), .int (nI s)], [.int (nI s), .ref 85, .int (nI (cb p s))], (0, 0), h)) rfl ?_
      refine ab_W.bald (mm _) (j := s) (g1) rfl (by omega) rfl rfl ?_
      show ab_W _ _ _ (17, [.ref 84, .int (nI (cb p s)), .int (nI s)], [.int (g s), .int (nI (cb p s))], (0, 0), h)
      refine ab_W.topi (g2 s hs) ?_
      refine ab_W.ite (mm _) (p := (b2i (p s)) = 0) (c1 := (24, [.ref 84, .int (nI (cb p s)), .int (nI s)], [.int (nI (cb p s))], (0, 0), h)) (c2 := (20, [.ref 84, .int (nI (cb p s)), .int (nI s)], [.int (nI (cb p s))], (0, 0), h)) rfl (fun q => ?_) (fun q => ?_)
      · skip
        have q := b2i_0.mp q
        rw [cb_f q] at ih
        refine ab_W.go (mm _) 2 (c' := (26, [.ref 84, .int (nI (cb p s)), .int (nI s)], [.int ((nI (cb p s)) + (nI 0))], (0, 0), h)) rfl ?_
        refine ab_W.topi (nI_add (cb p s) 0) ?_
        refine ab_W.go (mm _) 2 (c' := (30, [.ref 84, .int (nI ((cb p s) + 0)), .int (nI s + nI 1)], [], (0, 0), h)) rfl ?_
        rw [nI_add s 1]
        refine ab_W.go (mm _) 1 (c' := (4, [.ref 84, .int (nI ((cb p s) + 0)), .int (nI (s + 1))], [], (0, 0), h)) rfl ?_
        exact ih
      · skip
        have q : p s = true := by
          cases hb : p s with
          | true => rfl
          | false => exact absurd (b2i_0.mpr hb) q
        rw [cb_t q] at ih
        refine ab_W.go (mm _) 3 (c' := (26, [.ref 84, .int (nI (cb p s)), .int (nI s)], [.int ((nI (cb p s)) + (nI 1))], (0, 0), h)) rfl ?_
        refine ab_W.topi (nI_add (cb p s) 1) ?_
        refine ab_W.go (mm _) 2 (c' := (30, [.ref 84, .int (nI ((cb p s) + 1)), .int (nI s + nI 1)], [], (0, 0), h)) rfl ?_
        rw [nI_add s 1]
        refine ab_W.go (mm _) 1 (c' := (4, [.ref 84, .int (nI ((cb p s) + 1)), .int (nI (s + 1))], [], (0, 0), h)) rfl ?_
        exact ih
  refine ⟨rfl, ?_⟩
  show ab_W _ _ _ (0, [.ref 84, .retAddr 0, .retAddr 0], [], (0, 0), h)
  refine ab_W.go (mm _) 4 (c' := (4, [.ref 84, .int (nI 0), .int (nI 0)], [], (0, 0), h)) rfl ?_
  exact loop 0 (Nat.zero_le _)
def ixD : Nat → Int32
  | 0 => -(nI 1)
  | m + 1 => nI m
theorem ixD_s : ∀ m, m < 12 → nI m + -(nI 1) = ixD m := by decide +kernel
theorem sp_mfree (d : Nat) {h : ab_H} {hap sz op : Int32} {c : Ci} (h0 : h[84]? = some (mObj hap sz op)) (hB : arrB h 85 12 (pr c)) {post : ab_P} (hp : ∀ v : Int32, (∃ t, free1 c t ∧ v = nI t) ∨ ((∀ s, s < 12 → pr c s = true) ∧ v = -(nI 6)) → post (some (.int v)) h) : mCC (d + 1) kSpanStampsModel_free [.ref 84] h post := by
  obtain ⟨g, g1, g2⟩ := hB
  have loop : ∀ m, m ≤ 12 → ∀ v : Int32, ((∃ t, m ≤ t ∧ t < 12 ∧ pr c t = false ∧ (∀ j, m ≤ j → j < t → pr c j = true) ∧ v = nI t) ∨ ((∀ s, m ≤ s → s < 12 → pr c s = true) ∧ v = -(nI 6))) → ab_W (ab_st (mT kSpanStampsModel_free) mB mF (mR kSpanStampsModel_free) none) (mCC d) post (6, [.ref 84, .int v, .int (ixD m)], [], (0, 0), h) := by
    intro m
    induction m with
    | zero =>
      intro _ v hv
      refine ab_W.go (mm _) 1 (c' := (7, [.ref 84, .int v, .int (ixD 0)], [.int (ixD 0)], (0, 0), h)) rfl ?_
      refine ab_W.itT (mm _) (p := (ixD 0) < 0) (c1 := (31, [.ref 84, .int v, .int (ixD 0)], [], (0, 0), h)) (c2 := (10, [.ref 84, .int v, .int (ixD 0)], [], (0, 0), h)) rfl ((by decide)) ?_
      refine ab_W.go (mm _) 1 (c' := (32, [.ref 84, .int v, .int (ixD 0)], [.int v], (0, 0), h)) rfl ?_
      refine ab_W.retI (mm _) (rt := some .int) (v := v) rfl rfl ?_
      refine hp v ?_
      rcases hv with ⟨t, t1, t2, t3, t4, t5⟩ | ⟨t1, t2⟩
      · exact Or.inl ⟨t, ⟨t2, t3, fun j hj => t4 j (Nat.zero_le _) hj⟩, t5⟩
      · exact Or.inr ⟨fun s hs => t1 s (Nat.zero_le _) hs, t2⟩
    | succ m ih =>
      intro hm v hv
      show ab_W _ _ _ (6, [.ref 84, .int v, .int (nI m)], [], (0, 0), h)
      refine ab_W.go (mm _) 1 (c' := (7, [.ref 84, .int v, .int (nI m)], [.int (nI m)], (0, 0), h)) rfl ?_
      refine ab_W.itF (mm _) (p := (nI m) < 0) (c1 := (31, [.ref 84, .int v, .int (nI m)], [], (0, 0), h)) (c2 := (10, [.ref 84, .int v, .int (nI m)], [], (0, 0), h)) rfl (nI_pos (by omega)) ?_
      refine ab_W.go (mm _) 1 (c' := (11, [.ref 84, .int v, .int (nI m)], [.ref 84], (0, 0), h)) rfl ?_
      refine ab_W.o (mm _) (h0) rfl (c' := (14, [.ref 84, .int v, .int (nI m)], [.ref 85], (0, 0), h)) rfl ?_
      refine ab_W.go (mm _) 1 (c' := (15, [.ref 84, .int v, .int (nI m)], [.int (nI m), .ref 85], (0, 0), h)) rfl ?_
      refine ab_W.bald (mm _) (j := m) (g1) rfl (by omega) rfl rfl ?_
      show ab_W _ _ _ (16, [.ref 84, .int v, .int (nI m)], [.int (g m)], (0, 0), h)
      refine ab_W.topi (g2 m (by omega)) ?_
      refine ab_W.ite (mm _) (p := (b2i (pr c m)) = 0) (c1 := (23, [.ref 84, .int v, .int (nI m)], [], (0, 0), h)) (c2 := (19, [.ref 84, .int v, .int (nI m)], [], (0, 0), h)) rfl (fun q => ?_) (fun q => ?_)
      · skip
        have q := b2i_0.mp q
        refine ab_W.go (mm _) 4 (c' := (6, [.ref 84, .int (nI m), .int (nI m + -(nI 1))], [], (0, 0), h)) rfl ?_
        rw [ixD_s m (by omega)]
        exact ih (by omega) _ (Or.inl ⟨m, Nat.le_refl _, by omega, q, fun j j1 j2 => absurd j1 (by omega), rfl⟩)
      · skip
        have q : pr c m = true := by
          cases hb : pr c m with
          | true => rfl
          | false => exact absurd (b2i_0.mpr hb) q
        refine ab_W.go (mm _) 5 (c' := (6, [.ref 84, .int v, .int (nI m + -(nI 1))], [], (0, 0), h)) rfl ?_
        rw [ixD_s m (by omega)]
        refine ih (by omega) _ ?_
        rcases hv with ⟨t, t1, t2, t3, t4, t5⟩ | ⟨t1, t2⟩
        · refine Or.inl ⟨t, by omega, t2, t3, fun j j1 j2 => ?_, t5⟩
          by_cases e : j = m
          · rw [e]; exact q
          · exact t4 j (by omega) j2
        · refine Or.inr ⟨fun j j1 j2 => ?_, t2⟩
          by_cases e : j = m
          · rw [e]; exact q
          · exact t1 j (by omega) j2
  refine ⟨rfl, ?_⟩
  show ab_W _ _ _ (0, [.ref 84, .retAddr 0, .retAddr 0], [], (0, 0), h)
  refine ab_W.go (mm _) 4 (c' := (6, [.ref 84, .int (-(nI 6)), .int (nI 11)], [], (0, 0), h)) rfl ?_
  exact loop 12 (Nat.le_refl _) _ (Or.inr ⟨fun s s1 s2 => absurd s1 (by omega), rfl⟩)
theorem sp_mcopy (d : Nat) {h : ab_H} {hap sz op : Int32} {H : Nat → Nat → Int32} {s t : Nat} (h0 : h[84]? = some (mObj hap sz op)) (hH : arrH h 88 12 H) (hs : s < 12) (ht' : t < 12) (hst : s ≠ t) {post : ab_P} (hp : ∀ h', arrH h' 88 12 (va_up H t (H s)) → (∀ i, i ≠ 88 → h'[i]? = h[i]?) → post none h') : mCC (d + 1) kSpanStampsModel_copyHeights [.ref 84, .int (nI s), .int (nI t)] h post := by
  have loop : ∀ c, c ≤ 64 → ∀ h1, (∀ i, i ≠ 88 → h1[i]? = h[i]?) → (∃ g, h1[88]? = some (.inl (0, 64 * 12, .inl g)) ∧ (∀ v j, v < 12 → j < 64 → v ≠ t → g (64 * v + j) = H v j) ∧ (∀ j, j < c → g (64 * t + j) = H s j)) → ab_W (ab_st (mT kSpanStampsModel_copyHeights) mB mF (mR kSpanStampsModel_copyHeights) none) (mCC d) post (2, [.ref 84, .int (nI s), .int (nI t), .int (nI c)], [], (0, 0), h1) := by
    refine down 64 ?_ ?_
    · intro h1 k1 ⟨g, g1, g2, g3⟩
      refine ab_W.go (mm _) 2 (c' := (5, [.ref 84, .int (nI s), .int (nI t), .int (nI 64)], [.int (nI 64), .int (nI 64)], (0, 0), h1)) rfl ?_
      refine ab_W.itT (mm _) (p := (nI 64) ≤ (nI 64)) (c1 := (36, [.ref 84, .int (nI s), .int (nI t), .int (nI 64)], [], (0, 0), h1)) (c2 := (8, [.ref 84, .int (nI s), .int (nI t), .int (nI 64)], [], (0, 0), h1)) rfl ((by decide)) ?_
      refine ab_W.ret (mm _) (v := none) rfl ?_
      refine hp _ ⟨g, g1, fun v j hv hj => ?_⟩ k1
      by_cases e : v = t
      · rw [e, va_up_self, g3 j hj]
      · rw [va_up_ne _ _ e, g2 v j hv hj e]
    · intro c hc ih h1 k1 ⟨g, g1, g2, g3⟩
      have h0' := (k1 84 (by decide)).trans h0
      refine ab_W.go (mm _) 2 (c' := (5, [.ref 84, .int (nI s), .int (nI t), .int (nI c)], [.int (nI 64), .int (nI c)], (0, 0), h1)) rfl ?_
      refine ab_W.itF (mm _) (p := (nI 64) ≤ (nI c)) (c1 := (36, [.ref 84, .int (nI s), .int (nI t), .int (nI c)], [], (0, 0), h1)) (c2 := (8, [.ref 84, .int (nI s), .int (nI t), .int (nI c)], [], (0, 0), h1)) rfl (fun z => absurd ((nI_leI (by omega) (by omega)).mp z) (by omega)) ?_
      refine ab_W.go (mm _) 1 (c' := (9, [.ref 84, .int (nI s), .int (nI t), .int (nI c)], [.ref 84], (0, 0), h1)) rfl ?_
      refine ab_W.o (mm _) (h0') rfl (c' := (12, [.ref 84, .int (nI s), .int (nI t), .int (nI c)], [.ref 88], (0, 0), h1)) rfl ?_
      refine ab_W.go (mm _) 3 (c' := (16, [.ref 84, .int (nI s), .int (nI t), .int (nI c)], [.int ((nI 64) * (nI t)), .ref 88], (0, 0), h1)) rfl ?_
      refine ab_W.topi (pk_mul 64 t) ?_
      refine ab_W.go (mm _) 2 (c' := (18, [.ref 84, .int (nI s), .int (nI t), .int (nI c)], [.int ((nI (64 * t)) + (nI c)), .ref 88], (0, 0), h1)) rfl ?_
      refine ab_W.topi (nI_add (64 * t) c) ?_
      refine ab_W.go (mm _) 1 (c' := (19, [.ref 84, .int (nI s), .int (nI t), .int (nI c)], [.ref 84, .int (nI ((64 * t) + c)), .ref 88], (0, 0), h1)) rfl ?_
      refine ab_W.o (mm _) (h0') rfl (c' := (22, [.ref 84, .int (nI s), .int (nI t), .int (nI c)], [.ref 88, .int (nI ((64 * t) + c)), .ref 88], (0, 0), h1)) rfl ?_
      refine ab_W.go (mm _) 3 (c' := (26, [.ref 84, .int (nI s), .int (nI t), .int (nI c)], [.int ((nI 64) * (nI s)), .ref 88, .int (nI ((64 * t) + c)), .ref 88], (0, 0), h1)) rfl ?_
      refine ab_W.topi (pk_mul 64 s) ?_
      refine ab_W.go (mm _) 2 (c' := (28, [.ref 84, .int (nI s), .int (nI t), .int (nI c)], [.int ((nI (64 * s)) + (nI c)), .ref 88, .int (nI ((64 * t) + c)), .ref 88], (0, 0), h1)) rfl ?_
      refine ab_W.topi (nI_add (64 * s) c) ?_
      refine ab_W.iald (mm _) (j := 64 * s + c) (g1) (by simp only [nI_add, pk_mul]) (by omega) rfl rfl ?_
      show ab_W _ _ _ (29, [.ref 84, .int (nI s), .int (nI t), .int (nI c)], [.int (g (64 * s + c)), .int (nI ((64 * t) + c)), .ref 88], (0, 0), h1)
      refine ab_W.topi (g2 s c hs hc hst) ?_
      refine ab_W.iast (mm _) (j := 64 * t + c) (g1) (by simp only [nI_add, pk_mul]) (by omega) rfl rfl ?_
      show ab_W _ _ _ (30, [.ref 84, .int (nI s), .int (nI t), .int (nI c)], [], (0, 0), h1.set 88 (.inl (0, 64 * 12, .inl (upd g (64 * t + c) (H s c)))))
      refine ab_W.go (mm _) 1 (c' := (33, [.ref 84, .int (nI s), .int (nI t), .int (nI c + nI 1)], [], (0, 0), h1.set 88 (.inl (0, 64 * 12, .inl (upd g (64 * t + c) (H s c)))))) rfl ?_
      rw [nI_add c 1]
      refine ab_W.go (mm _) 1 (c' := (2, [.ref 84, .int (nI s), .int (nI t), .int (nI (c + 1))], [], (0, 0), h1.set 88 (.inl (0, 64 * 12, .inl (upd g (64 * t + c) (H s c)))))) rfl ?_
      refine ih _ (fun i hi => (set_ne (fun z => hi z.symm)).trans (k1 i hi)) ⟨_, set_at g1, fun v j hv hj hvt => ?_, fun j hj => ?_⟩
      · rw [upd_no _ _ (by omega)]
        exact g2 v j hv hj hvt
      · by_cases e : j = c
        · rw [e, upd_at]
        · rw [upd_no _ _ (by omega)]
          exact g3 j (by omega)
  obtain ⟨g, g1, g2⟩ := hH
  refine ⟨rfl, ?_⟩
  show ab_W _ _ _ (0, [.ref 84, .int (nI s), .int (nI t), .retAddr 0], [], (0, 0), h)
  refine ab_W.go (mm _) 2 (c' := (2, [.ref 84, .int (nI s), .int (nI t), .int (nI 0)], [], (0, 0), h)) rfl ?_
  exact loop 0 (Nat.zero_le _) h (fun _ _ => rfl) ⟨g, g1, fun v j hv hj _ => g2 v j hv hj, fun j hj => absurd hj (Nat.not_lt_zero _)⟩
theorem sp_mpart (d : Nat) {h : ab_H} {hap sz op : Int32} {N : Int64} {P : Nat → Int64} {s t : Nat} (h0 : h[84]? = some (mObj hap sz op)) (hP : arrL h 86 12 P) (hs : s < 12) (ht' : t < 12) (hN : ¬ N = lN 0) (h1 : ¬ cnt N 64 = 1) {post : ab_P} (hp : ∀ h', arrL h' 86 12 (va_up (va_up P s (lowN N)) t (uppN N)) → (∀ i, i ≠ 86 → h'[i]? = h[i]?) → post none h') : mCC (d + 6) kSpanStampsModel_part [.ref 84, .long N, .int (nI s), .int (nI t)] h post := by
  have hlt := lsN_lt hN h1
  obtain ⟨k1, k2, k3, k4⟩ := lsN_ok N
  obtain ⟨g, g1, g2⟩ := hP
  refine ⟨rfl, ?_⟩
  show ab_W _ _ _ (0, [.ref 84, .long N, .retAddr 0, .int (nI s), .int (nI t), .retAddr 0, .retAddr 0], [], (0, 0), h)
  refine ab_W.go (mm _) 2 (c' := (2, [.ref 84, .long N, .retAddr 0, .int (nI s), .int (nI t), .retAddr 0, .retAddr 0], [.long N, .int (nI 2)], (0, 0), h)) rfl ?_
  refine ab_W.call (mm _) (k := 75) (av := [.long N]) (c' := (5, [.ref 84, .long N, .retAddr 0, .int (nI s), .int (nI t), .retAddr 0, .retAddr 0], [.int (nI 2)], (0, 0), h)) rfl ?_
  refine mleastSpan _ ?_
  show ab_W _ _ _ (5, [.ref 84, .long N, .retAddr 0, .int (nI s), .int (nI t), .retAddr 0, .retAddr 0], [.int (nI (lsN N)), .int (nI 2)], (0, 0), h)
  refine ab_W.go (mm _) 1 (c' := (6, [.ref 84, .long N, .retAddr 0, .int (nI s), .int (nI t), .retAddr 0, .retAddr 0], [.int ((nI 2) * (nI (lsN N)))], (0, 0), h)) rfl ?_
  refine ab_W.topi (pk_mul 2 (lsN N)) ?_
  refine ab_W.call (mm _) (k := 73) (av := [.int (nI (2 * (lsN N)))]) (c' := (9, [.ref 84, .long N, .retAddr 0, .int (nI s), .int (nI t), .retAddr 0, .retAddr 0], [], (0, 0), h)) rfl ?_
  refine mcellsOf _ (by omega) (by omega) ?_
  show ab_W _ _ _ (9, [.ref 84, .long N, .retAddr 0, .int (nI s), .int (nI t), .retAddr 0, .retAddr 0], [.long (msk (2 * lsN N))], (0, 0), h)
  refine ab_W.go (mm _) 2 (c' := (12, [.ref 84, .long N, .retAddr 0, .int (nI s), .int (nI t), .long (msk (2 * lsN N)), .retAddr 0], [.ref 84], (0, 0), h)) rfl ?_
  refine ab_W.o (mm _) (h0) rfl (c' := (15, [.ref 84, .long N, .retAddr 0, .int (nI s), .int (nI t), .long (msk (2 * lsN N)), .retAddr 0], [.ref 86], (0, 0), h)) rfl ?_
  refine ab_W.go (mm _) 4 (c' := (20, [.ref 84, .long N, .retAddr 0, .int (nI s), .int (nI t), .long (msk (2 * lsN N)), .retAddr 0], [.long (N &&& (msk (2 * lsN N))), .int (nI s), .ref 86], (0, 0), h)) rfl ?_
  refine ab_W.last (mm _) (j := s) (g1) rfl (by omega) rfl rfl ?_
  show ab_W _ _ _ (21, [.ref 84, .long N, .retAddr 0, .int (nI s), .int (nI t), .long (msk (2 * lsN N)), .retAddr 0], [], (0, 0), h.set 86 (.inl (1, 12, .inr (.inl (vp_updL g s (lowN N))))))
  obtain ⟨h1, e1⟩ : ∃ h1, h1 = h.set 86 (.inl (1, 12, .inr (.inl (vp_updL g s (lowN N))))) := ⟨_, rfl⟩
  obtain ⟨g', g1', g2'⟩ : arrL h1 86 12 (va_up P s (lowN N)) := by rw [e1]; exact arrL.put g1 g2
  have k1 : ∀ i, i ≠ 86 → h1[i]? = h[i]? := fun i hi => by rw [e1]; exact set_ne (fun z => hi z.symm)
  refine ab_W.hp (e1.symm) ?_
  show ab_W _ _ _ (21, [.ref 84, .long N, .retAddr 0, .int (nI s), .int (nI t), .long (msk (2 * lsN N)), .retAddr 0], [], (0, 0), h1)
  refine ab_W.go (mm _) 1 (c' := (22, [.ref 84, .long N, .retAddr 0, .int (nI s), .int (nI t), .long (msk (2 * lsN N)), .retAddr 0], [.ref 84], (0, 0), h1)) rfl ?_
  refine ab_W.o (mm _) ((k1 84 (by decide)).trans h0) rfl (c' := (25, [.ref 84, .long N, .retAddr 0, .int (nI s), .int (nI t), .long (msk (2 * lsN N)), .retAddr 0], [.ref 86], (0, 0), h1)) rfl ?_
  refine ab_W.go (mm _) 6 (c' := (35, [.ref 84, .long N, .retAddr 0, .int (nI s), .int (nI t), .long (msk (2 * lsN N)), .retAddr 0], [.long (N &&& ((msk (2 * lsN N)) ^^^ (-(lN 1)))), .int (nI t), .ref 86], (0, 0), h1)) rfl ?_
  refine ab_W.last (mm _) (j := t) (g1') rfl (by omega) rfl rfl ?_
  show ab_W _ _ _ (36, [.ref 84, .long N, .retAddr 0, .int (nI s), .int (nI t), .long (msk (2 * lsN N)), .retAddr 0], [], (0, 0), h1.set 86 (.inl (1, 12, .inr (.inl (vp_updL g' t (uppN N))))))
  refine ab_W.ret (mm _) (v := none) rfl ?_
  exact hp _ (arrL.put g1' g2') (fun i hi => (set_ne (fun z => hi z.symm)).trans (k1 i hi))
