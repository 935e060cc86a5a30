/-! circles of the class -/
abbrev Ci : Type := (Nat → Bool) × (Nat → Int64) × (Nat → Int64) × (Nat → Nat → Int32) × Nat
abbrev pr (c : Ci) : Nat → Bool := c.1
abbrev nm (c : Ci) : Nat → Int64 := c.2.1
abbrev kn (c : Ci) : Nat → Int64 := c.2.2.1
abbrev ht (c : Ci) : Nat → Nat → Int32 := c.2.2.2.1
abbrev hn (c : Ci) : Nat := c.2.2.2.2
def setS (c : Ci) (t : Nat) (p : Bool) (N K : Int64) (f : Nat → Int32) : Ci := (va_up (pr c) t p, va_up (nm c) t N, va_up (kn c) t K, va_up (ht c) t f, hn c)
def cir (h : ab_H) (β : Nat) (c : Ci) : Prop := h[β]? = some (.inr (0, [.ref (β + 1), .int (nI (hn c))])) ∧ (∃ q, h[β + 1]? = some (.inl (3, 12, .inr (.inr (.inr (.inr q))))) ∧ ∀ s, s < 12 → q s = some (β + 2 + 2 * s)) ∧ ∀ s, s < 12 → st_P h (β + 2 + 2 * s) (pr c s) (nm c s) (kn c s) (ht c s)
theorem cir.kept {h h' : ab_H} {β : Nat} {c : Ci} (hc : cir h β c) (hk : ∀ i, β ≤ i → i < β + 26 → h'[i]? = h[i]?) : cir h' β c := by
  obtain ⟨c1, ⟨q, c2, c3⟩, c4⟩ := hc
  refine ⟨by rw [hk β (by omega) (by omega)]; exact c1, ⟨q, by rw [hk (β + 1) (by omega) (by omega)]; exact c2, c3⟩, fun s hs => (c4 s hs).kept (hk _ (by omega) (by omega)) (hk _ (by omega) (by omega))⟩
theorem cir.set {h h' : ab_H} {β t : Nat} {c : Ci} {p : Bool} {N K : Int64} {f : Nat → Int32} (hc : cir h β c) (ht : t < 12) (hs : st_P h' (β + 2 + 2 * t) p N K f) (hk : ∀ i, i ≠ β + 2 + 2 * t → i ≠ β + 2 + 2 * t + 1 → h'[i]? = h[i]?) : cir h' β (setS c t p N K f) := by
  obtain ⟨c1, ⟨q, c2, c3⟩, c4⟩ := hc
  refine ⟨by rw [hk β (by omega) (by omega)]; exact c1, ⟨q, by rw [hk (β + 1) (by omega) (by omega)]; exact c2, c3⟩, fun s hs' => ?_⟩
  by_cases e : s = t
  · subst e
    show st_P h' _ (va_up _ s p s) (va_up _ s N s) (va_up _ s K s) (va_up _ s f s)
    rw [va_up_self, va_up_self, va_up_self, va_up_self]
    exact hs
  · show st_P h' _ (va_up _ t p s) (va_up _ t N s) (va_up _ t K s) (va_up _ t f s)
    rw [va_up_ne _ _ e, va_up_ne _ _ e, va_up_ne _ _ e, va_up_ne _ _ e]
    exact (c4 s hs').kept (hk _ (by omega) (by omega)) (hk _ (by omega) (by omega))
theorem ab_W.aref {F : ab_S → ab_R} {C : ab_C} {post : ab_P} {c : ab_S} (hC : ab_mono C) {h : ab_H} {a n j nx t y : Nat} {i : Int32} {lv r : List Value} {b : Nat × Nat} {g : Nat → Option Nat} (hh : h[a]? = some (.inl (t, n, .inr (.inr (.inr (.inr g)))))) (hq : g j = some y) (hi : i = nI j) (hj : j < n) (hn : Nat.ble n 2147483647 = true) (ht : (Nat.beq t 3 || Nat.beq t 4) = true) (e : F c = ab_aq h a fun t n g => ab_gd ((Nat.beq t 3 || Nat.beq t 4) && ab_in i n) (ab_nx nx lv (va_rf (g i.toNatClampNeg) :: r) b h)) (w : ab_W F C post (nx, lv, .ref y :: r, b, h)) : ab_W F C post c := by
  refine ab_W.aald hC hh hi hj hn ht e ?_
  rw [hq]
  exact w
theorem nI_notneg {s : Nat} (h : s < 2147483648) : ¬ nI s < 0 := nI_pos h
theorem sp_find (d : Nat) {h : ab_H} {β s : Nat} {c : Ci} (hc : cir h β c) (hs : s < 12) (hp1 : pr c s = true) {post : ab_P} (hp : post (some (.ref (β + 2 + 2 * s))) h) : mCC (d + 1) kCircle_find [.ref β, .int (nI s)] h post := by
  obtain ⟨c1, ⟨q, c2, c3⟩, c4⟩ := hc
  have e := (c4 s hs).1
  refine ⟨rfl, ?_⟩
  show ab_W _ _ _ (0, [.ref β, .int (nI s)], [], (0, 0), h)
  refine ab_W.go (mm _) 1 (c' := (1, [.ref β, .int (nI s)], [.int (nI s)], (0, 0), h)) rfl ?_
  refine ab_W.itF (mm _) (p := (nI s) < 0) (c1 := (22, [.ref β, .int (nI s)], [], (0, 0), h)) (c2 := (4, [.ref β, .int (nI s)], [], (0, 0), h)) rfl (nI_notneg (by omega)) ?_
  refine ab_W.go (mm _) 2 (c' := (7, [.ref β, .int (nI s)], [.int (nI 12), .int (nI s)], (0, 0), h)) rfl ?_
  refine ab_W.itF (mm _) (p := (nI 12) ≤ (nI s)) (c1 := (22, [.ref β, .int (nI s)], [], (0, 0), h)) (c2 := (10, [.ref β, .int (nI s)], [], (0, 0), h)) rfl (fun z => absurd ((nI_leI (by omega) (by omega)).mp z) (by omega)) ?_
  refine ab_W.go (mm _) 1 (c' := (11, [.ref β, .int (nI s)], [.ref β], (0, 0), h)) rfl ?_
  refine ab_W.o (mm _) (c1) rfl (c' := (14, [.ref β, .int (nI s)], [.ref (β + 1)], (0, 0), h)) rfl ?_
  refine ab_W.go (mm _) 1 (c' := (15, [.ref β, .int (nI s)], [.int (nI s), .ref (β + 1)], (0, 0), h)) rfl ?_
  refine ab_W.aref (mm _) (j := s) (c2) (c3 s hs) rfl (by omega) rfl rfl rfl ?_
  show ab_W _ _ _ (16, [.ref β, .int (nI s)], [.ref (β + 2 + 2 * s)], (0, 0), h)
  refine ab_W.o (mm _) (e) rfl (c' := (19, [.ref β, .int (nI s)], [.int (b2i (pr c s))], (0, 0), h)) rfl ?_
  refine ab_W.itF (mm _) (p := (b2i (pr c s)) = 0) (c1 := (22, [.ref β, .int (nI s)], [], (0, 0), h)) (c2 := (24, [.ref β, .int (nI s)], [], (0, 0), h)) rfl (fun z => by rw [b2i_0, hp1] at z; cases z) ?_
  refine ab_W.go (mm _) 1 (c' := (25, [.ref β, .int (nI s)], [.ref β], (0, 0), h)) rfl ?_
  refine ab_W.o (mm _) (c1) rfl (c' := (28, [.ref β, .int (nI s)], [.ref (β + 1)], (0, 0), h)) rfl ?_
  refine ab_W.go (mm _) 1 (c' := (29, [.ref β, .int (nI s)], [.int (nI s), .ref (β + 1)], (0, 0), h)) rfl ?_
  refine ab_W.aref (mm _) (j := s) (c2) (c3 s hs) rfl (by omega) rfl rfl rfl ?_
  show ab_W _ _ _ (30, [.ref β, .int (nI s)], [.ref (β + 2 + 2 * s)], (0, 0), h)
  refine ab_W.ret (mm _) (v := (some (.ref (β + 2 + 2 * s)))) rfl ?_
  exact hp
/-- there is no such stamp -/
def noS (c : Ci) (x : Int32) : Prop := x < 0 ∨ nI 12 ≤ x ∨ ∃ s, s < 12 ∧ x = nI s ∧ pr c s = false
theorem stamp_or (c : Ci) (x : Int32) : noS c x ∨ ∃ s, s < 12 ∧ x = nI s ∧ pr c s = true := by
  rcases pk_ix x (n := 12) (by decide) with q | q | ⟨j, j1, j2⟩
  · exact Or.inl (Or.inl q)
  · exact Or.inl (Or.inr (Or.inl q))
  · cases hb : pr c j with
    | true => exact Or.inr ⟨j, j1, j2, hb⟩
    | false => exact Or.inl (Or.inr (Or.inr ⟨j, j1, j2, hb⟩))
theorem sp_findN (d : Nat) {h : ab_H} {β : Nat} {x : Int32} {c : Ci} (hc : cir h β c) (hx : noS c x) {post : ab_P} (hp : post (some .null) h) : mCC (d + 1) kCircle_find [.ref β, .int x] h post := by
  obtain ⟨c1, ⟨q, c2, c3⟩, c4⟩ := hc
  refine ⟨rfl, ?_⟩
  show ab_W _ _ _ (0, [.ref β, .int x], [], (0, 0), h)
  refine ab_W.go (mm _) 1 (c' := (1, [.ref β, .int x], [.int x], (0, 0), h)) rfl ?_
  rcases hx with hx | hx | ⟨s, hs, rfl, hp1⟩
  · skip
    refine ab_W.itT (mm _) (p := x < 0) (c1 := (22, [.ref β, .int x], [], (0, 0), h)) (c2 := (4, [.ref β, .int x], [], (0, 0), h)) rfl (hx) ?_
    refine ab_W.go (mm _) 1 (c' := (23, [.ref β, .int x], [.null], (0, 0), h)) rfl ?_
    refine ab_W.ret (mm _) (v := (some (.null))) rfl ?_
    exact hp
  · have h0 : ¬ x < 0 := by
      intro z
      have h1 : nI 12 < 0 := Int32.lt_of_le_of_lt hx z
      exact absurd h1 (by decide)
    refine ab_W.itF (mm _) (p := x < 0) (c1 := (22, [.ref β, .int x], [], (0, 0), h)) (c2 := (4, [.ref β, .int x], [], (0, 0), h)) rfl (h0) ?_
    refine ab_W.go (mm _) 2 (c' := (7, [.ref β, .int x], [.int (nI 12), .int x], (0, 0), h)) rfl ?_
    refine ab_W.itT (mm _) (p := (nI 12) ≤ x) (c1 := (22, [.ref β, .int x], [], (0, 0), h)) (c2 := (10, [.ref β, .int x], [], (0, 0), h)) rfl (hx) ?_
    refine ab_W.go (mm _) 1 (c' := (23, [.ref β, .int x], [.null], (0, 0), h)) rfl ?_
    refine ab_W.ret (mm _) (v := (some (.null))) rfl ?_
    exact hp
  · have e := (c4 s hs).1
    refine ab_W.itF (mm _) (p := (nI s) < 0) (c1 := (22, [.ref β, .int (nI s)], [], (0, 0), h)) (c2 := (4, [.ref β, .int (nI s)], [], (0, 0), h)) rfl (nI_notneg (by omega)) ?_
    refine ab_W.go (mm _) 2 (c' := (7, [.ref β, .int (nI s)], [.int (nI 12), .int (nI s)], (0, 0), h)) rfl ?_
    refine ab_W.itF (mm _) (p := (nI 12) ≤ (nI s)) (c1 := (22, [.ref β, .int (nI s)], [], (0, 0), h)) (c2 := (10, [.ref β, .int (nI s)], [], (0, 0), h)) rfl (fun z => absurd ((nI_leI (by omega) (by omega)).mp z) (by omega)) ?_
    refine ab_W.go (mm _) 1 (c' := (11, [.ref β, .int (nI s)], [.ref β], (0, 0), h)) rfl ?_
    refine ab_W.o (mm _) (c1) rfl (c' := (14, [.ref β, .int (nI s)], [.ref (β + 1)], (0, 0), h)) rfl ?_
    refine ab_W.go (mm _) 1 (c' := (15, [.ref β, .int (nI s)], [.int (nI s), .ref (β + 1)], (0, 0), h)) rfl ?_
    refine ab_W.aref (mm _) (j := s) (c2) (c3 s hs) rfl (by omega) rfl rfl rfl ?_
    show ab_W _ _ _ (16, [.ref β, .int (nI s)], [.ref (β + 2 + 2 * s)], (0, 0), h)
    refine ab_W.o (mm _) (e) rfl (c' := (19, [.ref β, .int (nI s)], [.int (b2i (pr c s))], (0, 0), h)) rfl ?_
    refine ab_W.itT (mm _) (p := (b2i (pr c s)) = 0) (c1 := (22, [.ref β, .int (nI s)], [], (0, 0), h)) (c2 := (24, [.ref β, .int (nI s)], [], (0, 0), h)) rfl (b2i_0.mpr hp1) ?_
    refine ab_W.go (mm _) 1 (c' := (23, [.ref β, .int (nI s)], [.null], (0, 0), h)) rfl ?_
    refine ab_W.ret (mm _) (v := (some (.null))) rfl ?_
    exact hp
/-- the first free place -/
def free1 (c : Ci) (t : Nat) : Prop := t < 12 ∧ pr c t = false ∧ ∀ j, j < t → pr c j = true
theorem free_or (c : Ci) : (∃ t, free1 c t) ∨ ∀ s, s < 12 → pr c s = true := by
  by_cases h : ∃ t, t < 12 ∧ pr c t = false
  · obtain ⟨t, ⟨t1, t2⟩, t3⟩ := pk_least (fun t => t < 12 ∧ pr c t = false) h
    refine Or.inl ⟨t, t1, t2, fun j hj => ?_⟩
    cases hb : pr c j with
    | true => rfl
    | false => exact absurd ⟨by omega, hb⟩ (t3 j hj)
  · refine Or.inr fun s hs => ?_
    cases hb : pr c s with
    | true => rfl
    | false => exact absurd ⟨s, hs, hb⟩ h
theorem sp_addLike (d : Nat) {h : ab_H} {β s t : Nat} {c : Ci} {N : Int64} (hc : cir h β c) (hs : s < 12) (hp1 : pr c s = true) (hf : free1 c t) {post : ab_P} (hp : ∀ h', cir h' β (setS c t true N (kn c s) (ht c s)) → (∀ i, i < β ∨ β + 26 ≤ i → h'[i]? = h[i]?) → post (some (.int (nI t))) h') : mCC (d + 2) kCircle_addLike [.ref β, .ref (β + 2 + 2 * s), .long N] h post := by
  obtain ⟨c1, ⟨q, c2, c3⟩, c4⟩ := id hc
  obtain ⟨t1, t2, t3⟩ := hf
  have hne : s ≠ t := fun z => by rw [z, t2] at hp1; cases hp1
  have loop : ∀ j, j ≤ t → ab_W (ab_st (mT kCircle_addLike) mB mF (mR kCircle_addLike) none) (mCC (d + 1)) post (3, [.ref β, .ref (β + 2 + 2 * s), .long N, .retAddr 0, .int (nI j)], [], (0, 0), h) := by
    refine down t ?_ ?_
    · have e := (c4 t t1).1
      refine ab_W.go (mm _) 2 (c' := (7, [.ref β, .ref (β + 2 + 2 * s), .long N, .retAddr 0, .int (nI t)], [.int (nI 12), .int (nI t)], (0, 0), h)) rfl ?_
      refine ab_W.itF (mm _) (p := (nI 12) ≤ (nI t)) (c1 := (54, [.ref β, .ref (β + 2 + 2 * s), .long N, .retAddr 0, .int (nI t)], [], (0, 0), h)) (c2 := (10, [.ref β, .ref (β + 2 + 2 * s), .long N, .retAddr 0, .int (nI t)], [], (0, 0), h)) rfl (fun z => absurd ((nI_leI (by omega) (by omega)).mp z) (by omega)) ?_
      refine ab_W.go (mm _) 1 (c' := (11, [.ref β, .ref (β + 2 + 2 * s), .long N, .retAddr 0, .int (nI t)], [.ref β], (0, 0), h)) rfl ?_
      refine ab_W.o (mm _) (c1) rfl (c' := (14, [.ref β, .ref (β + 2 + 2 * s), .long N, .retAddr 0, .int (nI t)], [.ref (β + 1)], (0, 0), h)) rfl ?_
      refine ab_W.go (mm _) 1 (c' := (16, [.ref β, .ref (β + 2 + 2 * s), .long N, .retAddr 0, .int (nI t)], [.int (nI t), .ref (β + 1)], (0, 0), h)) rfl ?_
      refine ab_W.aref (mm _) (j := t) (c2) (c3 t t1) rfl (by omega) rfl rfl rfl ?_
      show ab_W _ _ _ (17, [.ref β, .ref (β + 2 + 2 * s), .long N, .retAddr 0, .int (nI t)], [.ref (β + 2 + 2 * t)], (0, 0), h)
      refine ab_W.o (mm _) (e) rfl (c' := (20, [.ref β, .ref (β + 2 + 2 * s), .long N, .retAddr 0, .int (nI t)], [.int (b2i (pr c t))], (0, 0), h)) rfl ?_
      refine ab_W.itT (mm _) (p := (b2i (pr c t)) = 0) (c1 := (23, [.ref β, .ref (β + 2 + 2 * s), .long N, .retAddr 0, .int (nI t)], [], (0, 0), h)) (c2 := (48, [.ref β, .ref (β + 2 + 2 * s), .long N, .retAddr 0, .int (nI t)], [], (0, 0), h)) rfl (b2i_0.mpr t2) ?_
      refine ab_W.go (mm _) 1 (c' := (24, [.ref β, .ref (β + 2 + 2 * s), .long N, .retAddr 0, .int (nI t)], [.ref β], (0, 0), h)) rfl ?_
      refine ab_W.o (mm _) (c1) rfl (c' := (27, [.ref β, .ref (β + 2 + 2 * s), .long N, .retAddr 0, .int (nI t)], [.ref (β + 1)], (0, 0), h)) rfl ?_
      refine ab_W.go (mm _) 1 (c' := (29, [.ref β, .ref (β + 2 + 2 * s), .long N, .retAddr 0, .int (nI t)], [.int (nI t), .ref (β + 1)], (0, 0), h)) rfl ?_
      refine ab_W.aref (mm _) (j := t) (c2) (c3 t t1) rfl (by omega) rfl rfl rfl ?_
      show ab_W _ _ _ (30, [.ref β, .ref (β + 2 + 2 * s), .long N, .retAddr 0, .int (nI t)], [.ref (β + 2 + 2 * t)], (0, 0), h)
      refine ab_W.go (mm _) 1 (c' := (31, [.ref β, .ref (β + 2 + 2 * s), .long N, .retAddr 0, .int (nI t)], [.ref (β + 2 + 2 * s), .ref (β + 2 + 2 * t)], (0, 0), h)) rfl ?_
      refine ab_W.callV (mm _) (e) rfl (k := 38) (av := [.ref (β + 2 + 2 * t), .ref (β + 2 + 2 * s)]) (c' := (34, [.ref β, .ref (β + 2 + 2 * s), .long N, .retAddr 0, .int (nI t)], [], (0, 0), h)) rfl ?_
      refine sp_scopy d (c4 t t1) (c4 s hs) (by omega) (by omega) (by omega) (fun h1 s1 k1 => ?_)
      have d1 := (k1 β (by omega) (by omega)).trans c1
      have d2 := (k1 (β + 1) (by omega) (by omega)).trans c2
      obtain ⟨s2, g, s3, s4⟩ := s1
      rw [hp1] at s2
      show ab_W _ _ _ (34, [.ref β, .ref (β + 2 + 2 * s), .long N, .retAddr 0, .int (nI t)], [], (0, 0), h1)
      refine ab_W.go (mm _) 1 (c' := (35, [.ref β, .ref (β + 2 + 2 * s), .long N, .retAddr 0, .int (nI t)], [.ref β], (0, 0), h1)) rfl ?_
      refine ab_W.o (mm _) (d1) rfl (c' := (38, [.ref β, .ref (β + 2 + 2 * s), .long N, .retAddr 0, .int (nI t)], [.ref (β + 1)], (0, 0), h1)) rfl ?_
      refine ab_W.go (mm _) 1 (c' := (40, [.ref β, .ref (β + 2 + 2 * s), .long N, .retAddr 0, .int (nI t)], [.int (nI t), .ref (β + 1)], (0, 0), h1)) rfl ?_
      refine ab_W.aref (mm _) (j := t) (d2) (c3 t t1) rfl (by omega) rfl rfl rfl ?_
      show ab_W _ _ _ (41, [.ref β, .ref (β + 2 + 2 * s), .long N, .retAddr 0, .int (nI t)], [.ref (β + 2 + 2 * t)], (0, 0), h1)
      refine ab_W.go (mm _) 1 (c' := (42, [.ref β, .ref (β + 2 + 2 * s), .long N, .retAddr 0, .int (nI t)], [.long N, .ref (β + 2 + 2 * t)], (0, 0), h1)) rfl ?_
      refine ab_W.o (mm _) (s2) rfl (c' := (45, [.ref β, .ref (β + 2 + 2 * s), .long N, .retAddr 0, .int (nI t)], [], (0, 0), h1.set (β + 2 + 2 * t) (.inr (3, [.int (b2i true), .long N, .long (kn c s), .ref (β + 2 + 2 * t + 1)])))) rfl ?_
      refine ab_W.go (mm _) 1 (c' := (47, [.ref β, .ref (β + 2 + 2 * s), .long N, .retAddr 0, .int (nI t)], [.int (nI t)], (0, 0), h1.set (β + 2 + 2 * t) (.inr (3, [.int (b2i true), .long N, .long (kn c s), .ref (β + 2 + 2 * t + 1)])))) rfl ?_
      refine ab_W.retI (mm _) (rt := some .int) (v := nI t) rfl rfl ?_
      refine hp _ (hc.set t1 ⟨set_at s2, g, (set_ne (by omega)).trans s3, s4⟩ (fun i i1 i2 => (set_ne (fun z => i1 z.symm)).trans (k1 i i1 i2))) (fun i hi => (set_ne (by omega)).trans (k1 i (by omega) (by omega)))
    · intro j hj ih
      have e := (c4 j (by omega)).1
      refine ab_W.go (mm _) 2 (c' := (7, [.ref β, .ref (β + 2 + 2 * s), .long N, .retAddr 0, .int (nI j)], [.int (nI 12), .int (nI j)], (0, 0), h)) rfl ?_
      refine ab_W.itF (mm _) (p := (nI 12) ≤ (nI j)) (c1 := (54, [.ref β, .ref (β + 2 + 2 * s), .long N, .retAddr 0, .int (nI j)], [], (0, 0), h)) (c2 := (10, [.ref β, .ref (β + 2 + 2 * s), .long N, .retAddr 0, .int (nI j)], [], (0, 0), h)) rfl (fun z => absurd ((nI_leI (by omega) (by omega)).mp z) (by omega)) ?_
      refine ab_W.go (mm _) 1 (c' := (11, [.ref β, .ref (β + 2 + 2 * s), .long N, .retAddr 0, .int (nI j)], [.ref β], (0, 0), h)) rfl ?_
      refine ab_W.o (mm _) (c1) rfl (c' := (14, [.ref β, .ref (β + 2 + 2 * s), .long N, .retAddr 0, .int (nI j)], [.ref (β + 1)], (0, 0), h)) rfl ?_
      refine ab_W.go (mm _) 1 (c' := (16, [.ref β, .ref (β + 2 + 2 * s), .long N, .retAddr 0, .int (nI j)], [.int (nI j), .ref (β + 1)], (0, 0), h)) rfl ?_
      refine ab_W.aref (mm _) (j := j) (c2) (c3 j (by omega)) rfl (by omega) rfl rfl rfl ?_
      show ab_W _ _ _ (17, [.ref β, .ref (β + 2 + 2 * s), .long N, .retAddr 0, .int (nI j)], [.ref (β + 2 + 2 * j)], (0, 0), h)
      refine ab_W.o (mm _) (e) rfl (c' := (20, [.ref β, .ref (β + 2 + 2 * s), .long N, .retAddr 0, .int (nI j)], [.int (b2i (pr c j))], (0, 0), h)) rfl ?_
      refine ab_W.itF (mm _) (p := (b2i (pr c j)) = 0) (c1 := (23, [.ref β, .ref (β + 2 + 2 * s), .long N, .retAddr 0, .int (nI j)], [], (0, 0), h)) (c2 := (48, [.ref β, .ref (β + 2 + 2 * s), .long N, .retAddr 0, .int (nI j)], [], (0, 0), h)) rfl (fun z => by rw [b2i_0, t3 j hj] at z; cases z) ?_
      refine ab_W.go (mm _) 1 (c' := (51, [.ref β, .ref (β + 2 + 2 * s), .long N, .retAddr 0, .int (nI j + nI 1)], [], (0, 0), h)) rfl ?_
      rw [nI_add j 1]
      refine ab_W.go (mm _) 1 (c' := (3, [.ref β, .ref (β + 2 + 2 * s), .long N, .retAddr 0, .int (nI (j + 1))], [], (0, 0), h)) rfl ?_
      exact ih
  refine ⟨rfl, ?_⟩
  show ab_W _ _ _ (0, [.ref β, .ref (β + 2 + 2 * s), .long N, .retAddr 0, .retAddr 0], [], (0, 0), h)
  refine ab_W.go (mm _) 2 (c' := (3, [.ref β, .ref (β + 2 + 2 * s), .long N, .retAddr 0, .int (nI 0)], [], (0, 0), h)) rfl ?_
  exact loop 0 (Nat.zero_le _)
theorem sp_addLikeN (d : Nat) {h : ab_H} {β a : Nat} {c : Ci} {N : Int64} (hc : cir h β c) (hf : ∀ s, s < 12 → pr c s = true) {post : ab_P} (hp : post (some (.int (-(nI 4)))) h) : mCC (d + 2) kCircle_addLike [.ref β, .ref a, .long N] h post := by
  obtain ⟨c1, ⟨q, c2, c3⟩, c4⟩ := hc
  have loop : ∀ j, j ≤ 12 → ab_W (ab_st (mT kCircle_addLike) mB mF (mR kCircle_addLike) none) (mCC (d + 1)) post (3, [.ref β, .ref a, .long N, .retAddr 0, .int (nI j)], [], (0, 0), h) := by
    refine down 12 ?_ ?_
    · skip
      refine ab_W.go (mm _) 2 (c' := (7, [.ref β, .ref a, .long N, .retAddr 0, .int (nI 12)], [.int (nI 12), .int (nI 12)], (0, 0), h)) rfl ?_
      refine ab_W.itT (mm _) (p := (nI 12) ≤ (nI 12)) (c1 := (54, [.ref β, .ref a, .long N, .retAddr 0, .int (nI 12)], [], (0, 0), h)) (c2 := (10, [.ref β, .ref a, .long N, .retAddr 0, .int (nI 12)], [], (0, 0), h)) rfl ((by decide)) ?_
      refine ab_W.go (mm _) 1 (c' := (56, [.ref β, .ref a, .long N, .retAddr 0, .int (nI 12)], [.int (-(nI 4))], (0, 0), h)) rfl ?_
      refine ab_W.retI (mm _) (rt := some .int) (v := -(nI 4)) rfl rfl ?_
      exact hp
    · intro j hj ih
      have e := (c4 j (by omega)).1
      refine ab_W.go (mm _) 2 (c' := (7, [.ref β, .ref a, .long N, .retAddr 0, .int (nI j)], [.int (nI 12), .int (nI j)], (0, 0), h)) rfl ?_
      refine ab_W.itF (mm _) (p := (nI 12) ≤ (nI j)) (c1 := (54, [.ref β, .ref a, .long N, .retAddr 0, .int (nI j)], [], (0, 0), h)) (c2 := (10, [.ref β, .ref a, .long N, .retAddr 0, .int (nI j)], [], (0, 0), h)) rfl (fun z => absurd ((nI_leI (by omega) (by omega)).mp z) (by omega)) ?_
      refine ab_W.go (mm _) 1 (c' := (11, [.ref β, .ref a, .long N, .retAddr 0, .int (nI j)], [.ref β], (0, 0), h)) rfl ?_
      refine ab_W.o (mm _) (c1) rfl (c' := (14, [.ref β, .ref a, .long N, .retAddr 0, .int (nI j)], [.ref (β + 1)], (0, 0), h)) rfl ?_
      refine ab_W.go (mm _) 1 (c' := (16, [.ref β, .ref a, .long N, .retAddr 0, .int (nI j)], [.int (nI j), .ref (β + 1)], (0, 0), h)) rfl ?_
      refine ab_W.aref (mm _) (j := j) (c2) (c3 j (by omega)) rfl (by omega) rfl rfl rfl ?_
      show ab_W _ _ _ (17, [.ref β, .ref a, .long N, .retAddr 0, .int (nI j)], [.ref (β + 2 + 2 * j)], (0, 0), h)
      refine ab_W.o (mm _) (e) rfl (c' := (20, [.ref β, .ref a, .long N, .retAddr 0, .int (nI j)], [.int (b2i (pr c j))], (0, 0), h)) rfl ?_
      refine ab_W.itF (mm _) (p := (b2i (pr c j)) = 0) (c1 := (23, [.ref β, .ref a, .long N, .retAddr 0, .int (nI j)], [], (0, 0), h)) (c2 := (48, [.ref β, .ref a, .long N, .retAddr 0, .int (nI j)], [], (0, 0), h)) rfl (fun z => by rw [b2i_0, hf j hj] at z; cases z) ?_
      refine ab_W.go (mm _) 1 (c' := (51, [.ref β, .ref a, .long N, .retAddr 0, .int (nI j + nI 1)], [], (0, 0), h)) rfl ?_
      rw [nI_add j 1]
      refine ab_W.go (mm _) 1 (c' := (3, [.ref β, .ref a, .long N, .retAddr 0, .int (nI (j + 1))], [], (0, 0), h)) rfl ?_
      exact ih
  refine ⟨rfl, ?_⟩
  show ab_W _ _ _ (0, [.ref β, .ref a, .long N, .retAddr 0, .retAddr 0], [], (0, 0), h)
  refine ab_W.go (mm _) 2 (c' := (3, [.ref β, .ref a, .long N, .retAddr 0, .int (nI 0)], [], (0, 0), h)) rfl ?_
  exact loop 0 (Nat.zero_le _)
/-! how many there are, and their set -/
def mkN (p : Nat → Bool) : Nat → Nat
  | 0 => 0
  | s + 1 => mkN p s + (if p s = true then 2 ^ s else 0)
def cb (p : Nat → Bool) : Nat → Nat
  | 0 => 0
  | s + 1 => cb p s + (if p s = true then 1 else 0)
theorem mkN_lt (p : Nat → Bool) : ∀ s, mkN p s < 2 ^ s := by
  intro s
  induction s with
  | zero => show 0 < 1; decide
  | succ s ih =>
    show mkN p s + (if p s = true then 2 ^ s else 0) < 2 ^ (s + 1)
    rw [Nat.pow_succ]
    split <;> omega
theorem mkN_t {p : Nat → Bool} {s : Nat} (h : p s = true) : mkN p (s + 1) = mkN p s + 2 ^ s := by
  show mkN p s + (if p s = true then 2 ^ s else 0) = _
  rw [if_pos h]
theorem mkN_f {p : Nat → Bool} {s : Nat} (h : p s = false) : mkN p (s + 1) = mkN p s := by
  show mkN p s + (if p s = true then 2 ^ s else 0) = _
  rw [if_neg (by rw [h]; decide)]
  rfl
theorem cb_t {p : Nat → Bool} {s : Nat} (h : p s = true) : cb p (s + 1) = cb p s + 1 := by
  show cb p s + (if p s = true then 1 else 0) = _
  rw [if_pos h]
theorem cb_f {p : Nat → Bool} {s : Nat} (h : p s = false) : cb p (s + 1) = cb p s := by
  show cb p s + (if p s = true then 1 else 0) = _
  rw [if_neg (by rw [h]; decide)]
  rfl
theorem cntB_low {a b s : Nat} : ∀ i, i ≤ s → cntB (a + 2 ^ s * b) i = cntB a i := by
  intro i
  induction i with
  | zero => intro _; rfl
  | succ i ih =>
    intro hi
    show cntB (a + 2 ^ s * b) i + (a + 2 ^ s * b) / 2 ^ i % 2 = cntB a i + a / 2 ^ i % 2
    rw [ih (by omega)]
    have e : 2 ^ s * b = 2 ^ i * (2 * (2 ^ (s - i - 1) * b)) := by
      rw [← Nat.mul_assoc, ← Nat.mul_assoc, Nat.mul_assoc (2 ^ i) 2, ← Nat.pow_succ', ← Nat.pow_add]
      congr 2
      omega
    rw [e, Nat.add_mul_div_left _ _ (Nat.two_pow_pos i), Nat.add_mul_mod_self_left]
theorem cntB_mkN (p : Nat → Bool) : ∀ s, cntB (mkN p s) s = cb p s := by
  intro s
  induction s with
  | zero => rfl
  | succ s ih =>
    have hlt := mkN_lt p s
    cases hb : p s with
    | true =>
      rw [mkN_t hb, cb_t hb]
      show cntB (mkN p s + 2 ^ s) s + (mkN p s + 2 ^ s) / 2 ^ s % 2 = _
      have e := cntB_low (a := mkN p s) (b := 1) (s := s) s (Nat.le_refl _)
      rw [Nat.mul_one] at e
      rw [e, ih, Nat.add_div_right _ (Nat.two_pow_pos s), Nat.div_eq_of_lt hlt]
    | false =>
      rw [mkN_f hb, cb_f hb]
      show cntB (mkN p s) s + mkN p s / 2 ^ s % 2 = _
      rw [ih, Nat.div_eq_of_lt hlt]
      rfl
theorem or_pow : ∀ s, s < 12 → ∀ a, a < 2 ^ s → (nI a ||| (nI 1 <<< (nI s &&& 31))) = nI (a + 2 ^ s) := by decide +kernel
theorem sp_numbers (d : Nat) {h : ab_H} {β : Nat} {c : Ci} (hc : cir h β c) {post : ab_P} (hp : post (some (.int (nI (mkN (pr c) 12)))) h) : mCC (d + 1) kCircle_numbersInUse [.ref β] h post := by
  obtain ⟨c1, ⟨q, c2, c3⟩, c4⟩ := hc
  have loop : ∀ s, s ≤ 12 → ab_W (ab_st (mT kCircle_numbersInUse) mB mF (mR kCircle_numbersInUse) none) (mCC d) post (4, [.ref β, .int (nI (mkN (pr c) s)), .int (nI s)], [], (0, 0), h) := by
    refine down 12 ?_ ?_
    · skip
      refine ab_W.go (mm _) 2 (c' := (7, [.ref β, .int (nI (mkN (pr c) 12)), .int (nI 12)], [.int (nI 12), .int (nI 12)], (0, 0), h)) rfl ?_
      refine ab_W.itT (mm _) (p := (nI 12) ≤ (nI 12)) (c1 := (34, [.ref β, .int (nI (mkN (pr c) 12)), .int (nI 12)], [], (0, 0), h)) (c2 := (10, [.ref β, .int (nI (mkN (pr c) 12)), .int (nI 12)], [], (0, 0), h)) rfl ((by decide)) ?_
      refine ab_W.go (mm _) 1 (c' := (35, [.ref β, .int (nI (mkN (pr c) 12)), .int (nI 12)], [.int (nI (mkN (pr c) 12))], (0, 0), h)) rfl ?_
      refine ab_W.retI (mm _) (rt := some .int) (v := nI (mkN (pr c) 12)) rfl rfl ?_
      exact hp
    · intro s hs ih
      have e := (c4 s hs).1
      refine ab_W.go (mm _) 2 (c' := (7, [.ref β, .int (nI (mkN (pr c) s)), .int (nI s)], [.int (nI 12), .int (nI s)], (0, 0), h)) rfl ?_
      refine ab_W.itF (mm _) (p := (nI 12) ≤ (nI s)) (c1 := (34, [.ref β, .int (nI (mkN (pr c) s)), .int (nI s)], [], (0, 0), h)) (c2 := (10, [.ref β, .int (nI (mkN (pr c) s)), .int (nI s)], [], (0, 0), h)) rfl (fun z => absurd ((nI_leI (by omega) (by omega)).mp z) (by omega)) ?_
      refine ab_W.go (mm _) 1 (c' := (11, [.ref β, .int (nI (mkN (pr c) s)), .int (nI s)], [.ref β], (0, 0), h)) rfl ?_
      refine ab_W.o (mm _) (c1) rfl (c' := (14, [.ref β, .int (nI (mkN (pr c) s)), .int (nI s)], [.ref (β + 1)], (0, 0), h)) rfl ?_
      refine ab_W.go (mm _) 1 (c' := (15, [.ref β, .int (nI (mkN (pr c) s)), .int (nI s)], [.int (nI s), .ref (β + 1)], (0, 0), h)) rfl ?_
      refine ab_W.aref (mm _) (j := s) (c2) (c3 s hs) rfl (by omega) rfl rfl rfl ?_
      show ab_W _ _ _ (16, [.ref β, .int (nI (mkN (pr c) s)), .int (nI s)], [.ref (β + 2 + 2 * s)], (0, 0), h)
      refine ab_W.o (mm _) (e) rfl (c' := (19, [.ref β, .int (nI (mkN (pr c) s)), .int (nI s)], [.int (b2i (pr c s))], (0, 0), h)) rfl ?_
      refine ab_W.ite (mm _) (p := (b2i (pr c s)) = 0) (c1 := (28, [.ref β, .int (nI (mkN (pr c) s)), .int (nI s)], [], (0, 0), h)) (c2 := (22, [.ref β, .int (nI (mkN (pr c) s)), .int (nI s)], [], (0, 0), h)) rfl (fun q => ?_) (fun q => ?_)
      · skip
        rw [mkN_f (b2i_0.mp q)] at ih
        refine ab_W.go (mm _) 1 (c' := (31, [.ref β, .int (nI (mkN (pr c) s)), .int (nI s + nI 1)], [], (0, 0), h)) rfl ?_
        rw [nI_add s 1]
        refine ab_W.go (mm _) 1 (c' := (4, [.ref β, .int (nI (mkN (pr c) s)), .int (nI (s + 1))], [], (0, 0), h)) rfl ?_
        exact ih
      · skip
        have q : pr c s = true := by
          cases hb : pr c s with
          | true => rfl
          | false => exact absurd (b2i_0.mpr hb) q
        rw [mkN_t q] at ih
        refine ab_W.go (mm _) 5 (c' := (27, [.ref β, .int (nI (mkN (pr c) s)), .int (nI s)], [.int ((nI (mkN (pr c) s)) ||| ((nI 1) <<< ((nI s) &&& 31)))], (0, 0), h)) rfl ?_
        refine ab_W.topi (or_pow s hs _ (mkN_lt _ s)) ?_
        refine ab_W.go (mm _) 2 (c' := (31, [.ref β, .int (nI (mkN (pr c) s + 2 ^ s)), .int (nI s + nI 1)], [], (0, 0), h)) rfl ?_
        rw [nI_add s 1]
        refine ab_W.go (mm _) 1 (c' := (4, [.ref β, .int (nI (mkN (pr c) s + 2 ^ s)), .int (nI (s + 1))], [], (0, 0), h)) rfl ?_
        exact ih
  refine ⟨rfl, ?_⟩
  show ab_W _ _ _ (0, [.ref β, .retAddr 0, .retAddr 0], [], (0, 0), h)
  refine ab_W.go (mm _) 4 (c' := (4, [.ref β, .int (nI 0), .int (nI 0)], [], (0, 0), h)) rfl ?_
  exact loop 0 (Nat.zero_le _)
def ib1 (x : Int32) : Int32 := x - ((x.toUInt32 >>> ((nI 1).toUInt32 &&& Int32.toUInt32 31)).toInt32 &&& nI 1431655765)
def ib2 (x : Int32) : Int32 := (x &&& nI 858993459) + ((x.toUInt32 >>> ((nI 2).toUInt32 &&& Int32.toUInt32 31)).toInt32 &&& nI 858993459)
def ib3 (x : Int32) : Int32 := (x + (x.toUInt32 >>> ((nI 4).toUInt32 &&& Int32.toUInt32 31)).toInt32) &&& nI 252645135
def ib4 (x : Int32) : Int32 := x + (x.toUInt32 >>> ((nI 8).toUInt32 &&& Int32.toUInt32 31)).toInt32
def ib5 (x : Int32) : Int32 := x + (x.toUInt32 >>> ((nI 16).toUInt32 &&& Int32.toUInt32 31)).toInt32
theorem ib_ok' : ∀ a, a < 64 → ∀ b, b < 64 → (ib5 (ib4 (ib3 (ib2 (ib1 (nI (64 * a + b))))))) &&& nI 63 = nI (cntB (64 * a + b) 12) := by decide +kernel
theorem ib_ok (m : Nat) (hm : m < 4096) : (ib5 (ib4 (ib3 (ib2 (ib1 (nI m)))))) &&& nI 63 = nI (cntB m 12) := by
  have := ib_ok' (m / 64) (by omega) (m % 64) (by omega)
  rw [Nat.div_add_mod] at this
  exact this
theorem sp_ibc (d : Nat) {h : ab_H} {m : Nat} (hm : m < 4096) {post : ab_P} (hp : post (some (.int (nI (cntB m 12)))) h) : mCC (d + 1) kInteger_bitCount [.int (nI m)] h post := by
  refine ⟨rfl, ?_⟩
  show ab_W _ _ _ (0, [.int (nI m)], [], (0, 0), h)
  refine ab_W.go (mm _) 7 (c' := (9, [.int (nI m)], [.int ((nI m) - ((((nI m).toUInt32 >>> ((nI 1).toUInt32 &&& Int32.toUInt32 31)).toInt32) &&& (nI 1431655765)))], (0, 0), h)) rfl ?_
  refine ab_W.topi ((rfl : _ = ib1 (nI m))) ?_
  refine ab_W.go (mm _) 10 (c' := (23, [.int (ib1 (nI m))], [.int (((ib1 (nI m)) &&& (nI 858993459)) + ((((ib1 (nI m)).toUInt32 >>> ((nI 2).toUInt32 &&& Int32.toUInt32 31)).toInt32) &&& (nI 858993459)))], (0, 0), h)) rfl ?_
  refine ab_W.topi ((rfl : _ = ib2 (ib1 (nI m)))) ?_
  refine ab_W.go (mm _) 8 (c' := (33, [.int (ib2 (ib1 (nI m)))], [.int (((ib2 (ib1 (nI m))) + (((ib2 (ib1 (nI m))).toUInt32 >>> ((nI 4).toUInt32 &&& Int32.toUInt32 31)).toInt32)) &&& (nI 252645135))], (0, 0), h)) rfl ?_
  refine ab_W.topi ((rfl : _ = ib3 (ib2 (ib1 (nI m))))) ?_
  refine ab_W.go (mm _) 6 (c' := (40, [.int (ib3 (ib2 (ib1 (nI m))))], [.int ((ib3 (ib2 (ib1 (nI m)))) + (((ib3 (ib2 (ib1 (nI m)))).toUInt32 >>> ((nI 8).toUInt32 &&& Int32.toUInt32 31)).toInt32))], (0, 0), h)) rfl ?_
  refine ab_W.topi ((rfl : _ = ib4 (ib3 (ib2 (ib1 (nI m)))))) ?_
  refine ab_W.go (mm _) 6 (c' := (47, [.int (ib4 (ib3 (ib2 (ib1 (nI m)))))], [.int ((ib4 (ib3 (ib2 (ib1 (nI m))))) + (((ib4 (ib3 (ib2 (ib1 (nI m))))).toUInt32 >>> ((nI 16).toUInt32 &&& Int32.toUInt32 31)).toInt32))], (0, 0), h)) rfl ?_
  refine ab_W.topi ((rfl : _ = ib5 (ib4 (ib3 (ib2 (ib1 (nI m))))))) ?_
  refine ab_W.go (mm _) 4 (c' := (52, [.int (ib5 (ib4 (ib3 (ib2 (ib1 (nI m))))))], [.int ((ib5 (ib4 (ib3 (ib2 (ib1 (nI m)))))) &&& (nI 63))], (0, 0), h)) rfl ?_
  refine ab_W.topi (ib_ok m hm) ?_
  refine ab_W.retI (mm _) (rt := some .int) (v := nI (cntB m 12)) rfl rfl ?_
  exact hp
theorem sp_howMany (d : Nat) {h : ab_H} {β : Nat} {c : Ci} (hc : cir h β c) {post : ab_P} (hp : post (some (.int (nI (cb (pr c) 12)))) h) : mCC (d + 2) kCircle_howMany [.ref β] h post := by
  refine ⟨rfl, ?_⟩
  show ab_W _ _ _ (0, [.ref β], [], (0, 0), h)
  refine ab_W.go (mm _) 1 (c' := (1, [.ref β], [.ref β], (0, 0), h)) rfl ?_
  refine ab_W.callV (mm _) (hc.1) rfl (k := 3) (av := [.ref β]) (c' := (4, [.ref β], [], (0, 0), h)) rfl ?_
  refine sp_numbers _ hc ?_
  show ab_W _ _ _ (4, [.ref β], [.int (nI (mkN (pr c) 12))], (0, 0), h)
  refine ab_W.call (mm _) (k := 121) (av := [.int (nI (mkN (pr c) 12))]) (c' := (7, [.ref β], [], (0, 0), h)) rfl ?_
  refine sp_ibc _ (mkN_lt (pr c) 12) ?_
  show ab_W _ _ _ (7, [.ref β], [.int (nI (cntB (mkN (pr c) 12) 12))], (0, 0), h)
  rw [cntB_mkN]
  refine ab_W.retI (mm _) (rt := some .int) (v := nI (cb (pr c) 12)) rfl rfl ?_
  exact hp
/-- copying a circle -/
theorem sp_ccopy (d : Nat) {h : ab_H} {β γ : Nat} {c k : Ci} (hc : cir h β c) (hk : cir h γ k) (ha : β + 26 ≤ γ ∨ γ + 26 ≤ β) {post : ab_P} (hp : ∀ h', cir h' β k → (∀ i, i < β ∨ β + 26 ≤ i → h'[i]? = h[i]?) → post none h') : mCC (d + 2) kCircle_copyFrom [.ref β, .ref γ] h post := by
  obtain ⟨c1, ⟨q, c2, c3⟩, c4⟩ := hc
  obtain ⟨k1, ⟨r, k2, k3⟩, k4⟩ := hk
  have loop : ∀ s, s ≤ 12 → ∀ h1, (∀ i, i < β + 2 ∨ β + 26 ≤ i → h1[i]? = h[i]?) → (∀ j, j < s → st_P h1 (β + 2 + 2 * j) (pr k j) (nm k j) (kn k j) (ht k j)) → (∀ j, s ≤ j → j < 12 → st_P h1 (β + 2 + 2 * j) (pr c j) (nm c j) (kn c j) (ht c j)) → ab_W (ab_st (mT kCircle_copyFrom) mB mF (mR kCircle_copyFrom) none) (mCC (d + 1)) post (2, [.ref β, .ref γ, .int (nI s)], [], (0, 0), h1) := by
    refine down 12 ?_ ?_
    · intro h1 e1 e2 e3
      refine ab_W.go (mm _) 2 (c' := (5, [.ref β, .ref γ, .int (nI 12)], [.int (nI 12), .int (nI 12)], (0, 0), h1)) rfl ?_
      refine ab_W.itT (mm _) (p := (nI 12) ≤ (nI 12)) (c1 := (29, [.ref β, .ref γ, .int (nI 12)], [], (0, 0), h1)) (c2 := (8, [.ref β, .ref γ, .int (nI 12)], [], (0, 0), h1)) rfl ((by decide)) ?_
      refine ab_W.go (mm _) 2 (c' := (31, [.ref β, .ref γ, .int (nI 12)], [.ref γ, .ref β], (0, 0), h1)) rfl ?_
      refine ab_W.o (mm _) ((e1 γ (by omega)).trans k1) rfl (c' := (34, [.ref β, .ref γ, .int (nI 12)], [.int (nI (hn k)), .ref β], (0, 0), h1)) rfl ?_
      have f1 := (e1 β (by omega)).trans c1
      refine ab_W.o (mm _) (f1) rfl (c' := (37, [.ref β, .ref γ, .int (nI 12)], [], (0, 0), h1.set β (.inr (0, [.ref (β + 1), .int (nI (hn k))])))) rfl ?_
      refine ab_W.ret (mm _) (v := none) rfl ?_
      refine hp _ ⟨set_at f1, ⟨q, (set_ne (by omega)).trans ((e1 (β + 1) (by omega)).trans c2), c3⟩, fun s hs => (e2 s hs).kept (set_ne (by omega)) (set_ne (by omega))⟩ (fun i hi => (set_ne (by omega)).trans (e1 i (by omega)))
    · intro s hs ih h1 e1 e2 e3
      have f1 := (e1 β (by omega)).trans c1
      have f2 := (e1 (β + 1) (by omega)).trans c2
      have g1 := (e1 γ (by omega)).trans k1
      have g2 := (e1 (γ + 1) (by omega)).trans k2
      have g4 : st_P h1 (γ + 2 + 2 * s) (pr k s) (nm k s) (kn k s) (ht k s) := (k4 s hs).kept (e1 _ (by omega)) (e1 _ (by omega))
      have f4 := e3 s (Nat.le_refl _) hs
      refine ab_W.go (mm _) 2 (c' := (5, [.ref β, .ref γ, .int (nI s)], [.int (nI 12), .int (nI s)], (0, 0), h1)) rfl ?_
      refine ab_W.itF (mm _) (p := (nI 12) ≤ (nI s)) (c1 := (29, [.ref β, .ref γ, .int (nI s)], [], (0, 0), h1)) (c2 := (8, [.ref β, .ref γ, .int (nI s)], [], (0, 0), h1)) rfl (fun z => absurd ((nI_leI (by omega) (by omega)).mp z) (by omega)) ?_
      refine ab_W.go (mm _) 1 (c' := (9, [.ref β, .ref γ, .int (nI s)], [.ref β], (0, 0), h1)) rfl ?_
      refine ab_W.o (mm _) (f1) rfl (c' := (12, [.ref β, .ref γ, .int (nI s)], [.ref (β + 1)], (0, 0), h1)) rfl ?_
      refine ab_W.go (mm _) 1 (c' := (13, [.ref β, .ref γ, .int (nI s)], [.int (nI s), .ref (β + 1)], (0, 0), h1)) rfl ?_
      refine ab_W.aref (mm _) (j := s) (f2) (c3 s hs) rfl (by omega) rfl rfl rfl ?_
      show ab_W _ _ _ (14, [.ref β, .ref γ, .int (nI s)], [.ref (β + 2 + 2 * s)], (0, 0), h1)
      refine ab_W.go (mm _) 1 (c' := (15, [.ref β, .ref γ, .int (nI s)], [.ref γ, .ref (β + 2 + 2 * s)], (0, 0), h1)) rfl ?_
      refine ab_W.o (mm _) (g1) rfl (c' := (18, [.ref β, .ref γ, .int (nI s)], [.ref (γ + 1), .ref (β + 2 + 2 * s)], (0, 0), h1)) rfl ?_
      refine ab_W.go (mm _) 1 (c' := (19, [.ref β, .ref γ, .int (nI s)], [.int (nI s), .ref (γ + 1), .ref (β + 2 + 2 * s)], (0, 0), h1)) rfl ?_
      refine ab_W.aref (mm _) (j := s) (g2) (k3 s hs) rfl (by omega) rfl rfl rfl ?_
      show ab_W _ _ _ (20, [.ref β, .ref γ, .int (nI s)], [.ref (γ + 2 + 2 * s), .ref (β + 2 + 2 * s)], (0, 0), h1)
      refine ab_W.callV (mm _) (f4.1) rfl (k := 38) (av := [.ref (β + 2 + 2 * s), .ref (γ + 2 + 2 * s)]) (c' := (23, [.ref β, .ref γ, .int (nI s)], [], (0, 0), h1)) rfl ?_
      refine sp_scopy d f4 g4 (by omega) (by omega) (by omega) (fun h2 s1 u1 => ?_)
      show ab_W _ _ _ (23, [.ref β, .ref γ, .int (nI s)], [], (0, 0), h2)
      refine ab_W.go (mm _) 1 (c' := (26, [.ref β, .ref γ, .int (nI s + nI 1)], [], (0, 0), h2)) rfl ?_
      rw [nI_add s 1]
      refine ab_W.go (mm _) 1 (c' := (2, [.ref β, .ref γ, .int (nI (s + 1))], [], (0, 0), h2)) rfl ?_
      refine ih h2 (fun i hi => (u1 i (by omega) (by omega)).trans (e1 i hi)) (fun j hj => ?_) (fun j j1 j2 => (e3 j (by omega) j2).kept (u1 _ (by omega) (by omega)) (u1 _ (by omega) (by omega)))
      rcases Nat.lt_or_ge j s with z | z
      · exact (e2 j z).kept (u1 _ (by omega) (by omega)) (u1 _ (by omega) (by omega))
      · rw [show j = s by omega]; exact s1
  refine ⟨rfl, ?_⟩
  show ab_W _ _ _ (0, [.ref β, .ref γ, .retAddr 0], [], (0, 0), h)
  refine ab_W.go (mm _) 2 (c' := (2, [.ref β, .ref γ, .int (nI 0)], [], (0, 0), h)) rfl ?_
  exact loop 0 (Nat.zero_le _) h (fun _ _ => rfl) (fun j hj => absurd hj (Nat.not_lt_zero j)) (fun j _ j2 => c4 j j2)
