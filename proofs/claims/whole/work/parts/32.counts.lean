/-! the class counts kinds of stamps -/
theorem ordN_le (f g : Nat → Int32) : ordN f g ≤ 3 := by
  unfold ordN
  by_cases h1 : ∃ c, c < 64 ∧ f c < g c
  · rw [ci_t h1]
    by_cases h2 : ∃ c, c < 64 ∧ g c < f c
    · rw [ci_t h2]; decide
    · rw [ci_f h2]; decide
  · rw [ci_f h1]
    by_cases h2 : ∃ c, c < 64 ∧ g c < f c
    · rw [ci_t h2]; decide
    · rw [ci_f h2]; decide
theorem pr_t {c : Ci} {s : Nat} (h : ¬ b2i (pr c s) = 0) : pr c s = true := by
  cases hb : pr c s with
  | true => rfl
  | false => exact absurd (b2i_0.mpr hb) h
theorem sp_isEven (d : Nat) {h : ab_H} {β s : Nat} {c : Ci} (hc : cir h β c) (hs : s < 12) {post : ab_P} (hp : ∀ v : Int32, ((∃ t, t < s ∧ pr c t = true ∧ ordN (ht c t) (ht c s) = 0) ∧ v = nI 1) ∨ ((¬ ∃ t, t < s ∧ pr c t = true ∧ ordN (ht c t) (ht c s) = 0) ∧ v = nI 0) → post (some (.int v)) h) : mCC (d + 2) kCircle_isEvenWithEarlier [.ref β, .int (nI s)] h post := by
  obtain ⟨c1, ⟨q, c2, c3⟩, c4⟩ := hc
  have f := (c4 s hs).1
  have loop : ∀ t, t ≤ s → (∀ j, j < t → ¬ (pr c j = true ∧ ordN (ht c j) (ht c s) = 0)) → ab_W (ab_st (mT kCircle_isEvenWithEarlier) mB mF (mR kCircle_isEvenWithEarlier) none) (mCC (d + 1)) post (2, [.ref β, .int (nI s), .int (nI t)], [], (0, 0), h) := by
    refine down s ?_ ?_
    · intro hno
      refine ab_W.go (mm _) 2 (c' := (4, [.ref β, .int (nI s), .int (nI s)], [.int (nI s), .int (nI s)], (0, 0), h)) rfl ?_
      refine ab_W.itT (mm _) (p := (nI s) ≤ (nI s)) (c1 := (45, [.ref β, .int (nI s), .int (nI s)], [], (0, 0), h)) (c2 := (7, [.ref β, .int (nI s), .int (nI s)], [], (0, 0), h)) rfl ((nI_leI (by omega) (by omega)).mpr (Nat.le_refl _)) ?_
      refine ab_W.go (mm _) 1 (c' := (46, [.ref β, .int (nI s), .int (nI s)], [.int (nI 0)], (0, 0), h)) rfl ?_
      refine ab_W.retI (mm _) (rt := some .boolean) (v := nI 0) rfl rfl ?_
      exact hp _ (Or.inr ⟨fun ⟨t, t1, t2⟩ => hno t t1 t2, rfl⟩)
    · intro t htl ih hno
      have e := (c4 t (by omega)).1
      have next : ¬ (pr c t = true ∧ ordN (ht c t) (ht c s) = 0) → ∀ j, j < t + 1 → ¬ (pr c j = true ∧ ordN (ht c j) (ht c s) = 0) := fun z j hj => by
        rcases Nat.lt_or_ge j t with y | y
        · exact hno j y
        · rw [show j = t by omega]; exact z
      refine ab_W.go (mm _) 2 (c' := (4, [.ref β, .int (nI s), .int (nI t)], [.int (nI s), .int (nI t)], (0, 0), h)) rfl ?_
      refine ab_W.itF (mm _) (p := (nI s) ≤ (nI t)) (c1 := (45, [.ref β, .int (nI s), .int (nI t)], [], (0, 0), h)) (c2 := (7, [.ref β, .int (nI s), .int (nI t)], [], (0, 0), h)) rfl (fun z => absurd ((nI_leI (by omega) (by omega)).mp z) (by omega)) ?_
      refine ab_W.go (mm _) 1 (c' := (8, [.ref β, .int (nI s), .int (nI t)], [.ref β], (0, 0), h)) rfl ?_
      refine ab_W.o (mm _) (c1) rfl (c' := (11, [.ref β, .int (nI s), .int (nI t)], [.ref (β + 1)], (0, 0), h)) rfl ?_
      refine ab_W.go (mm _) 1 (c' := (12, [.ref β, .int (nI s), .int (nI t)], [.int (nI t), .ref (β + 1)], (0, 0), h)) rfl ?_
      refine ab_W.aref (mm _) (j := t) (c2) (c3 t (by omega)) rfl (by omega) rfl rfl rfl ?_
      show ab_W _ _ _ (13, [.ref β, .int (nI s), .int (nI t)], [.ref (β + 2 + 2 * t)], (0, 0), h)
      refine ab_W.o (mm _) (e) rfl (c' := (16, [.ref β, .int (nI s), .int (nI t)], [.int (b2i (pr c t))], (0, 0), h)) rfl ?_
      refine ab_W.ite (mm _) (p := (b2i (pr c t)) = 0) (c1 := (39, [.ref β, .int (nI s), .int (nI t)], [], (0, 0), h)) (c2 := (19, [.ref β, .int (nI s), .int (nI t)], [], (0, 0), h)) rfl (fun q1 => ?_) (fun q1 => ?_)
      · skip
        have q1 := b2i_0.mp q1
        refine ab_W.go (mm _) 1 (c' := (42, [.ref β, .int (nI s), .int (nI t + nI 1)], [], (0, 0), h)) rfl ?_
        rw [nI_add t 1]
        refine ab_W.go (mm _) 1 (c' := (2, [.ref β, .int (nI s), .int (nI (t + 1))], [], (0, 0), h)) rfl ?_
        exact ih (next (fun z => by rw [q1] at z; exact absurd z.1 (by decide)))
      · skip
        have q1 := pr_t q1
        refine ab_W.go (mm _) 1 (c' := (20, [.ref β, .int (nI s), .int (nI t)], [.ref β], (0, 0), h)) rfl ?_
        refine ab_W.o (mm _) (c1) rfl (c' := (23, [.ref β, .int (nI s), .int (nI t)], [.ref (β + 1)], (0, 0), h)) rfl ?_
        refine ab_W.go (mm _) 1 (c' := (24, [.ref β, .int (nI s), .int (nI t)], [.int (nI t), .ref (β + 1)], (0, 0), h)) rfl ?_
        refine ab_W.aref (mm _) (j := t) (c2) (c3 t (by omega)) rfl (by omega) rfl rfl rfl ?_
        show ab_W _ _ _ (25, [.ref β, .int (nI s), .int (nI t)], [.ref (β + 2 + 2 * t)], (0, 0), h)
        refine ab_W.go (mm _) 1 (c' := (26, [.ref β, .int (nI s), .int (nI t)], [.ref β, .ref (β + 2 + 2 * t)], (0, 0), h)) rfl ?_
        refine ab_W.o (mm _) (c1) rfl (c' := (29, [.ref β, .int (nI s), .int (nI t)], [.ref (β + 1), .ref (β + 2 + 2 * t)], (0, 0), h)) rfl ?_
        refine ab_W.go (mm _) 1 (c' := (30, [.ref β, .int (nI s), .int (nI t)], [.int (nI s), .ref (β + 1), .ref (β + 2 + 2 * t)], (0, 0), h)) rfl ?_
        refine ab_W.aref (mm _) (j := s) (c2) (c3 s hs) rfl (by omega) rfl rfl rfl ?_
        show ab_W _ _ _ (31, [.ref β, .int (nI s), .int (nI t)], [.ref (β + 2 + 2 * s), .ref (β + 2 + 2 * t)], (0, 0), h)
        refine ab_W.callV (mm _) (e) rfl (k := 40) (av := [.ref (β + 2 + 2 * t), .ref (β + 2 + 2 * s)]) (c' := (34, [.ref β, .int (nI s), .int (nI t)], [], (0, 0), h)) rfl ?_
        refine sp_compare _ (c4 t (by omega)) (c4 s hs) ?_
        show ab_W _ _ _ (34, [.ref β, .int (nI s), .int (nI t)], [.int (nI (ordN (ht c t) (ht c s)))], (0, 0), h)
        have o3 := ordN_le (ht c t) (ht c s)
        refine ab_W.ite (mm _) (p := (nI (ordN (ht c t) (ht c s))) = 0) (c1 := (37, [.ref β, .int (nI s), .int (nI t)], [], (0, 0), h)) (c2 := (39, [.ref β, .int (nI s), .int (nI t)], [], (0, 0), h)) rfl (fun q2 => ?_) (fun q2 => ?_)
        · skip
          have q2 := (nI_eq (b := 0) (by omega) (by omega)).mp q2
          refine ab_W.go (mm _) 1 (c' := (38, [.ref β, .int (nI s), .int (nI t)], [.int (nI 1)], (0, 0), h)) rfl ?_
          refine ab_W.retI (mm _) (rt := some .boolean) (v := nI 1) rfl rfl ?_
          exact hp _ (Or.inl ⟨⟨t, htl, q1, q2⟩, rfl⟩)
        · skip
          have q2 : ¬ ordN (ht c t) (ht c s) = 0 := fun z => q2 (by rw [z]; rfl)
          refine ab_W.go (mm _) 1 (c' := (42, [.ref β, .int (nI s), .int (nI t + nI 1)], [], (0, 0), h)) rfl ?_
          rw [nI_add t 1]
          refine ab_W.go (mm _) 1 (c' := (2, [.ref β, .int (nI s), .int (nI (t + 1))], [], (0, 0), h)) rfl ?_
          exact ih (next (fun z => q2 z.2))
  refine ⟨rfl, ?_⟩
  show ab_W _ _ _ (0, [.ref β, .int (nI s), .retAddr 0], [], (0, 0), h)
  refine ab_W.go (mm _) 2 (c' := (2, [.ref β, .int (nI s), .int (nI 0)], [], (0, 0), h)) rfl ?_
  exact loop 0 (Nat.zero_le _) (fun j hj => absurd hj (Nat.not_lt_zero j))
theorem sp_uneven (d : Nat) {h : ab_H} {β : Nat} {c : Ci} (hc : cir h β c) {post : ab_P} (hp : post (some (.int (nI (cn (fun s => pr c s = true ∧ ¬ ∃ t, t < s ∧ pr c t = true ∧ ordN (ht c t) (ht c s) = 0) 12)))) h) : mCC (d + 3) kCircle_countUnevenStamps [.ref β] h post := by
  obtain ⟨c1, ⟨q, c2, c3⟩, c4⟩ := id hc
  obtain ⟨P, hP⟩ : ∃ P : Nat → Prop, P = fun s => pr c s = true ∧ ¬ ∃ t, t < s ∧ pr c t = true ∧ ordN (ht c t) (ht c s) = 0 := ⟨_, rfl⟩
  rw [← hP] at hp
  have loop : ∀ s, s ≤ 12 → ab_W (ab_st (mT kCircle_countUnevenStamps) mB mF (mR kCircle_countUnevenStamps) none) (mCC (d + 2)) post (4, [.ref β, .int (nI (cn P s)), .int (nI s)], [], (0, 0), h) := by
    refine down 12 ?_ ?_
    · skip
      refine ab_W.go (mm _) 2 (c' := (7, [.ref β, .int (nI (cn P 12)), .int (nI 12)], [.int (nI 12), .int (nI 12)], (0, 0), h)) rfl ?_
      refine ab_W.itT (mm _) (p := (nI 12) ≤ (nI 12)) (c1 := (39, [.ref β, .int (nI (cn P 12)), .int (nI 12)], [], (0, 0), h)) (c2 := (10, [.ref β, .int (nI (cn P 12)), .int (nI 12)], [], (0, 0), h)) rfl ((by decide)) ?_
      refine ab_W.go (mm _) 1 (c' := (40, [.ref β, .int (nI (cn P 12)), .int (nI 12)], [.int (nI (cn P 12))], (0, 0), h)) rfl ?_
      refine ab_W.retI (mm _) (rt := some .int) (v := nI (cn P 12)) rfl rfl ?_
      exact hp
    · intro s hs ih
      have e := (c4 s hs).1
      refine ab_W.go (mm _) 2 (c' := (7, [.ref β, .int (nI (cn P s)), .int (nI s)], [.int (nI 12), .int (nI s)], (0, 0), h)) rfl ?_
      refine ab_W.itF (mm _) (p := (nI 12) ≤ (nI s)) (c1 := (39, [.ref β, .int (nI (cn P s)), .int (nI s)], [], (0, 0), h)) (c2 := (10, [.ref β, .int (nI (cn P s)), .int (nI s)], [], (0, 0), h)) rfl (fun z => absurd ((nI_leI (by omega) (by omega)).mp z) (by omega)) ?_
      refine ab_W.go (mm _) 1 (c' := (11, [.ref β, .int (nI (cn P s)), .int (nI s)], [.ref β], (0, 0), h)) rfl ?_
      refine ab_W.o (mm _) (c1) rfl (c' := (14, [.ref β, .int (nI (cn P s)), .int (nI s)], [.ref (β + 1)], (0, 0), h)) rfl ?_
      refine ab_W.go (mm _) 1 (c' := (15, [.ref β, .int (nI (cn P s)), .int (nI s)], [.int (nI s), .ref (β + 1)], (0, 0), h)) rfl ?_
      refine ab_W.aref (mm _) (j := s) (c2) (c3 s hs) rfl (by omega) rfl rfl rfl ?_
      show ab_W _ _ _ (16, [.ref β, .int (nI (cn P s)), .int (nI s)], [.ref (β + 2 + 2 * s)], (0, 0), h)
      refine ab_W.o (mm _) (e) rfl (c' := (19, [.ref β, .int (nI (cn P s)), .int (nI s)], [.int (b2i (pr c s))], (0, 0), h)) rfl ?_
      refine ab_W.ite (mm _) (p := (b2i (pr c s)) = 0) (c1 := (33, [.ref β, .int (nI (cn P s)), .int (nI s)], [], (0, 0), h)) (c2 := (22, [.ref β, .int (nI (cn P s)), .int (nI s)], [], (0, 0), h)) rfl (fun q1 => ?_) (fun q1 => ?_)
      · skip
        have q1 := b2i_0.mp q1
        rw [cn_f (p := P) (by rw [hP]; exact fun z => by have := z.1; rw [q1] at this; cases this)] at ih
        refine ab_W.go (mm _) 1 (c' := (36, [.ref β, .int (nI (cn P s)), .int (nI s + nI 1)], [], (0, 0), h)) rfl ?_
        rw [nI_add s 1]
        refine ab_W.go (mm _) 1 (c' := (4, [.ref β, .int (nI (cn P s)), .int (nI (s + 1))], [], (0, 0), h)) rfl ?_
        exact ih
      · skip
        have q1 := pr_t q1
        refine ab_W.go (mm _) 2 (c' := (24, [.ref β, .int (nI (cn P s)), .int (nI s)], [.int (nI s), .ref β], (0, 0), h)) rfl ?_
        refine ab_W.callV (mm _) (c1) rfl (k := 7) (av := [.ref β, .int (nI s)]) (c' := (27, [.ref β, .int (nI (cn P s)), .int (nI s)], [], (0, 0), h)) rfl ?_
        refine sp_isEven d hc hs (fun v hv => ?_)
        rcases hv with ⟨q2, rfl⟩ | ⟨q2, rfl⟩
        · rw [cn_f (p := P) (by rw [hP]; exact fun z => z.2 q2)] at ih
          show ab_W _ _ _ (27, [.ref β, .int (nI (cn P s)), .int (nI s)], [.int (nI 1)], (0, 0), h)
          refine ab_W.itF (mm _) (p := (nI 1) = 0) (c1 := (30, [.ref β, .int (nI (cn P s)), .int (nI s)], [], (0, 0), h)) (c2 := (33, [.ref β, .int (nI (cn P s)), .int (nI s)], [], (0, 0), h)) rfl (nI_ne01) ?_
          refine ab_W.go (mm _) 1 (c' := (36, [.ref β, .int (nI (cn P s)), .int (nI s + nI 1)], [], (0, 0), h)) rfl ?_
          rw [nI_add s 1]
          refine ab_W.go (mm _) 1 (c' := (4, [.ref β, .int (nI (cn P s)), .int (nI (s + 1))], [], (0, 0), h)) rfl ?_
          exact ih
        · rw [cn_t (p := P) (by rw [hP]; exact ⟨q1, q2⟩)] at ih
          show ab_W _ _ _ (27, [.ref β, .int (nI (cn P s)), .int (nI s)], [.int (nI 0)], (0, 0), h)
          refine ab_W.itT (mm _) (p := (nI 0) = 0) (c1 := (30, [.ref β, .int (nI (cn P s)), .int (nI s)], [], (0, 0), h)) (c2 := (33, [.ref β, .int (nI (cn P s)), .int (nI s)], [], (0, 0), h)) rfl (nI_0) ?_
          refine ab_W.go (mm _) 1 (c' := (33, [.ref β, .int (nI (cn P s) + nI 1), .int (nI s)], [], (0, 0), h)) rfl ?_
          rw [nI_add (cn P s) 1]
          refine ab_W.go (mm _) 1 (c' := (36, [.ref β, .int (nI ((cn P s) + 1)), .int (nI s + nI 1)], [], (0, 0), h)) rfl ?_
          rw [nI_add s 1]
          refine ab_W.go (mm _) 1 (c' := (4, [.ref β, .int (nI ((cn P s) + 1)), .int (nI (s + 1))], [], (0, 0), h)) rfl ?_
          exact ih
  refine ⟨rfl, ?_⟩
  show ab_W _ _ _ (0, [.ref β, .retAddr 0, .retAddr 0], [], (0, 0), h)
  refine ab_W.go (mm _) 4 (c' := (4, [.ref β, .int (nI 0), .int (nI 0)], [], (0, 0), h)) rfl ?_
  exact loop 0 (Nat.zero_le _)
theorem sp_isNamed (d : Nat) {h : ab_H} {β s : Nat} {c : Ci} (hc : cir h β c) (hs : s < 12) {post : ab_P} (hp : ∀ v : Int32, ((∃ t, t < s ∧ pr c t = true ∧ nm c t = nm c s) ∧ v = nI 1) ∨ ((¬ ∃ t, t < s ∧ pr c t = true ∧ nm c t = nm c s) ∧ v = nI 0) → post (some (.int v)) h) : mCC (d + 2) kCircle_isNamedAsEarlier [.ref β, .int (nI s)] h post := by
  obtain ⟨c1, ⟨q, c2, c3⟩, c4⟩ := hc
  have f := (c4 s hs).1
  have loop : ∀ t, t ≤ s → (∀ j, j < t → ¬ (pr c j = true ∧ nm c j = nm c s)) → ab_W (ab_st (mT kCircle_isNamedAsEarlier) mB mF (mR kCircle_isNamedAsEarlier) none) (mCC (d + 1)) post (2, [.ref β, .int (nI s), .int (nI t)], [], (0, 0), h) := by
    refine down s ?_ ?_
    · intro hno
      refine ab_W.go (mm _) 2 (c' := (4, [.ref β, .int (nI s), .int (nI s)], [.int (nI s), .int (nI s)], (0, 0), h)) rfl ?_
      refine ab_W.itT (mm _) (p := (nI s) ≤ (nI s)) (c1 := (49, [.ref β, .int (nI s), .int (nI s)], [], (0, 0), h)) (c2 := (7, [.ref β, .int (nI s), .int (nI s)], [], (0, 0), h)) rfl ((nI_leI (by omega) (by omega)).mpr (Nat.le_refl _)) ?_
      refine ab_W.go (mm _) 1 (c' := (50, [.ref β, .int (nI s), .int (nI s)], [.int (nI 0)], (0, 0), h)) rfl ?_
      refine ab_W.retI (mm _) (rt := some .boolean) (v := nI 0) rfl rfl ?_
      exact hp _ (Or.inr ⟨fun ⟨t, t1, t2⟩ => hno t t1 t2, rfl⟩)
    · intro t htl ih hno
      have e := (c4 t (by omega)).1
      have next : ¬ (pr c t = true ∧ nm c t = nm c s) → ∀ j, j < t + 1 → ¬ (pr c j = true ∧ nm c j = nm c s) := fun z j hj => by
        rcases Nat.lt_or_ge j t with y | y
        · exact hno j y
        · rw [show j = t by omega]; exact z
      refine ab_W.go (mm _) 2 (c' := (4, [.ref β, .int (nI s), .int (nI t)], [.int (nI s), .int (nI t)], (0, 0), h)) rfl ?_
      refine ab_W.itF (mm _) (p := (nI s) ≤ (nI t)) (c1 := (49, [.ref β, .int (nI s), .int (nI t)], [], (0, 0), h)) (c2 := (7, [.ref β, .int (nI s), .int (nI t)], [], (0, 0), h)) rfl (fun z => absurd ((nI_leI (by omega) (by omega)).mp z) (by omega)) ?_
      refine ab_W.go (mm _) 1 (c' := (8, [.ref β, .int (nI s), .int (nI t)], [.ref β], (0, 0), h)) rfl ?_
      refine ab_W.o (mm _) (c1) rfl (c' := (11, [.ref β, .int (nI s), .int (nI t)], [.ref (β + 1)], (0, 0), h)) rfl ?_
      refine ab_W.go (mm _) 1 (c' := (12, [.ref β, .int (nI s), .int (nI t)], [.int (nI t), .ref (β + 1)], (0, 0), h)) rfl ?_
      refine ab_W.aref (mm _) (j := t) (c2) (c3 t (by omega)) rfl (by omega) rfl rfl rfl ?_
      show ab_W _ _ _ (13, [.ref β, .int (nI s), .int (nI t)], [.ref (β + 2 + 2 * t)], (0, 0), h)
      refine ab_W.o (mm _) (e) rfl (c' := (16, [.ref β, .int (nI s), .int (nI t)], [.int (b2i (pr c t))], (0, 0), h)) rfl ?_
      refine ab_W.ite (mm _) (p := (b2i (pr c t)) = 0) (c1 := (43, [.ref β, .int (nI s), .int (nI t)], [], (0, 0), h)) (c2 := (19, [.ref β, .int (nI s), .int (nI t)], [], (0, 0), h)) rfl (fun q1 => ?_) (fun q1 => ?_)
      · skip
        have q1 := b2i_0.mp q1
        refine ab_W.go (mm _) 1 (c' := (46, [.ref β, .int (nI s), .int (nI t + nI 1)], [], (0, 0), h)) rfl ?_
        rw [nI_add t 1]
        refine ab_W.go (mm _) 1 (c' := (2, [.ref β, .int (nI s), .int (nI (t + 1))], [], (0, 0), h)) rfl ?_
        exact ih (next (fun z => by rw [q1] at z; exact absurd z.1 (by decide)))
      · skip
        have q1 := pr_t q1
        refine ab_W.go (mm _) 1 (c' := (20, [.ref β, .int (nI s), .int (nI t)], [.ref β], (0, 0), h)) rfl ?_
        refine ab_W.o (mm _) (c1) rfl (c' := (23, [.ref β, .int (nI s), .int (nI t)], [.ref (β + 1)], (0, 0), h)) rfl ?_
        refine ab_W.go (mm _) 1 (c' := (24, [.ref β, .int (nI s), .int (nI t)], [.int (nI t), .ref (β + 1)], (0, 0), h)) rfl ?_
        refine ab_W.aref (mm _) (j := t) (c2) (c3 t (by omega)) rfl (by omega) rfl rfl rfl ?_
        show ab_W _ _ _ (25, [.ref β, .int (nI s), .int (nI t)], [.ref (β + 2 + 2 * t)], (0, 0), h)
        refine ab_W.o (mm _) (e) rfl (c' := (28, [.ref β, .int (nI s), .int (nI t)], [.long (nm c t)], (0, 0), h)) rfl ?_
        refine ab_W.go (mm _) 1 (c' := (29, [.ref β, .int (nI s), .int (nI t)], [.ref β, .long (nm c t)], (0, 0), h)) rfl ?_
        refine ab_W.o (mm _) (c1) rfl (c' := (32, [.ref β, .int (nI s), .int (nI t)], [.ref (β + 1), .long (nm c t)], (0, 0), h)) rfl ?_
        refine ab_W.go (mm _) 1 (c' := (33, [.ref β, .int (nI s), .int (nI t)], [.int (nI s), .ref (β + 1), .long (nm c t)], (0, 0), h)) rfl ?_
        refine ab_W.aref (mm _) (j := s) (c2) (c3 s hs) rfl (by omega) rfl rfl rfl ?_
        show ab_W _ _ _ (34, [.ref β, .int (nI s), .int (nI t)], [.ref (β + 2 + 2 * s), .long (nm c t)], (0, 0), h)
        refine ab_W.o (mm _) (f) rfl (c' := (37, [.ref β, .int (nI s), .int (nI t)], [.long (nm c s), .long (nm c t)], (0, 0), h)) rfl ?_
        refine ab_W.go (mm _) 1 (c' := (38, [.ref β, .int (nI s), .int (nI t)], [.int (lg_cmp (nm c t) (nm c s))], (0, 0), h)) rfl ?_
        refine ab_W.ite (mm _) (p := (lg_cmp (nm c t) (nm c s)) = 0) (c1 := (41, [.ref β, .int (nI s), .int (nI t)], [], (0, 0), h)) (c2 := (43, [.ref β, .int (nI s), .int (nI t)], [], (0, 0), h)) rfl (fun q2 => ?_) (fun q2 => ?_)
        · skip
          have q2 := (lg_cmp0 _ _).mp q2
          refine ab_W.go (mm _) 1 (c' := (42, [.ref β, .int (nI s), .int (nI t)], [.int (nI 1)], (0, 0), h)) rfl ?_
          refine ab_W.retI (mm _) (rt := some .boolean) (v := nI 1) rfl rfl ?_
          exact hp _ (Or.inl ⟨⟨t, htl, q1, q2⟩, rfl⟩)
        · skip
          have q2 : ¬ nm c t = nm c s := fun z => q2 ((lg_cmp0 _ _).mpr z)
          refine ab_W.go (mm _) 1 (c' := (46, [.ref β, .int (nI s), .int (nI t + nI 1)], [], (0, 0), h)) rfl ?_
          rw [nI_add t 1]
          refine ab_W.go (mm _) 1 (c' := (2, [.ref β, .int (nI s), .int (nI (t + 1))], [], (0, 0), h)) rfl ?_
          exact ih (next (fun z => q2 z.2))
  refine ⟨rfl, ?_⟩
  show ab_W _ _ _ (0, [.ref β, .int (nI s), .retAddr 0], [], (0, 0), h)
  refine ab_W.go (mm _) 2 (c' := (2, [.ref β, .int (nI s), .int (nI 0)], [], (0, 0), h)) rfl ?_
  exact loop 0 (Nat.zero_le _) (fun j hj => absurd hj (Nat.not_lt_zero j))
theorem sp_unlikeN (d : Nat) {h : ab_H} {β : Nat} {c : Ci} (hc : cir h β c) {post : ab_P} (hp : post (some (.int (nI (cn (fun s => pr c s = true ∧ ¬ ∃ t, t < s ∧ pr c t = true ∧ nm c t = nm c s) 12)))) h) : mCC (d + 3) kCircle_countUnlikeNames [.ref β] h post := by
  obtain ⟨c1, ⟨q, c2, c3⟩, c4⟩ := id hc
  obtain ⟨P, hP⟩ : ∃ P : Nat → Prop, P = fun s => pr c s = true ∧ ¬ ∃ t, t < s ∧ pr c t = true ∧ nm c t = nm c s := ⟨_, rfl⟩
  rw [← hP] at hp
  have loop : ∀ s, s ≤ 12 → ab_W (ab_st (mT kCircle_countUnlikeNames) mB mF (mR kCircle_countUnlikeNames) none) (mCC (d + 2)) post (4, [.ref β, .int (nI (cn P s)), .int (nI s)], [], (0, 0), h) := by
    refine down 12 ?_ ?_
    · skip
      refine ab_W.go (mm _) 2 (c' := (7, [.ref β, .int (nI (cn P 12)), .int (nI 12)], [.int (nI 12), .int (nI 12)], (0, 0), h)) rfl ?_
      refine ab_W.itT (mm _) (p := (nI 12) ≤ (nI 12)) (c1 := (39, [.ref β, .int (nI (cn P 12)), .int (nI 12)], [], (0, 0), h)) (c2 := (10, [.ref β, .int (nI (cn P 12)), .int (nI 12)], [], (0, 0), h)) rfl ((by decide)) ?_
      refine ab_W.go (mm _) 1 (c' := (40, [.ref β, .int (nI (cn P 12)), .int (nI 12)], [.int (nI (cn P 12))], (0, 0), h)) rfl ?_
      refine ab_W.retI (mm _) (rt := some .int) (v := nI (cn P 12)) rfl rfl ?_
      exact hp
    · intro s hs ih
      have e := (c4 s hs).1
      refine ab_W.go (mm _) 2 (c' := (7, [.ref β, .int (nI (cn P s)), .int (nI s)], [.int (nI 12), .int (nI s)], (0, 0), h)) rfl ?_
      refine ab_W.itF (mm _) (p := (nI 12) ≤ (nI s)) (c1 := (39, [.ref β, .int (nI (cn P s)), .int (nI s)], [], (0, 0), h)) (c2 := (10, [.ref β, .int (nI (cn P s)), .int (nI s)], [], (0, 0), h)) rfl (fun z => absurd ((nI_leI (by omega) (by omega)).mp z) (by omega)) ?_
      refine ab_W.go (mm _) 1 (c' := (11, [.ref β, .int (nI (cn P s)), .int (nI s)], [.ref β], (0, 0), h)) rfl ?_
      refine ab_W.o (mm _) (c1) rfl (c' := (14, [.ref β, .int (nI (cn P s)), .int (nI s)], [.ref (β + 1)], (0, 0), h)) rfl ?_
      refine ab_W.go (mm _) 1 (c' := (15, [.ref β, .int (nI (cn P s)), .int (nI s)], [.int (nI s), .ref (β + 1)], (0, 0), h)) rfl ?_
      refine ab_W.aref (mm _) (j := s) (c2) (c3 s hs) rfl (by omega) rfl rfl rfl ?_
      show ab_W _ _ _ (16, [.ref β, .int (nI (cn P s)), .int (nI s)], [.ref (β + 2 + 2 * s)], (0, 0), h)
      refine ab_W.o (mm _) (e) rfl (c' := (19, [.ref β, .int (nI (cn P s)), .int (nI s)], [.int (b2i (pr c s))], (0, 0), h)) rfl ?_
      refine ab_W.ite (mm _) (p := (b2i (pr c s)) = 0) (c1 := (33, [.ref β, .int (nI (cn P s)), .int (nI s)], [], (0, 0), h)) (c2 := (22, [.ref β, .int (nI (cn P s)), .int (nI s)], [], (0, 0), h)) rfl (fun q1 => ?_) (fun q1 => ?_)
      · skip
        have q1 := b2i_0.mp q1
        rw [cn_f (p := P) (by rw [hP]; exact fun z => by have := z.1; rw [q1] at this; cases this)] at ih
        refine ab_W.go (mm _) 1 (c' := (36, [.ref β, .int (nI (cn P s)), .int (nI s + nI 1)], [], (0, 0), h)) rfl ?_
        rw [nI_add s 1]
        refine ab_W.go (mm _) 1 (c' := (4, [.ref β, .int (nI (cn P s)), .int (nI (s + 1))], [], (0, 0), h)) rfl ?_
        exact ih
      · skip
        have q1 := pr_t q1
        refine ab_W.go (mm _) 2 (c' := (24, [.ref β, .int (nI (cn P s)), .int (nI s)], [.int (nI s), .ref β], (0, 0), h)) rfl ?_
        refine ab_W.callV (mm _) (c1) rfl (k := 9) (av := [.ref β, .int (nI s)]) (c' := (27, [.ref β, .int (nI (cn P s)), .int (nI s)], [], (0, 0), h)) rfl ?_
        refine sp_isNamed d hc hs (fun v hv => ?_)
        rcases hv with ⟨q2, rfl⟩ | ⟨q2, rfl⟩
        · rw [cn_f (p := P) (by rw [hP]; exact fun z => z.2 q2)] at ih
          show ab_W _ _ _ (27, [.ref β, .int (nI (cn P s)), .int (nI s)], [.int (nI 1)], (0, 0), h)
          refine ab_W.itF (mm _) (p := (nI 1) = 0) (c1 := (30, [.ref β, .int (nI (cn P s)), .int (nI s)], [], (0, 0), h)) (c2 := (33, [.ref β, .int (nI (cn P s)), .int (nI s)], [], (0, 0), h)) rfl (nI_ne01) ?_
          refine ab_W.go (mm _) 1 (c' := (36, [.ref β, .int (nI (cn P s)), .int (nI s + nI 1)], [], (0, 0), h)) rfl ?_
          rw [nI_add s 1]
          refine ab_W.go (mm _) 1 (c' := (4, [.ref β, .int (nI (cn P s)), .int (nI (s + 1))], [], (0, 0), h)) rfl ?_
          exact ih
        · rw [cn_t (p := P) (by rw [hP]; exact ⟨q1, q2⟩)] at ih
          show ab_W _ _ _ (27, [.ref β, .int (nI (cn P s)), .int (nI s)], [.int (nI 0)], (0, 0), h)
          refine ab_W.itT (mm _) (p := (nI 0) = 0) (c1 := (30, [.ref β, .int (nI (cn P s)), .int (nI s)], [], (0, 0), h)) (c2 := (33, [.ref β, .int (nI (cn P s)), .int (nI s)], [], (0, 0), h)) rfl (nI_0) ?_
          refine ab_W.go (mm _) 1 (c' := (33, [.ref β, .int (nI (cn P s) + nI 1), .int (nI s)], [], (0, 0), h)) rfl ?_
          rw [nI_add (cn P s) 1]
          refine ab_W.go (mm _) 1 (c' := (36, [.ref β, .int (nI ((cn P s) + 1)), .int (nI s + nI 1)], [], (0, 0), h)) rfl ?_
          rw [nI_add s 1]
          refine ab_W.go (mm _) 1 (c' := (4, [.ref β, .int (nI ((cn P s) + 1)), .int (nI (s + 1))], [], (0, 0), h)) rfl ?_
          exact ih
  refine ⟨rfl, ?_⟩
  show ab_W _ _ _ (0, [.ref β, .retAddr 0, .retAddr 0], [], (0, 0), h)
  refine ab_W.go (mm _) 4 (c' := (4, [.ref β, .int (nI 0), .int (nI 0)], [], (0, 0), h)) rfl ?_
  exact loop 0 (Nat.zero_le _)
theorem sp_isBef (d : Nat) {h : ab_H} {β s : Nat} {c : Ci} (hc : cir h β c) (hs : s < 12) {post : ab_P} (hp : ∀ v : Int32, ((∃ t, t < 12 ∧ pr c t = true ∧ ordN (ht c s) (ht c t) = 1) ∧ v = nI 1) ∨ ((¬ ∃ t, t < 12 ∧ pr c t = true ∧ ordN (ht c s) (ht c t) = 1) ∧ v = nI 0) → post (some (.int v)) h) : mCC (d + 2) kCircle_isBeforeAny [.ref β, .int (nI s)] h post := by
  obtain ⟨c1, ⟨q, c2, c3⟩, c4⟩ := hc
  have f := (c4 s hs).1
  have loop : ∀ t, t ≤ 12 → (∀ j, j < t → ¬ (pr c j = true ∧ ordN (ht c s) (ht c j) = 1)) → ab_W (ab_st (mT kCircle_isBeforeAny) mB mF (mR kCircle_isBeforeAny) none) (mCC (d + 1)) post (2, [.ref β, .int (nI s), .int (nI t)], [], (0, 0), h) := by
    refine down 12 ?_ ?_
    · intro hno
      refine ab_W.go (mm _) 2 (c' := (5, [.ref β, .int (nI s), .int (nI 12)], [.int (nI 12), .int (nI 12)], (0, 0), h)) rfl ?_
      refine ab_W.itT (mm _) (p := (nI 12) ≤ (nI 12)) (c1 := (47, [.ref β, .int (nI s), .int (nI 12)], [], (0, 0), h)) (c2 := (8, [.ref β, .int (nI s), .int (nI 12)], [], (0, 0), h)) rfl ((nI_leI (by omega) (by omega)).mpr (Nat.le_refl _)) ?_
      refine ab_W.go (mm _) 1 (c' := (48, [.ref β, .int (nI s), .int (nI 12)], [.int (nI 0)], (0, 0), h)) rfl ?_
      refine ab_W.retI (mm _) (rt := some .boolean) (v := nI 0) rfl rfl ?_
      exact hp _ (Or.inr ⟨fun ⟨t, t1, t2⟩ => hno t t1 t2, rfl⟩)
    · intro t htl ih hno
      have e := (c4 t (by omega)).1
      have next : ¬ (pr c t = true ∧ ordN (ht c s) (ht c t) = 1) → ∀ j, j < t + 1 → ¬ (pr c j = true ∧ ordN (ht c s) (ht c j) = 1) := fun z j hj => by
        rcases Nat.lt_or_ge j t with y | y
        · exact hno j y
        · rw [show j = t by omega]; exact z
      refine ab_W.go (mm _) 2 (c' := (5, [.ref β, .int (nI s), .int (nI t)], [.int (nI 12), .int (nI t)], (0, 0), h)) rfl ?_
      refine ab_W.itF (mm _) (p := (nI 12) ≤ (nI t)) (c1 := (47, [.ref β, .int (nI s), .int (nI t)], [], (0, 0), h)) (c2 := (8, [.ref β, .int (nI s), .int (nI t)], [], (0, 0), h)) rfl (fun z => absurd ((nI_leI (by omega) (by omega)).mp z) (by omega)) ?_
      refine ab_W.go (mm _) 1 (c' := (9, [.ref β, .int (nI s), .int (nI t)], [.ref β], (0, 0), h)) rfl ?_
      refine ab_W.o (mm _) (c1) rfl (c' := (12, [.ref β, .int (nI s), .int (nI t)], [.ref (β + 1)], (0, 0), h)) rfl ?_
      refine ab_W.go (mm _) 1 (c' := (13, [.ref β, .int (nI s), .int (nI t)], [.int (nI t), .ref (β + 1)], (0, 0), h)) rfl ?_
      refine ab_W.aref (mm _) (j := t) (c2) (c3 t (by omega)) rfl (by omega) rfl rfl rfl ?_
      show ab_W _ _ _ (14, [.ref β, .int (nI s), .int (nI t)], [.ref (β + 2 + 2 * t)], (0, 0), h)
      refine ab_W.o (mm _) (e) rfl (c' := (17, [.ref β, .int (nI s), .int (nI t)], [.int (b2i (pr c t))], (0, 0), h)) rfl ?_
      refine ab_W.ite (mm _) (p := (b2i (pr c t)) = 0) (c1 := (41, [.ref β, .int (nI s), .int (nI t)], [], (0, 0), h)) (c2 := (20, [.ref β, .int (nI s), .int (nI t)], [], (0, 0), h)) rfl (fun q1 => ?_) (fun q1 => ?_)
      · skip
        have q1 := b2i_0.mp q1
        refine ab_W.go (mm _) 1 (c' := (44, [.ref β, .int (nI s), .int (nI t + nI 1)], [], (0, 0), h)) rfl ?_
        rw [nI_add t 1]
        refine ab_W.go (mm _) 1 (c' := (2, [.ref β, .int (nI s), .int (nI (t + 1))], [], (0, 0), h)) rfl ?_
        exact ih (next (fun z => by rw [q1] at z; exact absurd z.1 (by decide)))
      · skip
        have q1 := pr_t q1
        refine ab_W.go (mm _) 1 (c' := (21, [.ref β, .int (nI s), .int (nI t)], [.ref β], (0, 0), h)) rfl ?_
        refine ab_W.o (mm _) (c1) rfl (c' := (24, [.ref β, .int (nI s), .int (nI t)], [.ref (β + 1)], (0, 0), h)) rfl ?_
        refine ab_W.go (mm _) 1 (c' := (25, [.ref β, .int (nI s), .int (nI t)], [.int (nI s), .ref (β + 1)], (0, 0), h)) rfl ?_
        refine ab_W.aref (mm _) (j := s) (c2) (c3 s hs) rfl (by omega) rfl rfl rfl ?_
        show ab_W _ _ _ (26, [.ref β, .int (nI s), .int (nI t)], [.ref (β + 2 + 2 * s)], (0, 0), h)
        refine ab_W.go (mm _) 1 (c' := (27, [.ref β, .int (nI s), .int (nI t)], [.ref β, .ref (β + 2 + 2 * s)], (0, 0), h)) rfl ?_
        refine ab_W.o (mm _) (c1) rfl (c' := (30, [.ref β, .int (nI s), .int (nI t)], [.ref (β + 1), .ref (β + 2 + 2 * s)], (0, 0), h)) rfl ?_
        refine ab_W.go (mm _) 1 (c' := (31, [.ref β, .int (nI s), .int (nI t)], [.int (nI t), .ref (β + 1), .ref (β + 2 + 2 * s)], (0, 0), h)) rfl ?_
        refine ab_W.aref (mm _) (j := t) (c2) (c3 t (by omega)) rfl (by omega) rfl rfl rfl ?_
        show ab_W _ _ _ (32, [.ref β, .int (nI s), .int (nI t)], [.ref (β + 2 + 2 * t), .ref (β + 2 + 2 * s)], (0, 0), h)
        refine ab_W.callV (mm _) (f) rfl (k := 40) (av := [.ref (β + 2 + 2 * s), .ref (β + 2 + 2 * t)]) (c' := (35, [.ref β, .int (nI s), .int (nI t)], [], (0, 0), h)) rfl ?_
        refine sp_compare _ (c4 s hs) (c4 t (by omega)) ?_
        show ab_W _ _ _ (35, [.ref β, .int (nI s), .int (nI t)], [.int (nI (ordN (ht c s) (ht c t)))], (0, 0), h)
        have o3 := ordN_le (ht c s) (ht c t)
        refine ab_W.go (mm _) 1 (c' := (36, [.ref β, .int (nI s), .int (nI t)], [.int (nI 1), .int (nI (ordN (ht c s) (ht c t)))], (0, 0), h)) rfl ?_
        refine ab_W.ite (mm _) (p := (nI (ordN (ht c s) (ht c t))) = (nI 1)) (c1 := (39, [.ref β, .int (nI s), .int (nI t)], [], (0, 0), h)) (c2 := (41, [.ref β, .int (nI s), .int (nI t)], [], (0, 0), h)) rfl (fun q2 => ?_) (fun q2 => ?_)
        · skip
          have q2 := (nI_eq (by omega) (by omega)).mp q2
          refine ab_W.go (mm _) 1 (c' := (40, [.ref β, .int (nI s), .int (nI t)], [.int (nI 1)], (0, 0), h)) rfl ?_
          refine ab_W.retI (mm _) (rt := some .boolean) (v := nI 1) rfl rfl ?_
          exact hp _ (Or.inl ⟨⟨t, htl, q1, q2⟩, rfl⟩)
        · skip
          have q2 : ¬ ordN (ht c s) (ht c t) = 1 := fun z => q2 (by rw [z])
          refine ab_W.go (mm _) 1 (c' := (44, [.ref β, .int (nI s), .int (nI t + nI 1)], [], (0, 0), h)) rfl ?_
          rw [nI_add t 1]
          refine ab_W.go (mm _) 1 (c' := (2, [.ref β, .int (nI s), .int (nI (t + 1))], [], (0, 0), h)) rfl ?_
          exact ih (next (fun z => q2 z.2))
  refine ⟨rfl, ?_⟩
  show ab_W _ _ _ (0, [.ref β, .int (nI s), .retAddr 0], [], (0, 0), h)
  refine ab_W.go (mm _) 2 (c' := (2, [.ref β, .int (nI s), .int (nI 0)], [], (0, 0), h)) rfl ?_
  exact loop 0 (Nat.zero_le _) (fun j hj => absurd hj (Nat.not_lt_zero j))
theorem sp_befNone (d : Nat) {h : ab_H} {β : Nat} {c : Ci} (hc : cir h β c) {post : ab_P} (hp : post (some (.int (nI (cn (fun s => pr c s = true ∧ ¬ ∃ t, t < 12 ∧ pr c t = true ∧ ordN (ht c s) (ht c t) = 1) 12)))) h) : mCC (d + 3) kCircle_countBeforeNone [.ref β] h post := by
  obtain ⟨c1, ⟨q, c2, c3⟩, c4⟩ := id hc
  obtain ⟨P, hP⟩ : ∃ P : Nat → Prop, P = fun s => pr c s = true ∧ ¬ ∃ t, t < 12 ∧ pr c t = true ∧ ordN (ht c s) (ht c t) = 1 := ⟨_, rfl⟩
  rw [← hP] at hp
  have loop : ∀ s, s ≤ 12 → ab_W (ab_st (mT kCircle_countBeforeNone) mB mF (mR kCircle_countBeforeNone) none) (mCC (d + 2)) post (4, [.ref β, .int (nI (cn P s)), .int (nI s)], [], (0, 0), h) := by
    refine down 12 ?_ ?_
    · skip
      refine ab_W.go (mm _) 2 (c' := (7, [.ref β, .int (nI (cn P 12)), .int (nI 12)], [.int (nI 12), .int (nI 12)], (0, 0), h)) rfl ?_
      refine ab_W.itT (mm _) (p := (nI 12) ≤ (nI 12)) (c1 := (39, [.ref β, .int (nI (cn P 12)), .int (nI 12)], [], (0, 0), h)) (c2 := (10, [.ref β, .int (nI (cn P 12)), .int (nI 12)], [], (0, 0), h)) rfl ((by decide)) ?_
      refine ab_W.go (mm _) 1 (c' := (40, [.ref β, .int (nI (cn P 12)), .int (nI 12)], [.int (nI (cn P 12))], (0, 0), h)) rfl ?_
      refine ab_W.retI (mm _) (rt := some .int) (v := nI (cn P 12)) rfl rfl ?_
      exact hp
    · intro s hs ih
      have e := (c4 s hs).1
      refine ab_W.go (mm _) 2 (c' := (7, [.ref β, .int (nI (cn P s)), .int (nI s)], [.int (nI 12), .int (nI s)], (0, 0), h)) rfl ?_
      refine ab_W.itF (mm _) (p := (nI 12) ≤ (nI s)) (c1 := (39, [.ref β, .int (nI (cn P s)), .int (nI s)], [], (0, 0), h)) (c2 := (10, [.ref β, .int (nI (cn P s)), .int (nI s)], [], (0, 0), h)) rfl (fun z => absurd ((nI_leI (by omega) (by omega)).mp z) (by omega)) ?_
      refine ab_W.go (mm _) 1 (c' := (11, [.ref β, .int (nI (cn P s)), .int (nI s)], [.ref β], (0, 0), h)) rfl ?_
      refine ab_W.o (mm _) (c1) rfl (c' := (14, [.ref β, .int (nI (cn P s)), .int (nI s)], [.ref (β + 1)], (0, 0), h)) rfl ?_
      refine ab_W.go (mm _) 1 (c' := (15, [.ref β, .int (nI (cn P s)), .int (nI s)], [.int (nI s), .ref (β + 1)], (0, 0), h)) rfl ?_
      refine ab_W.aref (mm _) (j := s) (c2) (c3 s hs) rfl (by omega) rfl rfl rfl ?_
      show ab_W _ _ _ (16, [.ref β, .int (nI (cn P s)), .int (nI s)], [.ref (β + 2 + 2 * s)], (0, 0), h)
      refine ab_W.o (mm _) (e) rfl (c' := (19, [.ref β, .int (nI (cn P s)), .int (nI s)], [.int (b2i (pr c s))], (0, 0), h)) rfl ?_
      refine ab_W.ite (mm _) (p := (b2i (pr c s)) = 0) (c1 := (33, [.ref β, .int (nI (cn P s)), .int (nI s)], [], (0, 0), h)) (c2 := (22, [.ref β, .int (nI (cn P s)), .int (nI s)], [], (0, 0), h)) rfl (fun q1 => ?_) (fun q1 => ?_)
      · skip
        have q1 := b2i_0.mp q1
        rw [cn_f (p := P) (by rw [hP]; exact fun z => by have := z.1; rw [q1] at this; cases this)] at ih
        refine ab_W.go (mm _) 1 (c' := (36, [.ref β, .int (nI (cn P s)), .int (nI s + nI 1)], [], (0, 0), h)) rfl ?_
        rw [nI_add s 1]
        refine ab_W.go (mm _) 1 (c' := (4, [.ref β, .int (nI (cn P s)), .int (nI (s + 1))], [], (0, 0), h)) rfl ?_
        exact ih
      · skip
        have q1 := pr_t q1
        refine ab_W.go (mm _) 2 (c' := (24, [.ref β, .int (nI (cn P s)), .int (nI s)], [.int (nI s), .ref β], (0, 0), h)) rfl ?_
        refine ab_W.callV (mm _) (c1) rfl (k := 11) (av := [.ref β, .int (nI s)]) (c' := (27, [.ref β, .int (nI (cn P s)), .int (nI s)], [], (0, 0), h)) rfl ?_
        refine sp_isBef d hc hs (fun v hv => ?_)
        rcases hv with ⟨q2, rfl⟩ | ⟨q2, rfl⟩
        · rw [cn_f (p := P) (by rw [hP]; exact fun z => z.2 q2)] at ih
          show ab_W _ _ _ (27, [.ref β, .int (nI (cn P s)), .int (nI s)], [.int (nI 1)], (0, 0), h)
          refine ab_W.itF (mm _) (p := (nI 1) = 0) (c1 := (30, [.ref β, .int (nI (cn P s)), .int (nI s)], [], (0, 0), h)) (c2 := (33, [.ref β, .int (nI (cn P s)), .int (nI s)], [], (0, 0), h)) rfl (nI_ne01) ?_
          refine ab_W.go (mm _) 1 (c' := (36, [.ref β, .int (nI (cn P s)), .int (nI s + nI 1)], [], (0, 0), h)) rfl ?_
          rw [nI_add s 1]
          refine ab_W.go (mm _) 1 (c' := (4, [.ref β, .int (nI (cn P s)), .int (nI (s + 1))], [], (0, 0), h)) rfl ?_
          exact ih
        · rw [cn_t (p := P) (by rw [hP]; exact ⟨q1, q2⟩)] at ih
          show ab_W _ _ _ (27, [.ref β, .int (nI (cn P s)), .int (nI s)], [.int (nI 0)], (0, 0), h)
          refine ab_W.itT (mm _) (p := (nI 0) = 0) (c1 := (30, [.ref β, .int (nI (cn P s)), .int (nI s)], [], (0, 0), h)) (c2 := (33, [.ref β, .int (nI (cn P s)), .int (nI s)], [], (0, 0), h)) rfl (nI_0) ?_
          refine ab_W.go (mm _) 1 (c' := (33, [.ref β, .int (nI (cn P s) + nI 1), .int (nI s)], [], (0, 0), h)) rfl ?_
          rw [nI_add (cn P s) 1]
          refine ab_W.go (mm _) 1 (c' := (36, [.ref β, .int (nI ((cn P s) + 1)), .int (nI s + nI 1)], [], (0, 0), h)) rfl ?_
          rw [nI_add s 1]
          refine ab_W.go (mm _) 1 (c' := (4, [.ref β, .int (nI ((cn P s) + 1)), .int (nI (s + 1))], [], (0, 0), h)) rfl ?_
          exact ih
  refine ⟨rfl, ?_⟩
  show ab_W _ _ _ (0, [.ref β, .retAddr 0, .retAddr 0], [], (0, 0), h)
  refine ab_W.go (mm _) 4 (c' := (4, [.ref β, .int (nI 0), .int (nI 0)], [], (0, 0), h)) rfl ?_
  exact loop 0 (Nat.zero_le _)
