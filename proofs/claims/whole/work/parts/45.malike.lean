/-! THE REFERENCE: alike, numbers, counts -/
theorem lsF_eq (f : Nat → Int32) (b : Nat) : ∀ n, lsF f b n = mnF f b n := by
  intro n
  induction n with
  | zero => rfl
  | succ n ih =>
    unfold lsF mnF
    rw [ih]
theorem gtF_eq (f : Nat → Int32) (b : Nat) : ∀ n, gtF f b n = mxF f b n := by
  intro n
  induction n with
  | zero => rfl
  | succ n ih =>
    unfold gtF mxF
    rw [ih]
theorem mnF_le (f : Nat → Int32) (b : Nat) : ∀ n j, b ≤ j → j < b + n → mnF f b n ≤ f j := by
  intro n
  induction n with
  | zero => intro j h1 h2; omega
  | succ n ih =>
    intro j h1 h2
    unfold mnF
    by_cases e : j = b + n
    · subst e
      by_cases q : f (b + n) < mnF f b n
      · rw [if_pos q]; exact Int32.le_refl _
      · rw [if_neg q]; exact Int32.not_lt.mp q
    · have := ih j h1 (by omega)
      by_cases q : f (b + n) < mnF f b n
      · rw [if_pos q]; exact Int32.le_trans (Int32.le_of_lt q) this
      · rw [if_neg q]; exact this
theorem le_mxF (f : Nat → Int32) (b : Nat) : ∀ n j, b ≤ j → j < b + n → f j ≤ mxF f b n := by
  intro n
  induction n with
  | zero => intro j h1 h2; omega
  | succ n ih =>
    intro j h1 h2
    unfold mxF
    by_cases e : j = b + n
    · subst e
      by_cases q : mxF f b n < f (b + n)
      · rw [if_pos q]; exact Int32.le_refl _
      · rw [if_neg q]; exact Int32.not_lt.mp q
    · have := ih j h1 (by omega)
      by_cases q : mxF f b n < f (b + n)
      · rw [if_pos q]; exact Int32.le_trans this (Int32.le_of_lt q)
      · rw [if_neg q]; exact this
theorem mnF_al (f : Nat → Int32) (b : Nat) : ∀ n, (∀ j, b ≤ j → j < b + n → f j = f b) → mnF f b n = f b ∧ mxF f b n = f b := by
  intro n
  induction n with
  | zero => intro _; exact ⟨rfl, rfl⟩
  | succ n ih =>
    intro h
    obtain ⟨a1, a2⟩ := ih (fun j h1 h2 => h j h1 (by omega))
    unfold mnF mxF
    rw [a1, a2, h (b + n) (by omega) (by omega)]
    exact ⟨if_neg Int32.lt_irrefl, if_neg Int32.lt_irrefl⟩
theorem alk_iff {f : Nat → Int32} {k : Nat} (h1 : 1 ≤ k) (hk : k < 128) : mn f k = mx f k ↔ alk f k := by
  constructor
  · intro h j hj
    have key : ∀ i, inK k i → f i = mn f k := fun i hi => Int32.le_antisymm (by rw [h]; exact le_mxF f _ _ i hi.1 hi.2) (mnF_le f _ _ i hi.1 hi.2)
    rw [key j hj, key _ (inK_beg h1 hk)]
  · intro h
    obtain ⟨a1, a2⟩ := mnF_al f (beg k) (siz k) (fun j h1 h2 => h j ⟨h1, h2⟩)
    exact a1.trans a2.symm
theorem sp_mmn (d : Nat) {h : ab_H} {hap sz op : Int32} {k : Nat} {f : Nat → Int32} (h0 : h[84]? = some (mObj hap sz op)) (hN : nowP h f) (h1 : 1 ≤ k) (hk : k < 128) {post : ab_P} (hp : post (some (.int (mn f k))) h) : mCC (d + 4) kSpanStampsModel_leastIn [.ref 84, .int (nI k)] h post := sp_mleast d h0 hN h1 hk (by rw [lsF_eq]; exact hp)
theorem sp_mmx (d : Nat) {h : ab_H} {hap sz op : Int32} {k : Nat} {f : Nat → Int32} (h0 : h[84]? = some (mObj hap sz op)) (hN : nowP h f) (h1 : 1 ≤ k) (hk : k < 128) {post : ab_P} (hp : post (some (.int (mx f k))) h) : mCC (d + 4) kSpanStampsModel_greatestIn [.ref 84, .int (nI k)] h post := sp_mgreatest d h0 hN h1 hk (by rw [gtF_eq]; exact hp)
theorem sp_malike (d : Nat) {h : ab_H} {hap sz op : Int32} {k : Nat} {f : Nat → Int32} (h0 : h[84]? = some (mObj hap sz op)) (hN : nowP h f) (h1 : 1 ≤ k) (hk : k < 128) {post : ab_P} (hp : ∀ v : Int32, (alk f k ∧ v = nI 1) ∨ (¬ alk f k ∧ v = nI 0) → post (some (.int v)) h) : mCC (d + 5) kSpanStampsModel_areAlike [.ref 84, .int (nI k)] h post := by
  refine ⟨rfl, ?_⟩
  show ab_W _ _ _ (0, [.ref 84, .int (nI k)], [], (0, 0), h)
  refine ab_W.go (mm _) 2 (c' := (2, [.ref 84, .int (nI k)], [.int (nI k), .ref 84], (0, 0), h)) rfl ?_
  refine ab_W.callV (mm _) (h0) rfl (k := 81) (av := [.ref 84, .int (nI k)]) (c' := (5, [.ref 84, .int (nI k)], [], (0, 0), h)) rfl ?_
  refine sp_mmn _ h0 hN h1 hk ?_
  show ab_W _ _ _ (5, [.ref 84, .int (nI k)], [.int (mn f k)], (0, 0), h)
  refine ab_W.go (mm _) 2 (c' := (7, [.ref 84, .int (nI k)], [.int (nI k), .ref 84, .int (mn f k)], (0, 0), h)) rfl ?_
  refine ab_W.callV (mm _) (h0) rfl (k := 82) (av := [.ref 84, .int (nI k)]) (c' := (10, [.ref 84, .int (nI k)], [.int (mn f k)], (0, 0), h)) rfl ?_
  refine sp_mmx _ h0 hN h1 hk ?_
  show ab_W _ _ _ (10, [.ref 84, .int (nI k)], [.int (mx f k), .int (mn f k)], (0, 0), h)
  refine ab_W.ite (mm _) (p := (mn f k) = (mx f k)) (c1 := (13, [.ref 84, .int (nI k)], [], (0, 0), h)) (c2 := (17, [.ref 84, .int (nI k)], [], (0, 0), h)) rfl (fun q => ?_) (fun q => ?_)
  · skip
    refine ab_W.go (mm _) 2 (c' := (18, [.ref 84, .int (nI k)], [.int (nI 1)], (0, 0), h)) rfl ?_
    refine ab_W.retI (mm _) (rt := some .boolean) (v := nI 1) rfl rfl ?_
    exact hp _ (Or.inl ⟨(alk_iff h1 hk).mp q, rfl⟩)
  · skip
    refine ab_W.go (mm _) 1 (c' := (18, [.ref 84, .int (nI k)], [.int (nI 0)], (0, 0), h)) rfl ?_
    refine ab_W.retI (mm _) (rt := some .boolean) (v := nI 0) rfl rfl ?_
    exact hp _ (Or.inr ⟨fun z => q ((alk_iff h1 hk).mpr z), rfl⟩)
theorem sp_mnumbers (d : Nat) {h : ab_H} {hap sz op : Int32} {p : Nat → Bool} (h0 : h[84]? = some (mObj hap sz op)) (hB : arrB h 85 12 p) {post : ab_P} (hp : post (some (.int (nI (mkN p 12)))) h) : mCC (d + 1) kSpanStampsModel_numbers [.ref 84] h post := by
  obtain ⟨g, g1, g2⟩ := hB
  have loop : ∀ s, s ≤ 12 → ab_W (ab_st (mT kSpanStampsModel_numbers) mB mF (mR kSpanStampsModel_numbers) none) (mCC d) post (4, [.ref 84, .int (nI (mkN p s)), .int (nI s)], [], (0, 0), h) := by
    refine down 12 ?_ ?_
    · skip
      refine ab_W.go (mm _) 2 (c' := (7, [.ref 84, .int (nI (mkN p 12)), .int (nI 12)], [.int (nI 12), .int (nI 12)], (0, 0), h)) rfl ?_
      refine ab_W.itT (mm _) (p := (nI 12) ≤ (nI 12)) (c1 := (35, [.ref 84, .int (nI (mkN p 12)), .int (nI 12)], [], (0, 0), h)) (c2 := (10, [.ref 84, .int (nI (mkN p 12)), .int (nI 12)], [], (0, 0), h)) rfl ((by decide)) ?_
      refine ab_W.go (mm _) 1 (c' := (36, [.ref 84, .int (nI (mkN p 12)), .int (nI 12)], [.int (nI (mkN p 12))], (0, 0), h)) rfl ?_
      refine ab_W.retI (mm _) (rt := some .int) (v := nI (mkN p 12)) rfl rfl ?_
      exact hp
    · intro s hs ih
      refine ab_W.go (mm _) 2 (c' := (7, [.ref 84, .int (nI (mkN p s)), .int (nI s)], [.int (nI 12), .int (nI s)], (0, 0), h)) rfl ?_
      refine ab_W.itF (mm _) (p := (nI 12) ≤ (nI s)) (c1 := (35, [.ref 84, .int (nI (mkN p s)), .int (nI s)], [], (0, 0), h)) (c2 := (10, [.ref 84, .int (nI (mkN p s)), .int (nI s)], [], (0, 0), h)) rfl (fun z => absurd ((nI_leI (by omega) (by omega)).mp z) (by omega)) ?_
      refine ab_W.go (mm _) 2 (c' := (12, [.ref 84, .int (nI (mkN p s)), .int (nI s)], [.ref 84, .int (nI (mkN p s))], (0, 0), h)) rfl ?_
      refine ab_W.o (mm _) (h0) rfl (c' := (15, [.ref 84, .int (nI (mkN p s)), .int (nI s)], [.ref 85, .int (nI (mkN p s))], (0, 0), h)) rfl ?_
      refine ab_W.go (mm _) 1 (c' := (16, [.ref 84, .int (nI (mkN p s)), .int (nI s)], [.int (nI s), .ref 85, .int (nI (mkN p s))], (0, 0), h)) rfl ?_
      refine ab_W.bald (mm _) (j := s) (g1) rfl (by omega) rfl rfl ?_
      show ab_W _ _ _ (17, [.ref 84, .int (nI (mkN p s)), .int (nI s)], [.int (g s), .int (nI (mkN p s))], (0, 0), h)
      refine ab_W.topi (g2 s hs) ?_
      refine ab_W.ite (mm _) (p := (b2i (p s)) = 0) (c1 := (26, [.ref 84, .int (nI (mkN p s)), .int (nI s)], [.int (nI (mkN p s))], (0, 0), h)) (c2 := (20, [.ref 84, .int (nI (mkN p s)), .int (nI s)], [.int (nI (mkN p s))], (0, 0), h)) rfl (fun q => ?_) (fun q => ?_)
      · skip
        rw [mkN_f (b2i_0.mp q)] at ih
        refine ab_W.go (mm _) 2 (c' := (28, [.ref 84, .int (nI (mkN p s)), .int (nI s)], [.int ((nI (mkN p s)) ||| (nI 0))], (0, 0), h)) rfl ?_
        refine ab_W.topi (Int32.or_zero) ?_
        refine ab_W.go (mm _) 2 (c' := (32, [.ref 84, .int (nI (mkN p s)), .int (nI s + nI 1)], [], (0, 0), h)) rfl ?_
        rw [nI_add s 1]
        refine ab_W.go (mm _) 1 (c' := (4, [.ref 84, .int (nI (mkN p s)), .int (nI (s + 1))], [], (0, 0), h)) rfl ?_
        exact ih
      · skip
        have q : p s = true := by
          cases hb : p s with
          | true => rfl
          | false => exact absurd (b2i_0.mpr hb) q
        rw [mkN_t q] at ih
        refine ab_W.go (mm _) 5 (c' := (28, [.ref 84, .int (nI (mkN p s)), .int (nI s)], [.int ((nI (mkN p s)) ||| ((nI 1) <<< ((nI s) &&& 31)))], (0, 0), h)) rfl ?_
        refine ab_W.topi (or_pow s hs _ (mkN_lt _ s)) ?_
        refine ab_W.go (mm _) 2 (c' := (32, [.ref 84, .int (nI (mkN p s + 2 ^ s)), .int (nI s + nI 1)], [], (0, 0), h)) rfl ?_
        rw [nI_add s 1]
        refine ab_W.go (mm _) 1 (c' := (4, [.ref 84, .int (nI (mkN p s + 2 ^ s)), .int (nI (s + 1))], [], (0, 0), h)) rfl ?_
        exact ih
  refine ⟨rfl, ?_⟩
  show ab_W _ _ _ (0, [.ref 84, .retAddr 0, .retAddr 0], [], (0, 0), h)
  refine ab_W.go (mm _) 4 (c' := (4, [.ref 84, .int (nI 0), .int (nI 0)], [], (0, 0), h)) rfl ?_
  exact loop 0 (Nat.zero_le _)
theorem ord_sym {f g : Nat → Int32} : ordN f g = 0 ↔ ordN g f = 0 := by
  unfold ordN
  by_cases a : ∃ c, c < 64 ∧ f c < g c
  · rw [ci_t (p := ∃ c, c < 64 ∧ f c < g c) (a := 1) a, ci_t (p := ∃ c, c < 64 ∧ f c < g c) (a := 2) a]
    omega
  · rw [ci_f (p := ∃ c, c < 64 ∧ f c < g c) (a := 1) a, ci_f (p := ∃ c, c < 64 ∧ f c < g c) (a := 2) a]
    by_cases b : ∃ c, c < 64 ∧ g c < f c
    · rw [ci_t b, ci_t b]
      omega
    · rw [ci_f b, ci_f b]
theorem ord_lt (f g : Nat → Int32) : ordN f g < 4 := by
  unfold ordN
  by_cases a : ∃ c, c < 64 ∧ f c < g c <;> by_cases b : ∃ c, c < 64 ∧ g c < f c <;> simp [ci, a, b]
theorem sp_mbefNone (d : Nat) {h : ab_H} {hap sz op : Int32} {c : Ci} {s : Nat} (h0 : h[84]? = some (mObj hap sz op)) (hB : arrB h 85 12 (pr c)) (hH : arrH h 88 12 (ht c)) (hs : s < 12) {post : ab_P} (hp : ∀ v : Bool, (v = true ↔ ¬ ∃ t, t < 12 ∧ pr c t = true ∧ ordN (ht c s) (ht c t) = 1) → post (some (.int (b2i v))) h) : mCC (d + 2) kSpanStampsModel_isBeforeNone [.ref 84, .int (nI s)] h post := by
  obtain ⟨g, g1, g2⟩ := hB
  have loop : ∀ m, m ≤ 12 → ∀ v : Bool, (v = true ↔ ¬ ∃ t, t < m ∧ pr c t = true ∧ ordN (ht c s) (ht c t) = 1) → ab_W (ab_st (mT kSpanStampsModel_isBeforeNone) mB mF (mR kSpanStampsModel_isBeforeNone) none) (mCC (d + 1)) post (4, [.ref 84, .int (nI s), .int (b2i v), .int (nI m)], [], (0, 0), h) := by
    refine down 12 ?_ ?_
    · intro v hv
      refine ab_W.go (mm _) 2 (c' := (7, [.ref 84, .int (nI s), .int (b2i v), .int (nI 12)], [.int (nI 12), .int (nI 12)], (0, 0), h)) rfl ?_
      refine ab_W.itT (mm _) (p := (nI 12) ≤ (nI 12)) (c1 := (45, [.ref 84, .int (nI s), .int (b2i v), .int (nI 12)], [], (0, 0), h)) (c2 := (10, [.ref 84, .int (nI s), .int (b2i v), .int (nI 12)], [], (0, 0), h)) rfl ((by decide)) ?_
      refine ab_W.go (mm _) 1 (c' := (46, [.ref 84, .int (nI s), .int (b2i v), .int (nI 12)], [.int (b2i v)], (0, 0), h)) rfl ?_
      refine ab_W.retI (mm _) (rt := some .boolean) (v := b2i v) rfl (b2i_ft v) ?_
      exact hp v hv
    · intro m hm ih v hv
      have keep : ¬ (pr c m = true ∧ ordN (ht c s) (ht c m) = 1) → (v = true ↔ ¬ ∃ t, t < m + 1 ∧ pr c t = true ∧ ordN (ht c s) (ht c t) = 1) := by
        intro n
        rw [hv]
        constructor
        · rintro a ⟨t, t1, t2⟩
          by_cases e : t = m
          · rw [e] at t2; exact n t2
          · exact a ⟨t, by omega, t2⟩
        · rintro a ⟨t, t1, t2⟩
          exact a ⟨t, by omega, t2⟩
      refine ab_W.go (mm _) 2 (c' := (7, [.ref 84, .int (nI s), .int (b2i v), .int (nI m)], [.int (nI 12), .int (nI m)], (0, 0), h)) rfl ?_
      refine ab_W.itF (mm _) (p := (nI 12) ≤ (nI m)) (c1 := (45, [.ref 84, .int (nI s), .int (b2i v), .int (nI m)], [], (0, 0), h)) (c2 := (10, [.ref 84, .int (nI s), .int (b2i v), .int (nI m)], [], (0, 0), h)) rfl (fun z => absurd ((nI_leI (by omega) (by omega)).mp z) (by omega)) ?_
      refine ab_W.go (mm _) 1 (c' := (11, [.ref 84, .int (nI s), .int (b2i v), .int (nI m)], [.int (b2i v)], (0, 0), h)) rfl ?_
      cases v with
      | false =>
        show ab_W _ _ _ (11, [.ref 84, .int (nI s), .int (nI 0), .int (nI m)], [.int (nI 0)], (0, 0), h)
        refine ab_W.itT (mm _) (p := (nI 0) = 0) (c1 := (37, [.ref 84, .int (nI s), .int (nI 0), .int (nI m)], [], (0, 0), h)) (c2 := (14, [.ref 84, .int (nI s), .int (nI 0), .int (nI m)], [], (0, 0), h)) rfl (nI_0) ?_
        refine ab_W.go (mm _) 3 (c' := (42, [.ref 84, .int (nI s), .int (nI 0), .int (nI m + nI 1)], [], (0, 0), h)) rfl ?_
        rw [nI_add m 1]
        refine ab_W.go (mm _) 1 (c' := (4, [.ref 84, .int (nI s), .int (nI 0), .int (nI (m + 1))], [], (0, 0), h)) rfl ?_
        refine ih false ⟨fun z => (by cases z), fun z => absurd hv.mpr (fun y => ?_)⟩
        have : false = true := y (fun ⟨t, t1, t2⟩ => z ⟨t, by omega, t2⟩)
        cases this
      | true =>
        show ab_W _ _ _ (11, [.ref 84, .int (nI s), .int (nI 1), .int (nI m)], [.int (nI 1)], (0, 0), h)
        refine ab_W.itF (mm _) (p := (nI 1) = 0) (c1 := (37, [.ref 84, .int (nI s), .int (nI 1), .int (nI m)], [], (0, 0), h)) (c2 := (14, [.ref 84, .int (nI s), .int (nI 1), .int (nI m)], [], (0, 0), h)) rfl (nI_ne01) ?_
        refine ab_W.go (mm _) 1 (c' := (15, [.ref 84, .int (nI s), .int (nI 1), .int (nI m)], [.ref 84], (0, 0), h)) rfl ?_
        refine ab_W.o (mm _) (h0) rfl (c' := (18, [.ref 84, .int (nI s), .int (nI 1), .int (nI m)], [.ref 85], (0, 0), h)) rfl ?_
        refine ab_W.go (mm _) 1 (c' := (19, [.ref 84, .int (nI s), .int (nI 1), .int (nI m)], [.int (nI m), .ref 85], (0, 0), h)) rfl ?_
        refine ab_W.bald (mm _) (j := m) (g1) rfl (by omega) rfl rfl ?_
        show ab_W _ _ _ (20, [.ref 84, .int (nI s), .int (nI 1), .int (nI m)], [.int (g m)], (0, 0), h)
        refine ab_W.topi (g2 m hm) ?_
        refine ab_W.ite (mm _) (p := (b2i (pr c m)) = 0) (c1 := (33, [.ref 84, .int (nI s), .int (nI 1), .int (nI m)], [], (0, 0), h)) (c2 := (23, [.ref 84, .int (nI s), .int (nI 1), .int (nI m)], [], (0, 0), h)) rfl (fun q => ?_) (fun q => ?_)
        · skip
          have q := b2i_0.mp q
          refine ab_W.go (mm _) 4 (c' := (42, [.ref 84, .int (nI s), .int (nI 1), .int (nI m + nI 1)], [], (0, 0), h)) rfl ?_
          rw [nI_add m 1]
          refine ab_W.go (mm _) 1 (c' := (4, [.ref 84, .int (nI s), .int (nI 1), .int (nI (m + 1))], [], (0, 0), h)) rfl ?_
          exact ih true (keep (fun z => by rw [q] at z; cases z.1))
        · skip
          have q : pr c m = true := by
            cases hb : pr c m with
            | true => rfl
            | false => exact absurd (b2i_0.mpr hb) q
          refine ab_W.go (mm _) 3 (c' := (26, [.ref 84, .int (nI s), .int (nI 1), .int (nI m)], [.int (nI m), .int (nI s), .ref 84], (0, 0), h)) rfl ?_
          refine ab_W.callV (mm _) (h0) rfl (k := 99) (av := [.ref 84, .int (nI s), .int (nI m)]) (c' := (29, [.ref 84, .int (nI s), .int (nI 1), .int (nI m)], [], (0, 0), h)) rfl ?_
          refine sp_morder _ h0 hH hs hm ?_
          show ab_W _ _ _ (29, [.ref 84, .int (nI s), .int (nI 1), .int (nI m)], [.int (nI (ordN (ht c s) (ht c m)))], (0, 0), h)
          refine ab_W.go (mm _) 1 (c' := (30, [.ref 84, .int (nI s), .int (nI 1), .int (nI m)], [.int (nI 1), .int (nI (ordN (ht c s) (ht c m)))], (0, 0), h)) rfl ?_
          have l4 := ord_lt (ht c s) (ht c m)
          refine ab_W.ite (mm _) (p := (nI (ordN (ht c s) (ht c m))) = (nI 1)) (c1 := (37, [.ref 84, .int (nI s), .int (nI 1), .int (nI m)], [], (0, 0), h)) (c2 := (33, [.ref 84, .int (nI s), .int (nI 1), .int (nI m)], [], (0, 0), h)) rfl (fun q2 => ?_) (fun q2 => ?_)
          · skip
            have q2 := (nI_eq (by omega) (by omega)).mp q2
            refine ab_W.go (mm _) 3 (c' := (42, [.ref 84, .int (nI s), .int (nI 0), .int (nI m + nI 1)], [], (0, 0), h)) rfl ?_
            rw [nI_add m 1]
            refine ab_W.go (mm _) 1 (c' := (4, [.ref 84, .int (nI s), .int (nI 0), .int (nI (m + 1))], [], (0, 0), h)) rfl ?_
            exact ih false ⟨fun z => (by cases z), fun z => absurd ⟨m, by omega, q, q2⟩ z⟩
          · skip
            have q2 : ¬ ordN (ht c s) (ht c m) = 1 := fun z => q2 (by rw [z])
            refine ab_W.go (mm _) 4 (c' := (42, [.ref 84, .int (nI s), .int (nI 1), .int (nI m + nI 1)], [], (0, 0), h)) rfl ?_
            rw [nI_add m 1]
            refine ab_W.go (mm _) 1 (c' := (4, [.ref 84, .int (nI s), .int (nI 1), .int (nI (m + 1))], [], (0, 0), h)) rfl ?_
            exact ih true (keep (fun z => q2 z.2))
  refine ⟨rfl, ?_⟩
  show ab_W _ _ _ (0, [.ref 84, .int (nI s), .retAddr 0, .retAddr 0], [], (0, 0), h)
  refine ab_W.go (mm _) 4 (c' := (4, [.ref 84, .int (nI s), .int (nI 1), .int (nI 0)], [], (0, 0), h)) rfl ?_
  exact loop 0 (Nat.zero_le _) true ⟨fun _ ⟨t, z, _⟩ => absurd z (Nat.not_lt_zero _), fun _ => rfl⟩
