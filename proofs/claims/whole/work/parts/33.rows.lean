/-! trees of the class -/
def rowP (h : ab_H) (r : Nat) (L : List Int32) : Prop := h[r]? = some (.inr (2, [.ref (r + 1), .int (nI L.length)])) ∧ ∃ g, h[r + 1]? = some (.inl (0, 190, .inl g)) ∧ ∀ i, i < L.length → L[i]? = some (g i)
theorem sp_add (d : Nat) {h : ab_H} {r : Nat} {L : List Int32} {v : Int32} (hr : rowP h r L) (hL : L.length < 190) {post : ab_P} (hp : ∀ h', rowP h' r (L ++ [v]) → (∀ i, i ≠ r → i ≠ r + 1 → h'[i]? = h[i]?) → post none h') : mCC (d + 1) kRow_add [.ref r, .int v] h post := by
  obtain ⟨r1, g, r2, r3⟩ := hr
  have r1' : (h.set (r + 1) (.inl (0, 190, .inl (upd g L.length v))))[r]? = some (.inr (2, [.ref (r + 1), .int (nI L.length)])) := (set_ne (by omega)).trans r1
  refine ⟨rfl, ?_⟩
  show ab_W _ _ _ (0, [.ref r, .int v], [], (0, 0), h)
  refine ab_W.go (mm _) 1 (c' := (1, [.ref r, .int v], [.ref r], (0, 0), h)) rfl ?_
  refine ab_W.o (mm _) (r1) rfl (c' := (4, [.ref r, .int v], [.int (nI L.length)], (0, 0), h)) rfl ?_
  refine ab_W.go (mm _) 1 (c' := (7, [.ref r, .int v], [.int (nI 190), .int (nI L.length)], (0, 0), h)) rfl ?_
  refine ab_W.itF (mm _) (p := (nI 190) ≤ (nI L.length)) (c1 := (30, [.ref r, .int v], [], (0, 0), h)) (c2 := (10, [.ref r, .int v], [], (0, 0), h)) rfl (fun z => absurd ((nI_leI (by omega) (by omega)).mp z) (by omega)) ?_
  refine ab_W.go (mm _) 1 (c' := (11, [.ref r, .int v], [.ref r], (0, 0), h)) rfl ?_
  refine ab_W.o (mm _) (r1) rfl (c' := (14, [.ref r, .int v], [.ref (r + 1)], (0, 0), h)) rfl ?_
  refine ab_W.go (mm _) 1 (c' := (15, [.ref r, .int v], [.ref r, .ref (r + 1)], (0, 0), h)) rfl ?_
  refine ab_W.o (mm _) (r1) rfl (c' := (18, [.ref r, .int v], [.int (nI L.length), .ref (r + 1)], (0, 0), h)) rfl ?_
  refine ab_W.go (mm _) 1 (c' := (19, [.ref r, .int v], [.int v, .int (nI L.length), .ref (r + 1)], (0, 0), h)) rfl ?_
  refine ab_W.iast (mm _) (j := L.length) (r2) rfl (by omega) rfl rfl ?_
  show ab_W _ _ _ (20, [.ref r, .int v], [], (0, 0), h.set (r + 1) (.inl (0, 190, .inl (upd g L.length v))))
  refine ab_W.go (mm _) 2 (c' := (22, [.ref r, .int v], [.ref r, .ref r], (0, 0), h.set (r + 1) (.inl (0, 190, .inl (upd g L.length v))))) rfl ?_
  refine ab_W.o (mm _) (r1') rfl (c' := (25, [.ref r, .int v], [.int (nI L.length), .ref r], (0, 0), h.set (r + 1) (.inl (0, 190, .inl (upd g L.length v))))) rfl ?_
  refine ab_W.go (mm _) 2 (c' := (27, [.ref r, .int v], [.int ((nI L.length) + (nI 1)), .ref r], (0, 0), h.set (r + 1) (.inl (0, 190, .inl (upd g L.length v))))) rfl ?_
  refine ab_W.topi (nI_add L.length 1) ?_
  refine ab_W.o (mm _) (r1') rfl (c' := (30, [.ref r, .int v], [], (0, 0), (h.set (r + 1) (.inl (0, 190, .inl (upd g L.length v)))).set r (.inr (2, [.ref (r + 1), .int (nI (L.length + 1))])))) rfl ?_
  refine ab_W.ret (mm _) (v := none) rfl ?_
  refine hp _ ⟨?_, upd g L.length v, (set_ne (by omega)).trans (set_at r2), fun i hi => ?_⟩ (fun i i1 i2 => (set_ne (fun z => i1 z.symm)).trans (set_ne (fun z => i2 z.symm)))
  · rw [show (L ++ [v]).length = L.length + 1 by simp]
    exact set_at r1'
  · rw [show (L ++ [v]).length = L.length + 1 by simp] at hi
    rcases Nat.lt_or_ge i L.length with z | z
    · rw [List.getElem?_append_left z, pk_un (by omega)]
      exact r3 i z
    · have e : i = L.length := by omega
      subst e
      rw [List.getElem?_append_right (Nat.le_refl _), Nat.sub_self, pk_us]
      rfl
/-- the k-th number of a row, or how many there are -/
def tlF (L : List Int32) (x : Int32) : Int32 := if x = -(nI 1) then nI L.length else if ¬ x < 0 ∧ x < nI L.length then L.getD x.toNatClampNeg 0 else -(nI 6)
theorem sp_tell (d : Nat) {h : ab_H} {r : Nat} {L : List Int32} {x : Int32} (hr : rowP h r L) (hL : L.length ≤ 190) {post : ab_P} (hp : post (some (.int (tlF L x))) h) : mCC (d + 1) kRow_tell [.ref r, .int x] h post := by
  obtain ⟨r1, g, r2, r3⟩ := hr
  unfold tlF at hp
  refine ⟨rfl, ?_⟩
  show ab_W _ _ _ (0, [.ref r, .int x], [], (0, 0), h)
  refine ab_W.go (mm _) 2 (c' := (2, [.ref r, .int x], [.int (-(nI 1)), .int x], (0, 0), h)) rfl ?_
  refine ab_W.ite (mm _) (p := x = (-(nI 1))) (c1 := (5, [.ref r, .int x], [], (0, 0), h)) (c2 := (10, [.ref r, .int x], [], (0, 0), h)) rfl (fun q => ?_) (fun q => ?_)
  · skip
    rw [if_pos q] at hp
    refine ab_W.go (mm _) 1 (c' := (6, [.ref r, .int x], [.ref r], (0, 0), h)) rfl ?_
    refine ab_W.o (mm _) (r1) rfl (c' := (9, [.ref r, .int x], [.int (nI L.length)], (0, 0), h)) rfl ?_
    refine ab_W.retI (mm _) (rt := some .int) (v := nI L.length) rfl rfl ?_
    exact hp
  · skip
    rw [if_neg q] at hp
    refine ab_W.go (mm _) 1 (c' := (11, [.ref r, .int x], [.int x], (0, 0), h)) rfl ?_
    refine ab_W.ite (mm _) (p := x < 0) (c1 := (31, [.ref r, .int x], [], (0, 0), h)) (c2 := (14, [.ref r, .int x], [], (0, 0), h)) rfl (fun q1 => ?_) (fun q1 => ?_)
    · skip
      rw [if_neg (fun z => z.1 q1)] at hp
      refine ab_W.go (mm _) 1 (c' := (33, [.ref r, .int x], [.int (-(nI 6))], (0, 0), h)) rfl ?_
      refine ab_W.retI (mm _) (rt := some .int) (v := -(nI 6)) rfl rfl ?_
      exact hp
    · skip
      refine ab_W.go (mm _) 2 (c' := (16, [.ref r, .int x], [.ref r, .int x], (0, 0), h)) rfl ?_
      refine ab_W.o (mm _) (r1) rfl (c' := (19, [.ref r, .int x], [.int (nI L.length), .int x], (0, 0), h)) rfl ?_
      refine ab_W.ite (mm _) (p := (nI L.length) ≤ x) (c1 := (31, [.ref r, .int x], [], (0, 0), h)) (c2 := (22, [.ref r, .int x], [], (0, 0), h)) rfl (fun q2 => ?_) (fun q2 => ?_)
      · skip
        rw [if_neg (fun z => absurd z.2 (Int32.not_lt.mpr q2))] at hp
        refine ab_W.go (mm _) 1 (c' := (33, [.ref r, .int x], [.int (-(nI 6))], (0, 0), h)) rfl ?_
        refine ab_W.retI (mm _) (rt := some .int) (v := -(nI 6)) rfl rfl ?_
        exact hp
      · skip
        have q2 := Int32.not_le.mp q2
        rw [if_pos ⟨q1, q2⟩] at hp
        obtain ⟨j, j1, rfl⟩ := nI_of q1
        have hj : j < L.length := (nI_ltI j1 (by omega)).mp q2
        rw [nI_clamp j1, List.getD_eq_getElem?_getD, r3 j hj] at hp
        refine ab_W.go (mm _) 1 (c' := (23, [.ref r, .int (nI j)], [.ref r], (0, 0), h)) rfl ?_
        refine ab_W.o (mm _) (r1) rfl (c' := (26, [.ref r, .int (nI j)], [.ref (r + 1)], (0, 0), h)) rfl ?_
        refine ab_W.go (mm _) 1 (c' := (27, [.ref r, .int (nI j)], [.int (nI j), .ref (r + 1)], (0, 0), h)) rfl ?_
        refine ab_W.iald (mm _) (j := j) (r2) rfl (by omega) rfl rfl ?_
        show ab_W _ _ _ (28, [.ref r, .int (nI j)], [.int (g j)], (0, 0), h)
        refine ab_W.go (mm _) 1 (c' := (33, [.ref r, .int (nI j)], [.int (g j)], (0, 0), h)) rfl ?_
        refine ab_W.retI (mm _) (rt := some .int) (v := g j) rfl rfl ?_
        exact hp
noncomputable def nT (N : Int64) : Nat → Nat → List Int32
  | 0, k => ci (¬ hits N k) [nI 0] [nI 1]
  | n + 1, k => ci (¬ hits N k) [nI 0] (ci (lies N k) [nI 1] (nI 2 :: (nT N n (2 * k) ++ nT N n (2 * k + 1))))
noncomputable def hT (f : Nat → Int32) : Nat → Nat → Int32 → List Int32
  | 0, k, b => [mn f k - b]
  | n + 1, k, b => ci (alk f k) [mn f k - b] (nI 1000 :: (mn f k - b) :: (hT f n (2 * k) (mn f k) ++ hT f n (2 * k + 1) (mn f k)))
theorem nT_len (N : Int64) : ∀ n k, (nT N n k).length + 1 ≤ 2 ^ (n + 1) := by
  intro n
  induction n with
  | zero =>
    intro k
    by_cases h : hits N k
    · rw [show nT N 0 k = _ from ci_f (fun z => z h)]; decide
    · rw [show nT N 0 k = _ from ci_t h]; decide
  | succ n ih =>
    intro k
    have h2 : 2 ^ (n + 1 + 1) = 2 ^ (n + 1) + 2 ^ (n + 1) := by rw [Nat.pow_succ]; omega
    have hpos : 1 ≤ 2 ^ (n + 1) := Nat.two_pow_pos _
    by_cases h : hits N k
    · by_cases hl : lies N k
      · rw [show nT N (n + 1) k = _ from (ci_f (fun z => z h)).trans (ci_t hl)]
        show 2 ≤ _
        omega
      · rw [show nT N (n + 1) k = _ from (ci_f (fun z => z h)).trans (ci_f hl), List.length_cons, List.length_append]
        have := ih (2 * k)
        have := ih (2 * k + 1)
        omega
    · rw [show nT N (n + 1) k = _ from ci_t h]
      show 2 ≤ _
      omega
theorem hT_len (f : Nat → Int32) : ∀ n k b, (hT f n k b).length + 2 ≤ 3 * 2 ^ n := by
  intro n
  induction n with
  | zero => intro k b; show 1 + 2 ≤ 3; decide
  | succ n ih =>
    intro k b
    have hpos : 1 ≤ 2 ^ n := Nat.two_pow_pos _
    rw [Nat.pow_succ]
    by_cases h : alk f k
    · rw [show hT f (n + 1) k b = _ from ci_t h]
      show 1 + 2 ≤ _
      omega
    · rw [show hT f (n + 1) k b = _ from ci_f h, List.length_cons, List.length_cons, List.length_append]
      have := ih (2 * k) (mn f k)
      have := ih (2 * k + 1) (mn f k)
      omega
theorem lies_eq {N : Int64} {k : Nat} (h1 : 1 ≤ k) (hk : k < 128) : (N &&& msk k) = msk k ↔ lies N k := by
  rw [lies_iff h1 hk]
  constructor
  · intro h j hj
    have hl := inK_lt h1 hk hj
    have h2 : bt (N &&& msk k) j = bt (msk k) j := by rw [h]
    rw [bt_and, (msk_in h1 hk hl).mpr hj, Bool.and_true] at h2
    exact h2
  · intro h
    apply bt_ext
    intro j hj
    rw [bt_and]
    cases hb : bt (msk k) j with
    | false => rw [Bool.and_false]
    | true => rw [h j ((msk_in h1 hk hj).mp hb)]; rfl
theorem sp_wName {r : Nat} {N : Int64} : ∀ (n k : Nat), 1 ≤ k → k < 128 → dep k + n = 6 → ∀ (D : Nat), n + 3 ≤ D → ∀ (h : ab_H) (L : List Int32), rowP h r L → L.length + (nT N n k).length ≤ 190 → ∀ {post : ab_P}, (∀ h', rowP h' r (L ++ nT N n k) → (∀ i, i ≠ r → i ≠ r + 1 → h'[i]? = h[i]?) → post none h') → mCC D kSpanStamps_writeName [.ref r, .long N, .int (nI (beg k)), .int (nI (dep k))] h post := by
  intro n
  induction n with
  | zero =>
    intro k h1 hk hd D hD h L hr hL post hp
    obtain ⟨x, rfl⟩ : ∃ x, D = x + 3 := ⟨D - 3, by omega⟩
    refine ⟨rfl, ?_⟩
    show ab_W _ _ _ (0, [.ref r, .long N, .retAddr 0, .int (nI (beg k)), .int (nI (dep k)), .retAddr 0, .retAddr 0], [], (0, 0), h)
    refine ab_W.go (mm _) 2 (c' := (3, [.ref r, .long N, .retAddr 0, .int (nI (beg k)), .int (nI (dep k)), .retAddr 0, .retAddr 0], [.int (nI (dep k)), .int (nI (beg k))], (0, 0), h)) rfl ?_
    refine ab_W.call (mm _) (k := 23) (av := [.int (nI (beg k)), .int (nI (dep k))]) (c' := (6, [.ref r, .long N, .retAddr 0, .int (nI (beg k)), .int (nI (dep k)), .retAddr 0, .retAddr 0], [], (0, 0), h)) rfl ?_
    refine sp_cellsOf _ h1 hk ?_
    show ab_W _ _ _ (6, [.ref r, .long N, .retAddr 0, .int (nI (beg k)), .int (nI (dep k)), .retAddr 0, .retAddr 0], [.long (msk k)], (0, 0), h)
    refine ab_W.go (mm _) 6 (c' := (14, [.ref r, .long N, .retAddr 0, .int (nI (beg k)), .int (nI (dep k)), .long (msk k), .retAddr 0], [.int (lg_cmp (N &&& (msk k)) (lN 0))], (0, 0), h)) rfl ?_
    refine ab_W.ite (mm _) (p := (lg_cmp (N &&& (msk k)) (lN 0)) = 0) (c1 := (17, [.ref r, .long N, .retAddr 0, .int (nI (beg k)), .int (nI (dep k)), .long (msk k), .retAddr 0], [], (0, 0), h)) (c2 := (25, [.ref r, .long N, .retAddr 0, .int (nI (beg k)), .int (nI (dep k)), .long (msk k), .retAddr 0], [], (0, 0), h)) rfl (fun q => ?_) (fun q => ?_)
    · skip
      have q := (lg_cmp0 _ _).mp q
      rw [and_comm64] at q
      have e : nT N 0 k = [nI 0] := ci_t (fun z => z q)
      rw [e] at hp hL
      refine ab_W.go (mm _) 2 (c' := (19, [.ref r, .long N, .retAddr 0, .int (nI (beg k)), .int (nI (dep k)), .long (msk k), .retAddr 0], [.int (nI 0), .ref r], (0, 0), h)) rfl ?_
      refine ab_W.callV (mm _) (hr.1) rfl (k := 20) (av := [.ref r, .int (nI 0)]) (c' := (22, [.ref r, .long N, .retAddr 0, .int (nI (beg k)), .int (nI (dep k)), .long (msk k), .retAddr 0], [], (0, 0), h)) rfl ?_
      refine sp_add _ hr (by simp at hL; omega) (fun h2 s2 k2 => ?_)
      show ab_W _ _ _ (22, [.ref r, .long N, .retAddr 0, .int (nI (beg k)), .int (nI (dep k)), .long (msk k), .retAddr 0], [], (0, 0), h2)
      refine ab_W.go (mm _) 1 (c' := (80, [.ref r, .long N, .retAddr 0, .int (nI (beg k)), .int (nI (dep k)), .long (msk k), .retAddr 0], [], (0, 0), h2)) rfl ?_
      refine ab_W.ret (mm _) (v := none) rfl ?_
      exact hp h2 s2 k2
    · skip
      have q : hits N k := fun z => q ((lg_cmp0 _ _).mpr (by rw [and_comm64]; exact z))
      have e : nT N 0 k = [nI 1] := ci_f (fun z => z q)
      rw [e] at hp hL
      have fin : ab_W (ab_st (mT kSpanStamps_writeName) mB mF (mR kSpanStamps_writeName) none) (mCC (x + 2)) post (42, [.ref r, .long N, .retAddr 0, .int (nI (beg k)), .int (nI (dep k)), .long (msk k), .retAddr 0], [], (0, 0), h) := by
        refine ab_W.go (mm _) 2 (c' := (44, [.ref r, .long N, .retAddr 0, .int (nI (beg k)), .int (nI (dep k)), .long (msk k), .retAddr 0], [.int (nI 1), .ref r], (0, 0), h)) rfl ?_
        refine ab_W.callV (mm _) (hr.1) rfl (k := 20) (av := [.ref r, .int (nI 1)]) (c' := (47, [.ref r, .long N, .retAddr 0, .int (nI (beg k)), .int (nI (dep k)), .long (msk k), .retAddr 0], [], (0, 0), h)) rfl ?_
        refine sp_add _ hr (by simp at hL; omega) (fun h2 s2 k2 => ?_)
        show ab_W _ _ _ (47, [.ref r, .long N, .retAddr 0, .int (nI (beg k)), .int (nI (dep k)), .long (msk k), .retAddr 0], [], (0, 0), h2)
        refine ab_W.go (mm _) 1 (c' := (80, [.ref r, .long N, .retAddr 0, .int (nI (beg k)), .int (nI (dep k)), .long (msk k), .retAddr 0], [], (0, 0), h2)) rfl ?_
        refine ab_W.ret (mm _) (v := none) rfl ?_
        exact hp h2 s2 k2
      refine ab_W.go (mm _) 5 (c' := (32, [.ref r, .long N, .retAddr 0, .int (nI (beg k)), .int (nI (dep k)), .long (msk k), .retAddr 0], [.int (lg_cmp (N &&& (msk k)) (msk k))], (0, 0), h)) rfl ?_
      refine ab_W.ite (mm _) (p := (lg_cmp (N &&& (msk k)) (msk k)) = 0) (c1 := (42, [.ref r, .long N, .retAddr 0, .int (nI (beg k)), .int (nI (dep k)), .long (msk k), .retAddr 0], [], (0, 0), h)) (c2 := (35, [.ref r, .long N, .retAddr 0, .int (nI (beg k)), .int (nI (dep k)), .long (msk k), .retAddr 0], [], (0, 0), h)) rfl (fun q2 => ?_) (fun q2 => ?_)
      · skip
        exact fin
      · skip
        refine ab_W.go (mm _) 2 (c' := (39, [.ref r, .long N, .retAddr 0, .int (nI (beg k)), .int (nI (dep k)), .long (msk k), .retAddr 0], [.int (nI 6), .int (nI (dep k))], (0, 0), h)) rfl ?_
        refine ab_W.itF (mm _) (p := (nI (dep k)) < (nI 6)) (c1 := (50, [.ref r, .long N, .retAddr 0, .int (nI (beg k)), .int (nI (dep k)), .long (msk k), .retAddr 0], [], (0, 0), h)) (c2 := (42, [.ref r, .long N, .retAddr 0, .int (nI (beg k)), .int (nI (dep k)), .long (msk k), .retAddr 0], [], (0, 0), h)) rfl (by rw [show dep k = 6 by omega]; decide) ?_
        exact fin
  | succ n ih =>
    intro k h1 hk hd D hD h L hr hL post hp
    obtain ⟨x, rfl⟩ : ∃ x, D = x + 4 := ⟨D - 4, by omega⟩
    have hk64 := dep_lt h1 hk hd
    obtain ⟨e1, e2, e3, e4, e5, e6, e7, e8⟩ := sp_half k hk64 h1
    refine ⟨rfl, ?_⟩
    show ab_W _ _ _ (0, [.ref r, .long N, .retAddr 0, .int (nI (beg k)), .int (nI (dep k)), .retAddr 0, .retAddr 0], [], (0, 0), h)
    refine ab_W.go (mm _) 2 (c' := (3, [.ref r, .long N, .retAddr 0, .int (nI (beg k)), .int (nI (dep k)), .retAddr 0, .retAddr 0], [.int (nI (dep k)), .int (nI (beg k))], (0, 0), h)) rfl ?_
    refine ab_W.call (mm _) (k := 23) (av := [.int (nI (beg k)), .int (nI (dep k))]) (c' := (6, [.ref r, .long N, .retAddr 0, .int (nI (beg k)), .int (nI (dep k)), .retAddr 0, .retAddr 0], [], (0, 0), h)) rfl ?_
    refine sp_cellsOf (x + 1) h1 hk ?_
    show ab_W _ _ _ (6, [.ref r, .long N, .retAddr 0, .int (nI (beg k)), .int (nI (dep k)), .retAddr 0, .retAddr 0], [.long (msk k)], (0, 0), h)
    refine ab_W.go (mm _) 6 (c' := (14, [.ref r, .long N, .retAddr 0, .int (nI (beg k)), .int (nI (dep k)), .long (msk k), .retAddr 0], [.int (lg_cmp (N &&& (msk k)) (lN 0))], (0, 0), h)) rfl ?_
    refine ab_W.ite (mm _) (p := (lg_cmp (N &&& (msk k)) (lN 0)) = 0) (c1 := (17, [.ref r, .long N, .retAddr 0, .int (nI (beg k)), .int (nI (dep k)), .long (msk k), .retAddr 0], [], (0, 0), h)) (c2 := (25, [.ref r, .long N, .retAddr 0, .int (nI (beg k)), .int (nI (dep k)), .long (msk k), .retAddr 0], [], (0, 0), h)) rfl (fun q => ?_) (fun q => ?_)
    · skip
      have q := (lg_cmp0 _ _).mp q
      rw [and_comm64] at q
      have e : nT N (n + 1) k = [nI 0] := ci_t (fun z => z q)
      rw [e] at hp hL
      refine ab_W.go (mm _) 2 (c' := (19, [.ref r, .long N, .retAddr 0, .int (nI (beg k)), .int (nI (dep k)), .long (msk k), .retAddr 0], [.int (nI 0), .ref r], (0, 0), h)) rfl ?_
      refine ab_W.callV (mm _) (hr.1) rfl (k := 20) (av := [.ref r, .int (nI 0)]) (c' := (22, [.ref r, .long N, .retAddr 0, .int (nI (beg k)), .int (nI (dep k)), .long (msk k), .retAddr 0], [], (0, 0), h)) rfl ?_
      refine sp_add (x + 2) hr (by simp at hL; omega) (fun h2 s2 k2 => ?_)
      show ab_W _ _ _ (22, [.ref r, .long N, .retAddr 0, .int (nI (beg k)), .int (nI (dep k)), .long (msk k), .retAddr 0], [], (0, 0), h2)
      refine ab_W.go (mm _) 1 (c' := (80, [.ref r, .long N, .retAddr 0, .int (nI (beg k)), .int (nI (dep k)), .long (msk k), .retAddr 0], [], (0, 0), h2)) rfl ?_
      refine ab_W.ret (mm _) (v := none) rfl ?_
      exact hp h2 s2 k2
    · skip
      have q : hits N k := fun z => q ((lg_cmp0 _ _).mpr (by rw [and_comm64]; exact z))
      refine ab_W.go (mm _) 5 (c' := (32, [.ref r, .long N, .retAddr 0, .int (nI (beg k)), .int (nI (dep k)), .long (msk k), .retAddr 0], [.int (lg_cmp (N &&& (msk k)) (msk k))], (0, 0), h)) rfl ?_
      refine ab_W.ite (mm _) (p := (lg_cmp (N &&& (msk k)) (msk k)) = 0) (c1 := (42, [.ref r, .long N, .retAddr 0, .int (nI (beg k)), .int (nI (dep k)), .long (msk k), .retAddr 0], [], (0, 0), h)) (c2 := (35, [.ref r, .long N, .retAddr 0, .int (nI (beg k)), .int (nI (dep k)), .long (msk k), .retAddr 0], [], (0, 0), h)) rfl (fun q2 => ?_) (fun q2 => ?_)
      · skip
        have q2 := (lies_eq h1 hk).mp ((lg_cmp0 _ _).mp q2)
        have e : nT N (n + 1) k = [nI 1] := (ci_f (fun z => z q)).trans (ci_t q2)
        rw [e] at hp hL
        refine ab_W.go (mm _) 2 (c' := (44, [.ref r, .long N, .retAddr 0, .int (nI (beg k)), .int (nI (dep k)), .long (msk k), .retAddr 0], [.int (nI 1), .ref r], (0, 0), h)) rfl ?_
        refine ab_W.callV (mm _) (hr.1) rfl (k := 20) (av := [.ref r, .int (nI 1)]) (c' := (47, [.ref r, .long N, .retAddr 0, .int (nI (beg k)), .int (nI (dep k)), .long (msk k), .retAddr 0], [], (0, 0), h)) rfl ?_
        refine sp_add (x + 2) hr (by simp at hL; omega) (fun h2 s2 k2 => ?_)
        show ab_W _ _ _ (47, [.ref r, .long N, .retAddr 0, .int (nI (beg k)), .int (nI (dep k)), .long (msk k), .retAddr 0], [], (0, 0), h2)
        refine ab_W.go (mm _) 1 (c' := (80, [.ref r, .long N, .retAddr 0, .int (nI (beg k)), .int (nI (dep k)), .long (msk k), .retAddr 0], [], (0, 0), h2)) rfl ?_
        refine ab_W.ret (mm _) (v := none) rfl ?_
        exact hp h2 s2 k2
      · skip
        have q2 : ¬ lies N k := fun z => q2 ((lg_cmp0 _ _).mpr ((lies_eq h1 hk).mpr z))
        have e : nT N (n + 1) k = nI 2 :: (nT N n (2 * k) ++ nT N n (2 * k + 1)) := (ci_f (fun z => z q)).trans (ci_f q2)
        rw [e] at hp hL
        rw [List.length_cons, List.length_append] at hL
        refine ab_W.go (mm _) 2 (c' := (39, [.ref r, .long N, .retAddr 0, .int (nI (beg k)), .int (nI (dep k)), .long (msk k), .retAddr 0], [.int (nI 6), .int (nI (dep k))], (0, 0), h)) rfl ?_
        refine ab_W.itT (mm _) (p := (nI (dep k)) < (nI 6)) (c1 := (50, [.ref r, .long N, .retAddr 0, .int (nI (beg k)), .int (nI (dep k)), .long (msk k), .retAddr 0], [], (0, 0), h)) (c2 := (42, [.ref r, .long N, .retAddr 0, .int (nI (beg k)), .int (nI (dep k)), .long (msk k), .retAddr 0], [], (0, 0), h)) rfl ((nI_ltI (by omega) (by omega)).mpr (by omega)) ?_
        refine ab_W.go (mm _) 2 (c' := (52, [.ref r, .long N, .retAddr 0, .int (nI (beg k)), .int (nI (dep k)), .long (msk k), .retAddr 0], [.int (nI 2), .ref r], (0, 0), h)) rfl ?_
        refine ab_W.callV (mm _) (hr.1) rfl (k := 20) (av := [.ref r, .int (nI 2)]) (c' := (55, [.ref r, .long N, .retAddr 0, .int (nI (beg k)), .int (nI (dep k)), .long (msk k), .retAddr 0], [], (0, 0), h)) rfl ?_
        refine sp_add (x + 2) hr (by omega) (fun h2 s2 k2 => ?_)
        show ab_W _ _ _ (55, [.ref r, .long N, .retAddr 0, .int (nI (beg k)), .int (nI (dep k)), .long (msk k), .retAddr 0], [], (0, 0), h2)
        refine ab_W.go (mm _) 6 (c' := (62, [.ref r, .long N, .retAddr 0, .int (nI (beg k)), .int (nI (dep k)), .long (msk k), .retAddr 0], [.int ((nI (dep k)) + (nI 1)), .int (nI (beg k)), .long N, .ref r], (0, 0), h2)) rfl ?_
        refine ab_W.topi (nI_add (dep k) 1) ?_
        refine ab_W.call (mm _) (k := 61) (av := [.ref r, .long N, .int (nI (beg k)), .int (nI (dep k + 1))]) (c' := (65, [.ref r, .long N, .retAddr 0, .int (nI (beg k)), .int (nI (dep k)), .long (msk k), .retAddr 0], [], (0, 0), h2)) rfl ?_
        have key := ih (2 * k) (by omega) (by omega) (by omega) (x + 3) (by omega) h2 (L ++ [nI 2]) s2 (by simp; omega) (post := fun v h' => ab_W (ab_st (mT kSpanStamps_writeName) mB mF (mR kSpanStamps_writeName) none) (mCC (x + 3)) post (65, [.ref r, .long N, .retAddr 0, .int (nI (beg k)), .int (nI (dep k)), .long (msk k), .retAddr 0], v.toList ++ [], (0, 0), h')) (fun h3 s3 k3 => ?_)
        · rw [e3, e1] at key
          exact key
        · skip
          show ab_W _ _ _ (65, [.ref r, .long N, .retAddr 0, .int (nI (beg k)), .int (nI (dep k)), .long (msk k), .retAddr 0], [], (0, 0), h3)
          refine ab_W.go (mm _) 4 (c' := (70, [.ref r, .long N, .retAddr 0, .int (nI (beg k)), .int (nI (dep k)), .long (msk k), .retAddr 0], [.int (nI (dep k)), .int (nI (beg k)), .long N, .ref r], (0, 0), h3)) rfl ?_
          refine ab_W.call (mm _) (k := 24) (av := [.int (nI (beg k)), .int (nI (dep k))]) (c' := (73, [.ref r, .long N, .retAddr 0, .int (nI (beg k)), .int (nI (dep k)), .long (msk k), .retAddr 0], [.long N, .ref r], (0, 0), h3)) rfl ?_
          refine sp_upperFirst (x + 1) h1 hk64 ?_
          show ab_W _ _ _ (73, [.ref r, .long N, .retAddr 0, .int (nI (beg k)), .int (nI (dep k)), .long (msk k), .retAddr 0], [.int (nI (beg (2 * k + 1))), .long N, .ref r], (0, 0), h3)
          refine ab_W.go (mm _) 3 (c' := (77, [.ref r, .long N, .retAddr 0, .int (nI (beg k)), .int (nI (dep k)), .long (msk k), .retAddr 0], [.int ((nI (dep k)) + (nI 1)), .int (nI (beg (2 * k + 1))), .long N, .ref r], (0, 0), h3)) rfl ?_
          refine ab_W.topi (nI_add (dep k) 1) ?_
          refine ab_W.call (mm _) (k := 61) (av := [.ref r, .long N, .int (nI (beg (2 * k + 1))), .int (nI (dep k + 1))]) (c' := (80, [.ref r, .long N, .retAddr 0, .int (nI (beg k)), .int (nI (dep k)), .long (msk k), .retAddr 0], [], (0, 0), h3)) rfl ?_
          have key := ih (2 * k + 1) (by omega) (by omega) (by omega) (x + 3) (by omega) h3 (L ++ [nI 2] ++ nT N n (2 * k)) s3 (by simp; omega) (post := fun v h' => ab_W (ab_st (mT kSpanStamps_writeName) mB mF (mR kSpanStamps_writeName) none) (mCC (x + 3)) post (80, [.ref r, .long N, .retAddr 0, .int (nI (beg k)), .int (nI (dep k)), .long (msk k), .retAddr 0], v.toList ++ [], (0, 0), h')) (fun h4 s4 k4 => ?_)
          · rw [e2] at key
            exact key
          · skip
            show ab_W _ _ _ (80, [.ref r, .long N, .retAddr 0, .int (nI (beg k)), .int (nI (dep k)), .long (msk k), .retAddr 0], [], (0, 0), h4)
            refine ab_W.ret (mm _) (v := none) rfl ?_
            refine hp h4 ?_ (fun i i1 i2 => (k4 i i1 i2).trans ((k3 i i1 i2).trans (k2 i i1 i2)))
            rw [show L ++ nI 2 :: (nT N n (2 * k) ++ nT N n (2 * k + 1)) = L ++ [nI 2] ++ nT N n (2 * k) ++ nT N n (2 * k + 1) by simp]
            exact s4
theorem sp_wHeights {r a : Nat} {f : Nat → Int32} (n1 : a ≠ r) (n2 : a ≠ r + 1) : ∀ (n k : Nat), 1 ≤ k → k < 128 → dep k + n = 6 → ∀ (D : Nat), n + 3 ≤ D → ∀ (h : ab_H) (L : List Int32) (b : Int32), rowP h r L → h[a]? = some (.inl (0, 64, .inl f)) → L.length + (hT f n k b).length ≤ 190 → ∀ {post : ab_P}, (∀ h', rowP h' r (L ++ hT f n k b) → (∀ i, i ≠ r → i ≠ r + 1 → h'[i]? = h[i]?) → post none h') → mCC D kSpanStamps_writeHeights [.ref r, .ref a, .int (nI (beg k)), .int (nI (dep k)), .int b] h post := by
  intro n
  induction n with
  | zero =>
    intro k h1 hk hd D hD h L b hr ha hL post hp
    obtain ⟨x, rfl⟩ : ∃ x, D = x + 3 := ⟨D - 3, by omega⟩
    rw [show hT f 0 k b = [mn f k - b] from rfl] at hp hL
    refine ⟨rfl, ?_⟩
    show ab_W _ _ _ (0, [.ref r, .ref a, .int (nI (beg k)), .int (nI (dep k)), .int b, .retAddr 0], [], (0, 0), h)
    refine ab_W.go (mm _) 3 (c' := (3, [.ref r, .ref a, .int (nI (beg k)), .int (nI (dep k)), .int b, .retAddr 0], [.int (nI (dep k)), .int (nI (beg k)), .ref a], (0, 0), h)) rfl ?_
    refine ab_W.call (mm _) (k := 34) (av := [.ref a, .int (nI (beg k)), .int (nI (dep k))]) (c' := (6, [.ref r, .ref a, .int (nI (beg k)), .int (nI (dep k)), .int b, .retAddr 0], [], (0, 0), h)) rfl ?_
    refine sp_leastOf _ ha h1 hk ?_
    show ab_W _ _ _ (6, [.ref r, .ref a, .int (nI (beg k)), .int (nI (dep k)), .int b, .retAddr 0], [.int (mn f k)], (0, 0), h)
    refine ab_W.go (mm _) 3 (c' := (11, [.ref r, .ref a, .int (nI (beg k)), .int (nI (dep k)), .int b, .int (mn f k)], [.int (nI 6), .int (nI (dep k))], (0, 0), h)) rfl ?_
    refine ab_W.itT (mm _) (p := (nI 6) ≤ (nI (dep k))) (c1 := (23, [.ref r, .ref a, .int (nI (beg k)), .int (nI (dep k)), .int b, .int (mn f k)], [], (0, 0), h)) (c2 := (14, [.ref r, .ref a, .int (nI (beg k)), .int (nI (dep k)), .int b, .int (mn f k)], [], (0, 0), h)) rfl (by rw [show dep k = 6 by omega]; decide) ?_
    refine ab_W.go (mm _) 4 (c' := (29, [.ref r, .ref a, .int (nI (beg k)), .int (nI (dep k)), .int b, .int (mn f k)], [.int ((mn f k) - b), .ref r], (0, 0), h)) rfl ?_
    refine ab_W.callV (mm _) (hr.1) rfl (k := 20) (av := [.ref r, .int ((mn f k) - b)]) (c' := (32, [.ref r, .ref a, .int (nI (beg k)), .int (nI (dep k)), .int b, .int (mn f k)], [], (0, 0), h)) rfl ?_
    refine sp_add _ hr (by simp at hL; omega) (fun h2 s2 k2 => ?_)
    show ab_W _ _ _ (32, [.ref r, .ref a, .int (nI (beg k)), .int (nI (dep k)), .int b, .int (mn f k)], [], (0, 0), h2)
    refine ab_W.go (mm _) 1 (c' := (77, [.ref r, .ref a, .int (nI (beg k)), .int (nI (dep k)), .int b, .int (mn f k)], [], (0, 0), h2)) rfl ?_
    refine ab_W.ret (mm _) (v := none) rfl ?_
    exact hp h2 s2 k2
  | succ n ih =>
    intro k h1 hk hd D hD h L b hr ha hL post hp
    obtain ⟨x, rfl⟩ : ∃ x, D = x + 4 := ⟨D - 4, by omega⟩
    have hk64 := dep_lt h1 hk hd
    obtain ⟨e1, e2, e3, e4, e5, e6, e7, e8⟩ := sp_half k hk64 h1
    refine ⟨rfl, ?_⟩
    show ab_W _ _ _ (0, [.ref r, .ref a, .int (nI (beg k)), .int (nI (dep k)), .int b, .retAddr 0], [], (0, 0), h)
    refine ab_W.go (mm _) 3 (c' := (3, [.ref r, .ref a, .int (nI (beg k)), .int (nI (dep k)), .int b, .retAddr 0], [.int (nI (dep k)), .int (nI (beg k)), .ref a], (0, 0), h)) rfl ?_
    refine ab_W.call (mm _) (k := 34) (av := [.ref a, .int (nI (beg k)), .int (nI (dep k))]) (c' := (6, [.ref r, .ref a, .int (nI (beg k)), .int (nI (dep k)), .int b, .retAddr 0], [], (0, 0), h)) rfl ?_
    refine sp_leastOf (x + 1) ha h1 hk ?_
    show ab_W _ _ _ (6, [.ref r, .ref a, .int (nI (beg k)), .int (nI (dep k)), .int b, .retAddr 0], [.int (mn f k)], (0, 0), h)
    refine ab_W.go (mm _) 3 (c' := (11, [.ref r, .ref a, .int (nI (beg k)), .int (nI (dep k)), .int b, .int (mn f k)], [.int (nI 6), .int (nI (dep k))], (0, 0), h)) rfl ?_
    refine ab_W.itF (mm _) (p := (nI 6) ≤ (nI (dep k))) (c1 := (23, [.ref r, .ref a, .int (nI (beg k)), .int (nI (dep k)), .int b, .int (mn f k)], [], (0, 0), h)) (c2 := (14, [.ref r, .ref a, .int (nI (beg k)), .int (nI (dep k)), .int b, .int (mn f k)], [], (0, 0), h)) rfl (fun z => absurd ((nI_leI (by omega) (by omega)).mp z) (by omega)) ?_
    refine ab_W.go (mm _) 3 (c' := (17, [.ref r, .ref a, .int (nI (beg k)), .int (nI (dep k)), .int b, .int (mn f k)], [.int (nI (dep k)), .int (nI (beg k)), .ref a], (0, 0), h)) rfl ?_
    refine ab_W.call (mm _) (k := 32) (av := [.ref a, .int (nI (beg k)), .int (nI (dep k))]) (c' := (20, [.ref r, .ref a, .int (nI (beg k)), .int (nI (dep k)), .int b, .int (mn f k)], [], (0, 0), h)) rfl ?_
    refine sp_isAlike (x + 1) ha h1 hk (fun v hv => ?_)
    rcases hv with ⟨q, rfl⟩ | ⟨q, rfl⟩
    · have e : hT f (n + 1) k b = [mn f k - b] := ci_t q
      rw [e] at hp hL
      show ab_W _ _ _ (20, [.ref r, .ref a, .int (nI (beg k)), .int (nI (dep k)), .int b, .int (mn f k)], [.int (nI 1)], (0, 0), h)
      refine ab_W.itF (mm _) (p := (nI 1) = 0) (c1 := (35, [.ref r, .ref a, .int (nI (beg k)), .int (nI (dep k)), .int b, .int (mn f k)], [], (0, 0), h)) (c2 := (23, [.ref r, .ref a, .int (nI (beg k)), .int (nI (dep k)), .int b, .int (mn f k)], [], (0, 0), h)) rfl (nI_ne01) ?_
      refine ab_W.go (mm _) 4 (c' := (29, [.ref r, .ref a, .int (nI (beg k)), .int (nI (dep k)), .int b, .int (mn f k)], [.int ((mn f k) - b), .ref r], (0, 0), h)) rfl ?_
      refine ab_W.callV (mm _) (hr.1) rfl (k := 20) (av := [.ref r, .int ((mn f k) - b)]) (c' := (32, [.ref r, .ref a, .int (nI (beg k)), .int (nI (dep k)), .int b, .int (mn f k)], [], (0, 0), h)) rfl ?_
      refine sp_add (x + 2) hr (by simp at hL; omega) (fun h2 s2 k2 => ?_)
      show ab_W _ _ _ (32, [.ref r, .ref a, .int (nI (beg k)), .int (nI (dep k)), .int b, .int (mn f k)], [], (0, 0), h2)
      refine ab_W.go (mm _) 1 (c' := (77, [.ref r, .ref a, .int (nI (beg k)), .int (nI (dep k)), .int b, .int (mn f k)], [], (0, 0), h2)) rfl ?_
      refine ab_W.ret (mm _) (v := none) rfl ?_
      exact hp h2 s2 k2
    · have e : hT f (n + 1) k b = nI 1000 :: (mn f k - b) :: (hT f n (2 * k) (mn f k) ++ hT f n (2 * k + 1) (mn f k)) := ci_f q
      rw [e] at hp hL
      rw [List.length_cons, List.length_cons, List.length_append] at hL
      show ab_W _ _ _ (20, [.ref r, .ref a, .int (nI (beg k)), .int (nI (dep k)), .int b, .int (mn f k)], [.int (nI 0)], (0, 0), h)
      refine ab_W.itT (mm _) (p := (nI 0) = 0) (c1 := (35, [.ref r, .ref a, .int (nI (beg k)), .int (nI (dep k)), .int b, .int (mn f k)], [], (0, 0), h)) (c2 := (23, [.ref r, .ref a, .int (nI (beg k)), .int (nI (dep k)), .int b, .int (mn f k)], [], (0, 0), h)) rfl (nI_0) ?_
      refine ab_W.go (mm _) 2 (c' := (39, [.ref r, .ref a, .int (nI (beg k)), .int (nI (dep k)), .int b, .int (mn f k)], [.int (nI 1000), .ref r], (0, 0), h)) rfl ?_
      refine ab_W.callV (mm _) (hr.1) rfl (k := 20) (av := [.ref r, .int (nI 1000)]) (c' := (42, [.ref r, .ref a, .int (nI (beg k)), .int (nI (dep k)), .int b, .int (mn f k)], [], (0, 0), h)) rfl ?_
      refine sp_add (x + 2) hr (by omega) (fun h1' s1 k1 => ?_)
      show ab_W _ _ _ (42, [.ref r, .ref a, .int (nI (beg k)), .int (nI (dep k)), .int b, .int (mn f k)], [], (0, 0), h1')
      refine ab_W.go (mm _) 4 (c' := (48, [.ref r, .ref a, .int (nI (beg k)), .int (nI (dep k)), .int b, .int (mn f k)], [.int ((mn f k) - b), .ref r], (0, 0), h1')) rfl ?_
      refine ab_W.callV (mm _) (s1.1) rfl (k := 20) (av := [.ref r, .int ((mn f k) - b)]) (c' := (51, [.ref r, .ref a, .int (nI (beg k)), .int (nI (dep k)), .int b, .int (mn f k)], [], (0, 0), h1')) rfl ?_
      refine sp_add (x + 2) s1 (by simp; omega) (fun h2 s2 k2 => ?_)
      have a2 : h2[a]? = some (.inl (0, 64, .inl f)) := (k2 a n1 n2).trans ((k1 a n1 n2).trans ha)
      show ab_W _ _ _ (51, [.ref r, .ref a, .int (nI (beg k)), .int (nI (dep k)), .int b, .int (mn f k)], [], (0, 0), h2)
      refine ab_W.go (mm _) 6 (c' := (57, [.ref r, .ref a, .int (nI (beg k)), .int (nI (dep k)), .int b, .int (mn f k)], [.int ((nI (dep k)) + (nI 1)), .int (nI (beg k)), .ref a, .ref r], (0, 0), h2)) rfl ?_
      refine ab_W.topi (nI_add (dep k) 1) ?_
      refine ab_W.go (mm _) 1 (c' := (59, [.ref r, .ref a, .int (nI (beg k)), .int (nI (dep k)), .int b, .int (mn f k)], [.int (mn f k), .int (nI ((dep k) + 1)), .int (nI (beg k)), .ref a, .ref r], (0, 0), h2)) rfl ?_
      refine ab_W.call (mm _) (k := 62) (av := [.ref r, .ref a, .int (nI (beg k)), .int (nI (dep k + 1)), .int (mn f k)]) (c' := (62, [.ref r, .ref a, .int (nI (beg k)), .int (nI (dep k)), .int b, .int (mn f k)], [], (0, 0), h2)) rfl ?_
      have key := ih (2 * k) (by omega) (by omega) (by omega) (x + 3) (by omega) h2 (L ++ [nI 1000] ++ [mn f k - b]) (mn f k) s2 a2 (by simp; omega) (post := fun v h' => ab_W (ab_st (mT kSpanStamps_writeHeights) mB mF (mR kSpanStamps_writeHeights) none) (mCC (x + 3)) post (62, [.ref r, .ref a, .int (nI (beg k)), .int (nI (dep k)), .int b, .int (mn f k)], v.toList ++ [], (0, 0), h')) (fun h3 s3 k3 => ?_)
      · rw [e3, e1] at key
        exact key
      · have a3 : h3[a]? = some (.inl (0, 64, .inl f)) := (k3 a n1 n2).trans a2
        show ab_W _ _ _ (62, [.ref r, .ref a, .int (nI (beg k)), .int (nI (dep k)), .int b, .int (mn f k)], [], (0, 0), h3)
        refine ab_W.go (mm _) 4 (c' := (66, [.ref r, .ref a, .int (nI (beg k)), .int (nI (dep k)), .int b, .int (mn f k)], [.int (nI (dep k)), .int (nI (beg k)), .ref a, .ref r], (0, 0), h3)) rfl ?_
        refine ab_W.call (mm _) (k := 24) (av := [.int (nI (beg k)), .int (nI (dep k))]) (c' := (69, [.ref r, .ref a, .int (nI (beg k)), .int (nI (dep k)), .int b, .int (mn f k)], [.ref a, .ref r], (0, 0), h3)) rfl ?_
        refine sp_upperFirst (x + 1) h1 hk64 ?_
        show ab_W _ _ _ (69, [.ref r, .ref a, .int (nI (beg k)), .int (nI (dep k)), .int b, .int (mn f k)], [.int (nI (beg (2 * k + 1))), .ref a, .ref r], (0, 0), h3)
        refine ab_W.go (mm _) 3 (c' := (72, [.ref r, .ref a, .int (nI (beg k)), .int (nI (dep k)), .int b, .int (mn f k)], [.int ((nI (dep k)) + (nI 1)), .int (nI (beg (2 * k + 1))), .ref a, .ref r], (0, 0), h3)) rfl ?_
        refine ab_W.topi (nI_add (dep k) 1) ?_
        refine ab_W.go (mm _) 1 (c' := (74, [.ref r, .ref a, .int (nI (beg k)), .int (nI (dep k)), .int b, .int (mn f k)], [.int (mn f k), .int (nI ((dep k) + 1)), .int (nI (beg (2 * k + 1))), .ref a, .ref r], (0, 0), h3)) rfl ?_
        refine ab_W.call (mm _) (k := 62) (av := [.ref r, .ref a, .int (nI (beg (2 * k + 1))), .int (nI (dep k + 1)), .int (mn f k)]) (c' := (77, [.ref r, .ref a, .int (nI (beg k)), .int (nI (dep k)), .int b, .int (mn f k)], [], (0, 0), h3)) rfl ?_
        have key := ih (2 * k + 1) (by omega) (by omega) (by omega) (x + 3) (by omega) h3 (L ++ [nI 1000] ++ [mn f k - b] ++ hT f n (2 * k) (mn f k)) (mn f k) s3 a3 (by simp; omega) (post := fun v h' => ab_W (ab_st (mT kSpanStamps_writeHeights) mB mF (mR kSpanStamps_writeHeights) none) (mCC (x + 3)) post (77, [.ref r, .ref a, .int (nI (beg k)), .int (nI (dep k)), .int b, .int (mn f k)], v.toList ++ [], (0, 0), h')) (fun h4 s4 k4 => ?_)
        · rw [e2] at key
          exact key
        · skip
          show ab_W _ _ _ (77, [.ref r, .ref a, .int (nI (beg k)), .int (nI (dep k)), .int b, .int (mn f k)], [], (0, 0), h4)
          refine ab_W.ret (mm _) (v := none) rfl ?_
          refine hp h4 ?_ (fun i i1 i2 => (k4 i i1 i2).trans ((k3 i i1 i2).trans ((k2 i i1 i2).trans (k1 i i1 i2))))
          rw [show L ++ nI 1000 :: (mn f k - b) :: (hT f n (2 * k) (mn f k) ++ hT f n (2 * k + 1) (mn f k)) = L ++ [nI 1000] ++ [mn f k - b] ++ hT f n (2 * k) (mn f k) ++ hT f n (2 * k + 1) (mn f k) by simp]
          exact s4
/-- the lower part of a name that has more than one cell -/
theorem cnt_one : ∀ c, c < 64 → cnt (lN (2 ^ c)) 64 = 1 := by decide +kernel
theorem lsN_lt {N : Int64} (hN : ¬ N = lN 0) (h1 : ¬ cnt N 64 = 1) : lsN N < 64 := by
  obtain ⟨k1, k2, k3, k4⟩ := lsN_ok N
  rcases Nat.lt_or_ge (lsN N) 64 with q | q
  · exact q
  · exfalso
    obtain ⟨s1, s2⟩ := sp_leaf _ k2 q
    obtain ⟨c, hc⟩ := low_ex hN
    have hin := (inS_iff k1 k2).mp k3
    have e : N = lN (2 ^ c) := by
      apply bt_ext
      intro j hj
      rw [bt_pow c hc.1 j hj]
      have hcc := hin c hc.1 hc.2.1
      cases hb : bt N j with
      | true =>
        have hj2 := hin j hj hb
        unfold inK at hcc hj2
        rw [s2] at hcc hj2
        exact (decide_eq_true (by omega)).symm
      | false =>
        refine (decide_eq_false (fun z => ?_)).symm
        rw [z, hc.2.1] at hb
        cases hb
    apply h1
    rw [e]
    exact cnt_one c hc.1
theorem sp_lowerPart (d : Nat) {h : ab_H} {N : Int64} (hN : ¬ N = lN 0) (h1 : ¬ cnt N 64 = 1) {post : ab_P} (hp : post (some (.long (N &&& msk (2 * lsN N)))) h) : mCC (d + 4) kSpan_lowerPart [.long N] h post := by
  have hlt := lsN_lt hN h1
  obtain ⟨k1, k2, k3, k4⟩ := lsN_ok N
  obtain ⟨s1, s2, s3, s4⟩ := sp_le _ k2 k1
  obtain ⟨e1, e2, e3, e4, e5, e6, e7, e8⟩ := sp_half _ hlt k1
  obtain ⟨c, hc⟩ := low_ex hN
  have hin := (inS_iff k1 k2).mp k3 c hc.1 hc.2.1
  have e := anc_of _ k2 k1 c hc.1 hin.1 hin.2
  refine ⟨rfl, ?_⟩
  show ab_W _ _ _ (0, [.long N, .retAddr 0, .retAddr 0], [], (0, 0), h)
  refine ab_W.go (mm _) 1 (c' := (1, [.long N, .retAddr 0, .retAddr 0], [.long N], (0, 0), h)) rfl ?_
  refine ab_W.call (mm _) (k := 27) (av := [.long N]) (c' := (4, [.long N, .retAddr 0, .retAddr 0], [], (0, 0), h)) rfl ?_
  refine sp_depthAround _ hN ?_
  show ab_W _ _ _ (4, [.long N, .retAddr 0, .retAddr 0], [.int (nI (dep (lsN N)))], (0, 0), h)
  refine ab_W.go (mm _) 3 (c' := (7, [.long N, .retAddr 0, .int (nI (dep (lsN N)))], [.long N, .long N], (0, 0), h)) rfl ?_
  refine ab_W.call (mm _) (k := 29) (av := [.long N]) (c' := (10, [.long N, .retAddr 0, .int (nI (dep (lsN N)))], [.long N], (0, 0), h)) rfl ?_
  refine sp_lowestCell _ hc ?_
  show ab_W _ _ _ (10, [.long N, .retAddr 0, .int (nI (dep (lsN N)))], [.int (nI c), .long N], (0, 0), h)
  refine ab_W.go (mm _) 1 (c' := (11, [.long N, .retAddr 0, .int (nI (dep (lsN N)))], [.int (nI (dep (lsN N))), .int (nI c), .long N], (0, 0), h)) rfl ?_
  refine ab_W.call (mm _) (k := 25) (av := [.int (nI c), .int (nI (dep (lsN N)))]) (c' := (14, [.long N, .retAddr 0, .int (nI (dep (lsN N)))], [.long N], (0, 0), h)) rfl ?_
  refine sp_firstAround _ hc.1 s1 ?_
  show ab_W _ _ _ (14, [.long N, .retAddr 0, .int (nI (dep (lsN N)))], [.int (nI (beg (anc c (dep (lsN N))))), .long N], (0, 0), h)
  rw [e, ← e3]
  show ab_W _ _ _ (14, [.long N, .retAddr 0, .int (nI (dep (lsN N)))], [.int (nI (beg (2 * lsN N))), .long N], (0, 0), h)
  refine ab_W.go (mm _) 3 (c' := (17, [.long N, .retAddr 0, .int (nI (dep (lsN N)))], [.int ((nI (dep (lsN N))) + (nI 1)), .int (nI (beg (2 * lsN N))), .long N], (0, 0), h)) rfl ?_
  refine ab_W.topi (nI_add (dep (lsN N)) 1) ?_
  rw [← e1]
  refine ab_W.call (mm _) (k := 23) (av := [.int (nI (beg (2 * lsN N))), .int (nI (dep (2 * lsN N)))]) (c' := (20, [.long N, .retAddr 0, .int (nI (dep (lsN N)))], [.long N], (0, 0), h)) rfl ?_
  refine sp_cellsOf (d + 1) (by omega) (by omega) ?_
  show ab_W _ _ _ (20, [.long N, .retAddr 0, .int (nI (dep (lsN N)))], [.long (msk (2 * lsN N)), .long N], (0, 0), h)
  refine ab_W.go (mm _) 1 (c' := (21, [.long N, .retAddr 0, .int (nI (dep (lsN N)))], [.long (N &&& (msk (2 * lsN N)))], (0, 0), h)) rfl ?_
  refine ab_W.ret (mm _) (v := (some (.long (N &&& (msk (2 * lsN N)))))) rfl ?_
  exact hp
