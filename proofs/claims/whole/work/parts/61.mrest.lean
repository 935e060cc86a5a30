/-! THE REFERENCE: restore -/
def mx1 {α : Type} (A P : Nat → α) (s : Nat) : Nat → α := fun s' => if s' < s then A s' else P s'
theorem mx1_s {α : Type} (A P : Nat → α) (s s' : Nat) : va_up (mx1 A P s) s (A s) s' = mx1 A P (s + 1) s' := by
  by_cases e : s' = s
  · rw [e, va_up_self]
    exact (if_pos (Nat.lt_succ_self _)).symm
  · rw [va_up_ne _ _ e]
    unfold mx1
    by_cases q : s' < s
    · rw [if_pos q, if_pos (by omega)]
    · rw [if_neg q, if_neg (by omega)]
theorem mx1_0 {α : Type} (A P : Nat → α) (s' : Nat) : mx1 A P 0 s' = P s' := if_neg (Nat.not_lt_zero _)
theorem mx1_n {α : Type} {A P : Nat → α} {s s' : Nat} (h : s' < s) : mx1 A P s s' = A s' := if_pos h
theorem mx1_u {A P : Nat → Int32} {g : Nat → Int32} {i n : Nat} (h : ∀ j, j < n → g j = mx1 A P i j) : ∀ j, j < n → upd g i (A i) j = mx1 A P (i + 1) j := by
  intro j hj
  by_cases e : j = i
  · rw [e, upd_at]
    exact (if_pos (Nat.lt_succ_self _)).symm
  · rw [upd_no _ _ e, h j hj]
    unfold mx1
    by_cases q : j < i
    · rw [if_pos q, if_pos (by omega)]
    · rw [if_neg q, if_neg (by omega)]
theorem sp_m_restore (d : Nat) {h : ab_H} {σ : Sg} {y : Int32} (hR : relM h σ) {post : ab_P} (hp : okM h post (resF σ y).1 (resF σ y).2) : mCC (d + 2) kSpanStampsModel_restore [.ref 84, .int y] h post := by
  obtain ⟨⟨sz, op, h0⟩, hB, hN, hK, hH, hS, ⟨g4, a4, b4⟩, ⟨g5, a5, b5⟩, ⟨g6, a6, b6⟩, ⟨g7, a7, b7⟩, ⟨g8, a8, b8⟩, ⟨g9, a9, b9⟩⟩ := id hR
  obtain ⟨gH, c4, d4⟩ := id hH
  rcases pk_ix y (n := 2) (by decide) with q | q | ⟨k, hk, rfl⟩
  · rw [show resF σ y = _ from ci_t (Or.inl q)] at hp
    refine ⟨rfl, ?_⟩
    show ab_W _ _ _ (0, [.ref 84, .int y, .retAddr 0], [], (0, 0), h)
    refine ab_W.go (mm _) 3 (c' := (3, [.ref 84, .int y, .retAddr 0], [.int (nI 1), .int (nI 0), .int y], (0, 0), h)) rfl ?_
    refine ab_W.call (mm _) (k := 64) (av := [.int y, .int (nI 0), .int (nI 1)]) (c' := (6, [.ref 84, .int y, .retAddr 0], [], (0, 0), h)) rfl ?_
    refine min_ _ (fun v hv => ?_)
    have ev : v = nI 0 := hv.elim (fun z => absurd q (Int32.not_lt.mpr z.1.1)) (fun z => z.2)
    subst ev
    show ab_W _ _ _ (6, [.ref 84, .int y, .retAddr 0], [.int (nI 0)], (0, 0), h)
    refine ab_W.itT (mm _) (p := (nI 0) = 0) (c1 := (9, [.ref 84, .int y, .retAddr 0], [], (0, 0), h)) (c2 := (12, [.ref 84, .int y, .retAddr 0], [], (0, 0), h)) rfl (nI_0) ?_
    refine ab_W.go (mm _) 1 (c' := (11, [.ref 84, .int y, .retAddr 0], [.int (-(nI 2))], (0, 0), h)) rfl ?_
    refine ab_W.retI (mm _) (rt := some .int) (v := -(nI 2)) rfl rfl ?_
    exact hp h hR (fun _ _ => rfl)
  · rw [show resF σ y = _ from ci_t (Or.inr q)] at hp
    have q' : nI 1 < y := by
      have a := Int32.le_iff_toInt_le.mp q
      have b : (nI 1).toInt < (nI 2).toInt := by decide
      exact Int32.lt_iff_toInt_lt.mpr (Int.lt_of_lt_of_le b a)
    refine ⟨rfl, ?_⟩
    show ab_W _ _ _ (0, [.ref 84, .int y, .retAddr 0], [], (0, 0), h)
    refine ab_W.go (mm _) 3 (c' := (3, [.ref 84, .int y, .retAddr 0], [.int (nI 1), .int (nI 0), .int y], (0, 0), h)) rfl ?_
    refine ab_W.call (mm _) (k := 64) (av := [.int y, .int (nI 0), .int (nI 1)]) (c' := (6, [.ref 84, .int y, .retAddr 0], [], (0, 0), h)) rfl ?_
    refine min_ _ (fun v hv => ?_)
    have ev : v = nI 0 := hv.elim (fun z => absurd z.1.2 (Int32.not_le.mpr q')) (fun z => z.2)
    subst ev
    show ab_W _ _ _ (6, [.ref 84, .int y, .retAddr 0], [.int (nI 0)], (0, 0), h)
    refine ab_W.itT (mm _) (p := (nI 0) = 0) (c1 := (9, [.ref 84, .int y, .retAddr 0], [], (0, 0), h)) (c2 := (12, [.ref 84, .int y, .retAddr 0], [], (0, 0), h)) rfl (nI_0) ?_
    refine ab_W.go (mm _) 1 (c' := (11, [.ref 84, .int y, .retAddr 0], [.int (-(nI 2))], (0, 0), h)) rfl ?_
    refine ab_W.retI (mm _) (rt := some .int) (v := -(nI 2)) rfl rfl ?_
    exact hp h hR (fun _ _ => rfl)
  · rw [show resF σ (nI k) = _ from ci_f (fun z => z.elim (nI_pos (by omega)) (fun z => absurd ((nI_leI (by omega) (by omega)).mp z) (by omega))), nI_clamp (by omega)] at hp
    refine ⟨rfl, ?_⟩
    show ab_W _ _ _ (0, [.ref 84, .int (nI k), .retAddr 0], [], (0, 0), h)
    refine ab_W.go (mm _) 3 (c' := (3, [.ref 84, .int (nI k), .retAddr 0], [.int (nI 1), .int (nI 0), .int (nI k)], (0, 0), h)) rfl ?_
    refine ab_W.call (mm _) (k := 64) (av := [.int (nI k), .int (nI 0), .int (nI 1)]) (c' := (6, [.ref 84, .int (nI k), .retAddr 0], [], (0, 0), h)) rfl ?_
    refine min_ _ (fun v hv => ?_)
    have ev : v = nI 1 := hv.elim (fun z => z.2) (fun z => absurd ⟨Int32.not_lt.mp (nI_pos (by omega)), (nI_leI (by omega) (by omega)).mpr (show k ≤ 1 by omega)⟩ z.1)
    subst ev
    show ab_W _ _ _ (6, [.ref 84, .int (nI k), .retAddr 0], [.int (nI 1)], (0, 0), h)
    refine ab_W.itF (mm _) (p := (nI 1) = 0) (c1 := (9, [.ref 84, .int (nI k), .retAddr 0], [], (0, 0), h)) (c2 := (12, [.ref 84, .int (nI k), .retAddr 0], [], (0, 0), h)) rfl (nI_ne01) ?_
    refine ab_W.go (mm _) 1 (c' := (13, [.ref 84, .int (nI k), .retAddr 0], [.ref 84], (0, 0), h)) rfl ?_
    refine ab_W.o (mm _) (h0) rfl (c' := (16, [.ref 84, .int (nI k), .retAddr 0], [.ref 94], (0, 0), h)) rfl ?_
    refine ab_W.go (mm _) 1 (c' := (17, [.ref 84, .int (nI k), .retAddr 0], [.int (nI k), .ref 94], (0, 0), h)) rfl ?_
    refine ab_W.bald (mm _) (j := k) (a4) rfl (by omega) rfl rfl ?_
    show ab_W _ _ _ (18, [.ref 84, .int (nI k), .retAddr 0], [.int (g4 k)], (0, 0), h)
    refine ab_W.topi (b4 k hk) ?_
    refine ab_W.ite (mm _) (p := (b2i (σ.2.2 k)) = 0) (c1 := (21, [.ref 84, .int (nI k), .retAddr 0], [], (0, 0), h)) (c2 := (24, [.ref 84, .int (nI k), .retAddr 0], [], (0, 0), h)) rfl (fun qk => ?_) (fun qk => ?_)
    · skip
      have qk := b2i_0.mp qk
      rw [ci_f (fun z => by rw [qk] at z; cases z)] at hp
      refine ab_W.go (mm _) 1 (c' := (23, [.ref 84, .int (nI k), .retAddr 0], [.int (-(nI 3))], (0, 0), h)) rfl ?_
      refine ab_W.retI (mm _) (rt := some .int) (v := -(nI 3)) rfl rfl ?_
      exact hp h hR (fun _ _ => rfl)
    · skip
      have qk : σ.2.2 k = true := by
        cases hb : σ.2.2 k with
        | true => rfl
        | false => exact absurd (b2i_0.mpr hb) qk
      rw [ci_t qk] at hp
      have loop2 : ∀ i, i ≤ 768 → ∀ h1, (∀ j, j < 85 ∨ 88 < j → h1[j]? = h[j]?) → arrB h1 85 12 (pr (σ.2.1 k)) → arrL h1 86 12 (nm (σ.2.1 k)) → arrL h1 87 12 (kn (σ.2.1 k)) → (∃ g, h1[88]? = some (.inl (0, 64 * 12, .inl g)) ∧ ∀ j, j < 768 → g j = mx1 (fun j => g8 (768 * k + j)) gH i j) → ab_W (ab_st (mT kSpanStampsModel_restore) mB mF (mR kSpanStampsModel_restore) none) (mCC (d + 1)) post (91, [.ref 84, .int (nI k), .int (nI i)], [], (0, 0), h1) := by
        refine down 768 ?_ ?_
        · intro h1 k1 m5 m6 m7 ⟨g, m8, m9⟩
          have z0 := (k1 84 (by omega)).trans h0
          have z9 := (k1 99 (by omega)).trans a9
          refine ab_W.go (mm _) 2 (c' := (95, [.ref 84, .int (nI k), .int (nI 768)], [.int (nI 768), .int (nI 768)], (0, 0), h1)) rfl ?_
          refine ab_W.itT (mm _) (p := (nI 768) ≤ (nI 768)) (c1 := (122, [.ref 84, .int (nI k), .int (nI 768)], [], (0, 0), h1)) (c2 := (98, [.ref 84, .int (nI k), .int (nI 768)], [], (0, 0), h1)) rfl ((by decide)) ?_
          refine ab_W.go (mm _) 2 (c' := (124, [.ref 84, .int (nI k), .int (nI 768)], [.ref 84, .ref 84], (0, 0), h1)) rfl ?_
          refine ab_W.o (mm _) (z0) rfl (c' := (127, [.ref 84, .int (nI k), .int (nI 768)], [.ref 99, .ref 84], (0, 0), h1)) rfl ?_
          refine ab_W.go (mm _) 1 (c' := (128, [.ref 84, .int (nI k), .int (nI 768)], [.int (nI k), .ref 99, .ref 84], (0, 0), h1)) rfl ?_
          refine ab_W.iald (mm _) (j := k) (z9) rfl (by omega) rfl rfl ?_
          show ab_W _ _ _ (129, [.ref 84, .int (nI k), .int (nI 768)], [.int (g9 k), .ref 84], (0, 0), h1)
          refine ab_W.topi (b9 k hk) ?_
          refine ab_W.o (mm _) (z0) rfl (c' := (132, [.ref 84, .int (nI k), .int (nI 768)], [], (0, 0), h1.set 84 (mObj (nI (hn (σ.2.1 k))) sz op))) rfl ?_
          obtain ⟨h2, e2⟩ : ∃ h2, h2 = h1.set 84 (mObj (nI (hn (σ.2.1 k))) sz op) := ⟨_, rfl⟩
          have k2 : ∀ i, i ≠ 84 → h2[i]? = h1[i]? := fun i hi => by rw [e2]; exact set_ne (fun z => hi z.symm)
          have y0 : h2[84]? = some (mObj (nI (hn (σ.2.1 k))) sz op) := by rw [e2]; exact set_at z0
          refine ab_W.hp (e2.symm) ?_
          show ab_W _ _ _ (132, [.ref 84, .int (nI k), .int (nI 768)], [], (0, 0), h2)
          refine ab_W.go (mm _) 1 (c' := (133, [.ref 84, .int (nI k), .int (nI 768)], [.int (nI 1)], (0, 0), h2)) rfl ?_
          refine ab_W.retI (mm _) (rt := some .int) (v := nI 1) rfl rfl ?_
          obtain ⟨t1, t2, t3, t4, t5⟩ := hS
          have kA : ∀ i, i < 84 ∨ 88 < i → h2[i]? = h[i]? := fun i hi => (k2 i (by omega)).trans (k1 i (by omega))
          refine hp _ (hR.cur (c' := σ.2.1 k) ⟨_, _, y0⟩ (m5.kept (k2 _ (by decide))) (m6.kept (k2 _ (by decide))) (m7.kept (k2 _ (by decide))) ⟨g, (k2 _ (by decide)).trans m8, fun s c hs hc => ?_⟩ ⟨t1.kept (kA _ (by omega)), t2.kept (kA _ (by omega)), t3.kept (kA _ (by omega)), t4.kept (kA _ (by omega)), t5.kept (kA _ (by omega))⟩ (fun i hi => kA i (by omega))) (fun i hi => kA i (by omega))
          rw [m9 _ (by omega), mx1_n (by omega)]
          exact b8 k s c hk hs hc
        · intro i hi ih h1 k1 m5 m6 m7 ⟨g, m8, m9⟩
          have z0 := (k1 84 (by omega)).trans h0
          have z8 := (k1 98 (by omega)).trans a8
          refine ab_W.go (mm _) 2 (c' := (95, [.ref 84, .int (nI k), .int (nI i)], [.int (nI 768), .int (nI i)], (0, 0), h1)) rfl ?_
          refine ab_W.itF (mm _) (p := (nI 768) ≤ (nI i)) (c1 := (122, [.ref 84, .int (nI k), .int (nI i)], [], (0, 0), h1)) (c2 := (98, [.ref 84, .int (nI k), .int (nI i)], [], (0, 0), h1)) rfl (fun z => absurd ((nI_leI (by omega) (by omega)).mp z) (by omega)) ?_
          refine ab_W.go (mm _) 1 (c' := (99, [.ref 84, .int (nI k), .int (nI i)], [.ref 84], (0, 0), h1)) rfl ?_
          refine ab_W.o (mm _) (z0) rfl (c' := (102, [.ref 84, .int (nI k), .int (nI i)], [.ref 88], (0, 0), h1)) rfl ?_
          refine ab_W.go (mm _) 2 (c' := (104, [.ref 84, .int (nI k), .int (nI i)], [.ref 84, .int (nI i), .ref 88], (0, 0), h1)) rfl ?_
          refine ab_W.o (mm _) (z0) rfl (c' := (107, [.ref 84, .int (nI k), .int (nI i)], [.ref 98, .int (nI i), .ref 88], (0, 0), h1)) rfl ?_
          refine ab_W.go (mm _) 3 (c' := (112, [.ref 84, .int (nI k), .int (nI i)], [.int ((nI 768) * (nI k)), .ref 98, .int (nI i), .ref 88], (0, 0), h1)) rfl ?_
          refine ab_W.topi (pk_mul 768 k) ?_
          refine ab_W.go (mm _) 2 (c' := (114, [.ref 84, .int (nI k), .int (nI i)], [.int ((nI (768 * k)) + (nI i)), .ref 98, .int (nI i), .ref 88], (0, 0), h1)) rfl ?_
          refine ab_W.topi (nI_add (768 * k) i) ?_
          refine ab_W.iald (mm _) (j := 768 * k + i) (z8) (by simp only [nI_add, pk_mul]) (by omega) rfl rfl ?_
          show ab_W _ _ _ (115, [.ref 84, .int (nI k), .int (nI i)], [.int (g8 (768 * k + i)), .int (nI i), .ref 88], (0, 0), h1)
          refine ab_W.iast (mm _) (j := i) (m8) rfl (by omega) rfl rfl ?_
          show ab_W _ _ _ (116, [.ref 84, .int (nI k), .int (nI i)], [], (0, 0), h1.set 88 (.inl (0, 64 * 12, .inl (upd g i (g8 (768 * k + i))))))
          refine ab_W.go (mm _) 1 (c' := (119, [.ref 84, .int (nI k), .int (nI i + nI 1)], [], (0, 0), h1.set 88 (.inl (0, 64 * 12, .inl (upd g i (g8 (768 * k + i))))))) rfl ?_
          rw [nI_add i 1]
          refine ab_W.go (mm _) 1 (c' := (91, [.ref 84, .int (nI k), .int (nI (i + 1))], [], (0, 0), h1.set 88 (.inl (0, 64 * 12, .inl (upd g i (g8 (768 * k + i))))))) rfl ?_
          exact ih _ (fun j hj => (set_ne (by omega)).trans (k1 j hj)) (m5.kept (set_ne (by decide))) (m6.kept (set_ne (by decide))) (m7.kept (set_ne (by decide))) ⟨_, set_at m8, mx1_u (A := fun j => g8 (768 * k + j)) m9⟩
      have loop1 : ∀ s, s ≤ 12 → ∀ h1, (∀ j, j < 85 ∨ 87 < j → h1[j]? = h[j]?) → arrB h1 85 12 (mx1 (pr (σ.2.1 k)) (pr σ.1) s) → arrL h1 86 12 (mx1 (nm (σ.2.1 k)) (nm σ.1) s) → arrL h1 87 12 (mx1 (kn (σ.2.1 k)) (kn σ.1) s) → ab_W (ab_st (mT kSpanStampsModel_restore) mB mF (mR kSpanStampsModel_restore) none) (mCC (d + 1)) post (26, [.ref 84, .int (nI k), .int (nI s)], [], (0, 0), h1) := by
        refine down 12 ?_ ?_
        · intro h1 k1 m5 m6 m7
          refine ab_W.go (mm _) 2 (c' := (29, [.ref 84, .int (nI k), .int (nI 12)], [.int (nI 12), .int (nI 12)], (0, 0), h1)) rfl ?_
          refine ab_W.itT (mm _) (p := (nI 12) ≤ (nI 12)) (c1 := (89, [.ref 84, .int (nI k), .int (nI 12)], [], (0, 0), h1)) (c2 := (32, [.ref 84, .int (nI k), .int (nI 12)], [], (0, 0), h1)) rfl ((by decide)) ?_
          refine ab_W.go (mm _) 2 (c' := (91, [.ref 84, .int (nI k), .int (nI 0)], [], (0, 0), h1)) rfl ?_
          exact loop2 0 (Nat.zero_le _) h1 (fun j hj => k1 j (by omega)) (m5.congr (fun s hs => mx1_n hs)) (m6.congr (fun s hs => mx1_n hs)) (m7.congr (fun s hs => mx1_n hs)) ⟨gH, (k1 88 (by omega)).trans c4, fun j _ => (mx1_0 _ _ _).symm⟩
        · intro s hs ih h1 k1 m5 m6 m7
          have z0 := (k1 84 (by omega)).trans h0
          obtain ⟨u5, v5, w5⟩ := id m5
          obtain ⟨u6, v6, w6⟩ := id m6
          obtain ⟨u7, v7, w7⟩ := id m7
          refine ab_W.go (mm _) 2 (c' := (29, [.ref 84, .int (nI k), .int (nI s)], [.int (nI 12), .int (nI s)], (0, 0), h1)) rfl ?_
          refine ab_W.itF (mm _) (p := (nI 12) ≤ (nI s)) (c1 := (89, [.ref 84, .int (nI k), .int (nI s)], [], (0, 0), h1)) (c2 := (32, [.ref 84, .int (nI k), .int (nI s)], [], (0, 0), h1)) rfl (fun z => absurd ((nI_leI (by omega) (by omega)).mp z) (by omega)) ?_
          refine ab_W.go (mm _) 1 (c' := (33, [.ref 84, .int (nI k), .int (nI s)], [.ref 84], (0, 0), h1)) rfl ?_
          refine ab_W.o (mm _) (z0) rfl (c' := (36, [.ref 84, .int (nI k), .int (nI s)], [.ref 85], (0, 0), h1)) rfl ?_
          refine ab_W.go (mm _) 2 (c' := (38, [.ref 84, .int (nI k), .int (nI s)], [.ref 84, .int (nI s), .ref 85], (0, 0), h1)) rfl ?_
          refine ab_W.o (mm _) (z0) rfl (c' := (41, [.ref 84, .int (nI k), .int (nI s)], [.ref 95, .int (nI s), .ref 85], (0, 0), h1)) rfl ?_
          refine ab_W.go (mm _) 3 (c' := (45, [.ref 84, .int (nI k), .int (nI s)], [.int ((nI 12) * (nI k)), .ref 95, .int (nI s), .ref 85], (0, 0), h1)) rfl ?_
          refine ab_W.topi (pk_mul 12 k) ?_
          refine ab_W.go (mm _) 2 (c' := (47, [.ref 84, .int (nI k), .int (nI s)], [.int ((nI (12 * k)) + (nI s)), .ref 95, .int (nI s), .ref 85], (0, 0), h1)) rfl ?_
          refine ab_W.topi (nI_add (12 * k) s) ?_
          refine ab_W.bald (mm _) (j := 12 * k + s) ((k1 95 (by omega)).trans a5) (by simp only [nI_add, pk_mul]) (by omega) rfl rfl ?_
          show ab_W _ _ _ (48, [.ref 84, .int (nI k), .int (nI s)], [.int (g5 (12 * k + s)), .int (nI s), .ref 85], (0, 0), h1)
          refine ab_W.topi (b5 k s hk hs) ?_
          refine ab_W.bast (mm _) (j := s) (v5) rfl (by omega) rfl (b2i_01 _) rfl ?_
          show ab_W _ _ _ (49, [.ref 84, .int (nI k), .int (nI s)], [], (0, 0), h1.set 85 (.inl (2, 12, .inl (upd u5 s (b2i (pr (σ.2.1 k) s))))))
          obtain ⟨h2, e2⟩ : ∃ h2, h2 = h1.set 85 (.inl (2, 12, .inl (upd u5 s (b2i (pr (σ.2.1 k) s))))) := ⟨_, rfl⟩
          have k2 : ∀ i, i ≠ 85 → h2[i]? = h1[i]? := fun i hi => by rw [e2]; exact set_ne (fun z => hi z.symm)
          have n5 : arrB h2 85 12 (mx1 (pr (σ.2.1 k)) (pr σ.1) (s + 1)) := by rw [e2]; exact (arrB.put v5 w5).congr (fun s' _ => mx1_s _ _ s s')
          refine ab_W.hp (e2.symm) ?_
          show ab_W _ _ _ (49, [.ref 84, .int (nI k), .int (nI s)], [], (0, 0), h2)
          have z0 := (k2 84 (by decide)).trans z0
          refine ab_W.go (mm _) 1 (c' := (50, [.ref 84, .int (nI k), .int (nI s)], [.ref 84], (0, 0), h2)) rfl ?_
          refine ab_W.o (mm _) (z0) rfl (c' := (53, [.ref 84, .int (nI k), .int (nI s)], [.ref 86], (0, 0), h2)) rfl ?_
          refine ab_W.go (mm _) 2 (c' := (55, [.ref 84, .int (nI k), .int (nI s)], [.ref 84, .int (nI s), .ref 86], (0, 0), h2)) rfl ?_
          refine ab_W.o (mm _) (z0) rfl (c' := (58, [.ref 84, .int (nI k), .int (nI s)], [.ref 96, .int (nI s), .ref 86], (0, 0), h2)) rfl ?_
          refine ab_W.go (mm _) 3 (c' := (62, [.ref 84, .int (nI k), .int (nI s)], [.int ((nI 12) * (nI k)), .ref 96, .int (nI s), .ref 86], (0, 0), h2)) rfl ?_
          refine ab_W.topi (pk_mul 12 k) ?_
          refine ab_W.go (mm _) 2 (c' := (64, [.ref 84, .int (nI k), .int (nI s)], [.int ((nI (12 * k)) + (nI s)), .ref 96, .int (nI s), .ref 86], (0, 0), h2)) rfl ?_
          refine ab_W.topi (nI_add (12 * k) s) ?_
          refine ab_W.lald (mm _) (j := 12 * k + s) ((k2 96 (by decide)).trans ((k1 96 (by omega)).trans a6)) (by simp only [nI_add, pk_mul]) (by omega) rfl rfl ?_
          show ab_W _ _ _ (65, [.ref 84, .int (nI k), .int (nI s)], [.long (g6 (12 * k + s)), .int (nI s), .ref 86], (0, 0), h2)
          refine ab_W.topl (b6 k s hk hs) ?_
          refine ab_W.last (mm _) (j := s) ((k2 86 (by decide)).trans v6) rfl (by omega) rfl rfl ?_
          show ab_W _ _ _ (66, [.ref 84, .int (nI k), .int (nI s)], [], (0, 0), h2.set 86 (.inl (1, 12, .inr (.inl (vp_updL u6 s (nm (σ.2.1 k) s))))))
          obtain ⟨h3, e3⟩ : ∃ h3, h3 = h2.set 86 (.inl (1, 12, .inr (.inl (vp_updL u6 s (nm (σ.2.1 k) s))))) := ⟨_, rfl⟩
          have k3 : ∀ i, i ≠ 86 → h3[i]? = h2[i]? := fun i hi => by rw [e3]; exact set_ne (fun z => hi z.symm)
          have n6 : arrL h3 86 12 (mx1 (nm (σ.2.1 k)) (nm σ.1) (s + 1)) := by rw [e3]; exact (arrL.put ((k2 86 (by decide)).trans v6) w6).congr (fun s' _ => mx1_s _ _ s s')
          refine ab_W.hp (e3.symm) ?_
          show ab_W _ _ _ (66, [.ref 84, .int (nI k), .int (nI s)], [], (0, 0), h3)
          have z0 := (k3 84 (by decide)).trans z0
          refine ab_W.go (mm _) 1 (c' := (67, [.ref 84, .int (nI k), .int (nI s)], [.ref 84], (0, 0), h3)) rfl ?_
          refine ab_W.o (mm _) (z0) rfl (c' := (70, [.ref 84, .int (nI k), .int (nI s)], [.ref 87], (0, 0), h3)) rfl ?_
          refine ab_W.go (mm _) 2 (c' := (72, [.ref 84, .int (nI k), .int (nI s)], [.ref 84, .int (nI s), .ref 87], (0, 0), h3)) rfl ?_
          refine ab_W.o (mm _) (z0) rfl (c' := (75, [.ref 84, .int (nI k), .int (nI s)], [.ref 97, .int (nI s), .ref 87], (0, 0), h3)) rfl ?_
          refine ab_W.go (mm _) 3 (c' := (79, [.ref 84, .int (nI k), .int (nI s)], [.int ((nI 12) * (nI k)), .ref 97, .int (nI s), .ref 87], (0, 0), h3)) rfl ?_
          refine ab_W.topi (pk_mul 12 k) ?_
          refine ab_W.go (mm _) 2 (c' := (81, [.ref 84, .int (nI k), .int (nI s)], [.int ((nI (12 * k)) + (nI s)), .ref 97, .int (nI s), .ref 87], (0, 0), h3)) rfl ?_
          refine ab_W.topi (nI_add (12 * k) s) ?_
          refine ab_W.lald (mm _) (j := 12 * k + s) ((k3 97 (by decide)).trans ((k2 97 (by decide)).trans ((k1 97 (by omega)).trans a7))) (by simp only [nI_add, pk_mul]) (by omega) rfl rfl ?_
          show ab_W _ _ _ (82, [.ref 84, .int (nI k), .int (nI s)], [.long (g7 (12 * k + s)), .int (nI s), .ref 87], (0, 0), h3)
          refine ab_W.topl (b7 k s hk hs) ?_
          have y7 := (k3 87 (by decide)).trans ((k2 87 (by decide)).trans v7)
          refine ab_W.last (mm _) (j := s) (y7) rfl (by omega) rfl rfl ?_
          show ab_W _ _ _ (83, [.ref 84, .int (nI k), .int (nI s)], [], (0, 0), h3.set 87 (.inl (1, 12, .inr (.inl (vp_updL u7 s (kn (σ.2.1 k) s))))))
          refine ab_W.go (mm _) 1 (c' := (86, [.ref 84, .int (nI k), .int (nI s + nI 1)], [], (0, 0), h3.set 87 (.inl (1, 12, .inr (.inl (vp_updL u7 s (kn (σ.2.1 k) s))))))) rfl ?_
          rw [nI_add s 1]
          refine ab_W.go (mm _) 1 (c' := (26, [.ref 84, .int (nI k), .int (nI (s + 1))], [], (0, 0), h3.set 87 (.inl (1, 12, .inr (.inl (vp_updL u7 s (kn (σ.2.1 k) s))))))) rfl ?_
          exact ih _ (fun j hj => (set_ne (by omega)).trans ((k3 j (by omega)).trans ((k2 j (by omega)).trans (k1 j (by omega))))) ((n5.kept (k3 85 (by decide))).kept (set_ne (by decide))) (n6.kept (set_ne (by decide))) ((arrL.put y7 w7).congr (fun s' _ => mx1_s _ _ s s'))
      refine ab_W.go (mm _) 2 (c' := (26, [.ref 84, .int (nI k), .int (nI 0)], [], (0, 0), h)) rfl ?_
      exact loop1 0 (Nat.zero_le _) h (fun _ _ => rfl) (hB.congr (fun s _ => (mx1_0 _ _ s).symm)) (hN.congr (fun s _ => (mx1_0 _ _ s).symm)) (hK.congr (fun s _ => (mx1_0 _ _ s).symm))
