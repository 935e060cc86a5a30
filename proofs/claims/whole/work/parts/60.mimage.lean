/-! THE REFERENCE: images -/
theorem b2i_01 (b : Bool) : (b2i b == 0 || b2i b == 1) = true := by cases b <;> decide
def mix {α : Type} (A : Nat → α) (P : Nat → Nat → α) (k s : Nat) : Nat → Nat → α := fun k' s' => if k' = k ∧ s' < s then A s' else P k' s'
theorem mix_at {α : Type} (A : Nat → α) (P : Nat → Nat → α) (k s : Nat) : mix A P k (s + 1) k s = A s := if_pos ⟨rfl, Nat.lt_succ_self _⟩
theorem mix_0 {α : Type} (A : Nat → α) (P : Nat → Nat → α) (k k' s' : Nat) : mix A P k 0 k' s' = P k' s' := if_neg (fun z => absurd z.2 (Nat.not_lt_zero _))
theorem mix_no {α : Type} {A : Nat → α} {P : Nat → Nat → α} {k s k' s' : Nat} (h : ¬ (k' = k ∧ s' = s)) : mix A P k (s + 1) k' s' = mix A P k s k' s' := by
  unfold mix
  by_cases q : k' = k ∧ s' < s
  · rw [if_pos q, if_pos ⟨q.1, by omega⟩]
  · rw [if_neg q, if_neg (fun z => ?_)]
    by_cases e : s' = s
    · exact h ⟨z.1, e⟩
    · exact q ⟨z.1, by omega⟩
theorem mix_y {α : Type} {A : Nat → α} {P : Nat → Nat → α} {k n s' : Nat} (h : s' < n) : mix A P k n k s' = A s' := if_pos ⟨rfl, h⟩
theorem mix_n {α : Type} {A : Nat → α} {P : Nat → Nat → α} {k n k' s' : Nat} (h : k' ≠ k) : mix A P k n k' s' = P k' s' := if_neg (fun z => h z.1)
def imB (h : ab_H) (P : Nat → Nat → Bool) : Prop := ∃ g, h[95]? = some (.inl (2, 24, .inl g)) ∧ ∀ k s, k < 2 → s < 12 → g (12 * k + s) = b2i (P k s)
def imL (h : ab_H) (a : Nat) (P : Nat → Nat → Int64) : Prop := ∃ g, h[a]? = some (.inl (1, 24, .inr (.inl g))) ∧ ∀ k s, k < 2 → s < 12 → g (12 * k + s) = P k s
def imI (h : ab_H) (P : Nat → Nat → Int32) : Prop := ∃ g, h[98]? = some (.inl (0, 1536, .inl g)) ∧ ∀ k j, k < 2 → j < 768 → g (768 * k + j) = P k j
theorem imB.put {h : ab_H} {g : Nat → Int32} {A : Nat → Bool} {P : Nat → Nat → Bool} {k s : Nat} (hk : k < 2) (hs : s < 12) (g1 : h[95]? = some (.inl (2, 24, .inl g))) (g2 : ∀ k' s', k' < 2 → s' < 12 → g (12 * k' + s') = b2i (mix A P k s k' s')) : imB (h.set 95 (.inl (2, 24, .inl (upd g (12 * k + s) (b2i (A s)))))) (mix A P k (s + 1)) := by
  refine ⟨_, set_at g1, fun k' s' h1 h2 => ?_⟩
  by_cases q : k' = k ∧ s' = s
  · rw [q.1, q.2, upd_at, mix_at]
  · rw [upd_no _ _ (by omega), mix_no q]
    exact g2 k' s' h1 h2
theorem imL.put {h : ab_H} {a : Nat} {g : Nat → Int64} {A : Nat → Int64} {P : Nat → Nat → Int64} {k s : Nat} (hk : k < 2) (hs : s < 12) (g1 : h[a]? = some (.inl (1, 24, .inr (.inl g)))) (g2 : ∀ k' s', k' < 2 → s' < 12 → g (12 * k' + s') = mix A P k s k' s') : imL (h.set a (.inl (1, 24, .inr (.inl (vp_updL g (12 * k + s) (A s)))))) a (mix A P k (s + 1)) := by
  refine ⟨_, set_at g1, fun k' s' h1 h2 => ?_⟩
  by_cases q : k' = k ∧ s' = s
  · rw [q.1, q.2, updL_at, mix_at]
  · rw [updL_no _ _ (by omega), mix_no q]
    exact g2 k' s' h1 h2
theorem imI.put {h : ab_H} {g : Nat → Int32} {A : Nat → Int32} {P : Nat → Nat → Int32} {k s : Nat} (hk : k < 2) (hs : s < 768) (g1 : h[98]? = some (.inl (0, 1536, .inl g))) (g2 : ∀ k' s', k' < 2 → s' < 768 → g (768 * k' + s') = mix A P k s k' s') : imI (h.set 98 (.inl (0, 1536, .inl (upd g (768 * k + s) (A s))))) (mix A P k (s + 1)) := by
  refine ⟨_, set_at g1, fun k' s' h1 h2 => ?_⟩
  by_cases q : k' = k ∧ s' = s
  · rw [q.1, q.2, upd_at, mix_at]
  · rw [upd_no _ _ (by omega), mix_no q]
    exact g2 k' s' h1 h2
theorem imB.kept {h h' : ab_H} {P : Nat → Nat → Bool} (x : imB h P) (e : h'[95]? = h[95]?) : imB h' P := by
  obtain ⟨g, g1, g2⟩ := x
  exact ⟨g, e.trans g1, g2⟩
theorem imL.kept {h h' : ab_H} {a : Nat} {P : Nat → Nat → Int64} (x : imL h a P) (e : h'[a]? = h[a]?) : imL h' a P := by
  obtain ⟨g, g1, g2⟩ := x
  exact ⟨g, e.trans g1, g2⟩
theorem sp_m_image (d : Nat) {h : ab_H} {σ : Sg} {y : Int32} (hR : relM h σ) {post : ab_P} (hp : okM h post (imgF σ y).1 (imgF σ y).2) : mCC (d + 2) kSpanStampsModel_image [.ref 84, .int y] h post := by
  obtain ⟨⟨sz, op, h0⟩, hB, hN, hK, hH, hS, ⟨g4, a4, b4⟩, ⟨g5, a5, b5⟩, ⟨g6, a6, b6⟩, ⟨g7, a7, b7⟩, ⟨g8, a8, b8⟩, ⟨g9, a9, b9⟩⟩ := id hR
  obtain ⟨gB, c1, d1⟩ := id hB
  obtain ⟨gN, c2, d2⟩ := id hN
  obtain ⟨gK, c3, d3⟩ := id hK
  obtain ⟨gH, c4, d4⟩ := id hH
  rcases pk_ix y (n := 2) (by decide) with q | q | ⟨k, hk, rfl⟩
  · rw [show imgF σ y = _ from ci_t (Or.inl q)] at hp
    refine ⟨rfl, ?_⟩
    show ab_W _ _ _ (0, [.ref 84, .int y, .retAddr 0], [], (0, 0), h)
    refine ab_W.go (mm _) 3 (c' := (3, [.ref 84, .int y, .retAddr 0], [.int (nI 1), .int (nI 0), .int y], (0, 0), h)) rfl ?_
    refine ab_W.call (mm _) (k := 64) (av := [.int y, .int (nI 0), .int (nI 1)]) (c' := (6, [.ref 84, .int y, .retAddr 0], [], (0, 0), h)) rfl ?_
    refine min_ _ (fun v hv => ?_)
    have ev : v = nI 0 := hv.elim (fun z => absurd q (Int32.not_lt.mpr z.1.1)) (fun z => z.2)
    subst ev
    show ab_W _ _ _ (6, [.ref 84, .int y, .retAddr 0], [.int (nI 0)], (0, 0), h)
    refine ab_W.itT (mm _) (p := (nI 0) = 0) (c1 := (9, [.ref 84, .int y, .retAddr 0], [], (0, 0), h)) (c2 := (12, [.ref 84, .int y, .retAddr 0], [], (0, 0), h)) rfl (nI_0) ?_
    refine ab_W.go (mm _) 1 (c' := (11, [.ref 84, .int y, .retAddr 0], [.int (-(nI 2))], (0, 0), h)) rfl ?_
    refine ab_W.retI (mm _) (rt := some .int) (v := -(nI 2)) rfl rfl ?_
    exact hp h hR (fun _ _ => rfl)
  · rw [show imgF σ y = _ from ci_t (Or.inr q)] at hp
    have q' : nI 1 < y := by
      have a := Int32.le_iff_toInt_le.mp q
      have b : (nI 1).toInt < (nI 2).toInt := by decide
      exact Int32.lt_iff_toInt_lt.mpr (Int.lt_of_lt_of_le b a)
    refine ⟨rfl, ?_⟩
    show ab_W _ _ _ (0, [.ref 84, .int y, .retAddr 0], [], (0, 0), h)
    refine ab_W.go (mm _) 3 (c' := (3, [.ref 84, .int y, .retAddr 0], [.int (nI 1), .int (nI 0), .int y], (0, 0), h)) rfl ?_
    refine ab_W.call (mm _) (k := 64) (av := [.int y, .int (nI 0), .int (nI 1)]) (c' := (6, [.ref 84, .int y, .retAddr 0], [], (0, 0), h)) rfl ?_
    refine min_ _ (fun v hv => ?_)
    have ev : v = nI 0 := hv.elim (fun z => absurd z.1.2 (Int32.not_le.mpr q')) (fun z => z.2)
    subst ev
    show ab_W _ _ _ (6, [.ref 84, .int y, .retAddr 0], [.int (nI 0)], (0, 0), h)
    refine ab_W.itT (mm _) (p := (nI 0) = 0) (c1 := (9, [.ref 84, .int y, .retAddr 0], [], (0, 0), h)) (c2 := (12, [.ref 84, .int y, .retAddr 0], [], (0, 0), h)) rfl (nI_0) ?_
    refine ab_W.go (mm _) 1 (c' := (11, [.ref 84, .int y, .retAddr 0], [.int (-(nI 2))], (0, 0), h)) rfl ?_
    refine ab_W.retI (mm _) (rt := some .int) (v := -(nI 2)) rfl rfl ?_
    exact hp h hR (fun _ _ => rfl)
  · rw [show imgF σ (nI k) = _ from ci_f (fun z => z.elim (nI_pos (by omega)) (fun z => absurd ((nI_leI (by omega) (by omega)).mp z) (by omega))), nI_clamp (by omega)] at hp
    have loop2 : ∀ i, i ≤ 768 → ∀ h1, (∀ j, j < 95 ∨ 98 < j → h1[j]? = h[j]?) → imB h1 (mix (pr σ.1) (fun k' => pr (σ.2.1 k')) k 12) → imL h1 96 (mix (nm σ.1) (fun k' => nm (σ.2.1 k')) k 12) → imL h1 97 (mix (kn σ.1) (fun k' => kn (σ.2.1 k')) k 12) → imI h1 (mix gH (fun k' j => g8 (768 * k' + j)) k i) → ab_W (ab_st (mT kSpanStampsModel_image) mB mF (mR kSpanStampsModel_image) none) (mCC (d + 1)) post (79, [.ref 84, .int (nI k), .int (nI i)], [], (0, 0), h1) := by
      refine down 768 ?_ ?_
      · intro h1 k1 m5 m6 m7 m8
        have z0 := (k1 84 (by omega)).trans h0
        have z9 := (k1 99 (by omega)).trans a9
        have z4 := (k1 94 (by omega)).trans a4
        refine ab_W.go (mm _) 2 (c' := (83, [.ref 84, .int (nI k), .int (nI 768)], [.int (nI 768), .int (nI 768)], (0, 0), h1)) rfl ?_
        refine ab_W.itT (mm _) (p := (nI 768) ≤ (nI 768)) (c1 := (110, [.ref 84, .int (nI k), .int (nI 768)], [], (0, 0), h1)) (c2 := (86, [.ref 84, .int (nI k), .int (nI 768)], [], (0, 0), h1)) rfl ((by decide)) ?_
        refine ab_W.go (mm _) 1 (c' := (111, [.ref 84, .int (nI k), .int (nI 768)], [.ref 84], (0, 0), h1)) rfl ?_
        refine ab_W.o (mm _) (z0) rfl (c' := (114, [.ref 84, .int (nI k), .int (nI 768)], [.ref 99], (0, 0), h1)) rfl ?_
        refine ab_W.go (mm _) 2 (c' := (116, [.ref 84, .int (nI k), .int (nI 768)], [.ref 84, .int (nI k), .ref 99], (0, 0), h1)) rfl ?_
        refine ab_W.o (mm _) (z0) rfl (c' := (119, [.ref 84, .int (nI k), .int (nI 768)], [.int (nI (hn σ.1)), .int (nI k), .ref 99], (0, 0), h1)) rfl ?_
        refine ab_W.iast (mm _) (j := k) (z9) rfl (by omega) rfl rfl ?_
        show ab_W _ _ _ (120, [.ref 84, .int (nI k), .int (nI 768)], [], (0, 0), h1.set 99 (.inl (0, 2, .inl (upd g9 k (nI (hn σ.1))))))
        obtain ⟨h2, e2⟩ : ∃ h2, h2 = h1.set 99 (.inl (0, 2, .inl (upd g9 k (nI (hn σ.1))))) := ⟨_, rfl⟩
        have k2 : ∀ i, i ≠ 99 → h2[i]? = h1[i]? := fun i hi => by rw [e2]; exact set_ne (fun z => hi z.symm)
        have y9 : h2[99]? = some (.inl (0, 2, .inl (upd g9 k (nI (hn σ.1))))) := by rw [e2]; exact set_at z9
        refine ab_W.hp (e2.symm) ?_
        show ab_W _ _ _ (120, [.ref 84, .int (nI k), .int (nI 768)], [], (0, 0), h2)
        refine ab_W.go (mm _) 1 (c' := (121, [.ref 84, .int (nI k), .int (nI 768)], [.ref 84], (0, 0), h2)) rfl ?_
        refine ab_W.o (mm _) ((k2 84 (by decide)).trans z0) rfl (c' := (124, [.ref 84, .int (nI k), .int (nI 768)], [.ref 94], (0, 0), h2)) rfl ?_
        refine ab_W.go (mm _) 2 (c' := (126, [.ref 84, .int (nI k), .int (nI 768)], [.int (nI 1), .int (nI k), .ref 94], (0, 0), h2)) rfl ?_
        refine ab_W.bast (mm _) (j := k) ((k2 94 (by decide)).trans z4) rfl (by omega) rfl (by decide) rfl ?_
        show ab_W _ _ _ (127, [.ref 84, .int (nI k), .int (nI 768)], [], (0, 0), h2.set 94 (.inl (2, 2, .inl (upd g4 k (nI 1)))))
        obtain ⟨h3, e3⟩ : ∃ h3, h3 = h2.set 94 (.inl (2, 2, .inl (upd g4 k (nI 1)))) := ⟨_, rfl⟩
        have k3 : ∀ i, i ≠ 94 → h3[i]? = h2[i]? := fun i hi => by rw [e3]; exact set_ne (fun z => hi z.symm)
        have y4 : h3[94]? = some (.inl (2, 2, .inl (upd g4 k (nI 1)))) := by rw [e3]; exact set_at ((k2 94 (by decide)).trans z4)
        refine ab_W.hp (e3.symm) ?_
        show ab_W _ _ _ (127, [.ref 84, .int (nI k), .int (nI 768)], [], (0, 0), h3)
        refine ab_W.go (mm _) 1 (c' := (128, [.ref 84, .int (nI k), .int (nI 768)], [.int (nI 1)], (0, 0), h3)) rfl ?_
        refine ab_W.retI (mm _) (rt := some .int) (v := nI 1) rfl rfl ?_
        have kA : ∀ i, i < 94 → h3[i]? = h[i]? := fun i hi => (k3 i (by omega)).trans ((k2 i (by omega)).trans (k1 i (by omega)))
        have kB : ∀ i, 95 ≤ i → i ≤ 98 → h3[i]? = h1[i]? := fun i i1 i2 => (k3 i (by omega)).trans (k2 i (by omega))
        obtain ⟨u5, v5, w5⟩ := m5
        obtain ⟨u6, v6, w6⟩ := m6
        obtain ⟨u7, v7, w7⟩ := m7
        obtain ⟨u8, v8, w8⟩ := m8
        obtain ⟨t1, t2, t3, t4, t5⟩ := hS
        have up : ∀ k', k' = k ∨ k' ≠ k := fun k' => Decidable.em _
        refine hp _ ⟨⟨_, _, (kA 84 (by omega)).trans h0⟩, hB.kept (kA _ (by omega)), hN.kept (kA _ (by omega)), hK.kept (kA _ (by omega)), hH.kept (kA _ (by omega)), ⟨t1.kept (kA _ (by omega)), t2.kept (kA _ (by omega)), t3.kept (kA _ (by omega)), t4.kept (kA _ (by omega)), t5.kept (kA _ (by omega))⟩, ⟨_, y4, fun k' hk' => ?_⟩, ⟨_, (kB _ (by omega) (by omega)).trans v5, fun k' s' hk' hs' => ?_⟩, ⟨_, (kB _ (by omega) (by omega)).trans v6, fun k' s' hk' hs' => ?_⟩, ⟨_, (kB _ (by omega) (by omega)).trans v7, fun k' s' hk' hs' => ?_⟩, ⟨_, (kB _ (by omega) (by omega)).trans v8, fun k' s' c hk' hs' hc => ?_⟩, ⟨_, (k3 99 (by decide)).trans y9, fun k' hk' => ?_⟩⟩ (fun i hi => kA i (by omega))
        · show upd g4 k (nI 1) k' = b2i (va_up σ.2.2 k true k')
          rcases up k' with e | e
          · rw [e, upd_at, va_up_self]; rfl
          · rw [upd_no _ _ e, va_up_ne _ _ e, b4 k' hk']
        · show _ = b2i (pr (va_up σ.2.1 k σ.1 k') s')
          rw [w5 k' s' hk' hs']
          rcases up k' with e | e
          · rw [e, mix_y hs', va_up_self]
          · rw [mix_n e, va_up_ne _ _ e]
        · show _ = nm (va_up σ.2.1 k σ.1 k') s'
          rw [w6 k' s' hk' hs']
          rcases up k' with e | e
          · rw [e, mix_y hs', va_up_self]
          · rw [mix_n e, va_up_ne _ _ e]
        · show _ = kn (va_up σ.2.1 k σ.1 k') s'
          rw [w7 k' s' hk' hs']
          rcases up k' with e | e
          · rw [e, mix_y hs', va_up_self]
          · rw [mix_n e, va_up_ne _ _ e]
        · show _ = ht (va_up σ.2.1 k σ.1 k') s' c
          rw [w8 k' (64 * s' + c) hk' (by omega)]
          rcases up k' with e | e
          · rw [e, mix_y (by omega), va_up_self]
            exact d4 s' c hs' hc
          · rw [mix_n e, va_up_ne _ _ e]
            exact b8 k' s' c hk' hs' hc
        · show upd g9 k (nI (hn σ.1)) k' = nI (hn (va_up σ.2.1 k σ.1 k'))
          rcases up k' with e | e
          · rw [e, upd_at, va_up_self]
          · rw [upd_no _ _ e, va_up_ne _ _ e, b9 k' hk']
      · intro i hi ih h1 k1 m5 m6 m7 m8
        have z0 := (k1 84 (by omega)).trans h0
        have z4 := (k1 88 (by omega)).trans c4
        obtain ⟨u8, v8, w8⟩ := m8
        refine ab_W.go (mm _) 2 (c' := (83, [.ref 84, .int (nI k), .int (nI i)], [.int (nI 768), .int (nI i)], (0, 0), h1)) rfl ?_
        refine ab_W.itF (mm _) (p := (nI 768) ≤ (nI i)) (c1 := (110, [.ref 84, .int (nI k), .int (nI i)], [], (0, 0), h1)) (c2 := (86, [.ref 84, .int (nI k), .int (nI i)], [], (0, 0), h1)) rfl (fun z => absurd ((nI_leI (by omega) (by omega)).mp z) (by omega)) ?_
        refine ab_W.go (mm _) 1 (c' := (87, [.ref 84, .int (nI k), .int (nI i)], [.ref 84], (0, 0), h1)) rfl ?_
        refine ab_W.o (mm _) (z0) rfl (c' := (90, [.ref 84, .int (nI k), .int (nI i)], [.ref 98], (0, 0), h1)) rfl ?_
        refine ab_W.go (mm _) 3 (c' := (95, [.ref 84, .int (nI k), .int (nI i)], [.int ((nI 768) * (nI k)), .ref 98], (0, 0), h1)) rfl ?_
        refine ab_W.topi (pk_mul 768 k) ?_
        refine ab_W.go (mm _) 2 (c' := (97, [.ref 84, .int (nI k), .int (nI i)], [.int ((nI (768 * k)) + (nI i)), .ref 98], (0, 0), h1)) rfl ?_
        refine ab_W.topi (nI_add (768 * k) i) ?_
        refine ab_W.go (mm _) 1 (c' := (98, [.ref 84, .int (nI k), .int (nI i)], [.ref 84, .int (nI ((768 * k) + i)), .ref 98], (0, 0), h1)) rfl ?_
        refine ab_W.o (mm _) (z0) rfl (c' := (101, [.ref 84, .int (nI k), .int (nI i)], [.ref 88, .int (nI ((768 * k) + i)), .ref 98], (0, 0), h1)) rfl ?_
        refine ab_W.go (mm _) 1 (c' := (102, [.ref 84, .int (nI k), .int (nI i)], [.int (nI i), .ref 88, .int (nI ((768 * k) + i)), .ref 98], (0, 0), h1)) rfl ?_
        refine ab_W.iald (mm _) (j := i) (z4) rfl (by omega) rfl rfl ?_
        show ab_W _ _ _ (103, [.ref 84, .int (nI k), .int (nI i)], [.int (gH i), .int (nI ((768 * k) + i)), .ref 98], (0, 0), h1)
        refine ab_W.iast (mm _) (j := 768 * k + i) (v8) (by simp only [nI_add, pk_mul]) (by omega) rfl rfl ?_
        show ab_W _ _ _ (104, [.ref 84, .int (nI k), .int (nI i)], [], (0, 0), h1.set 98 (.inl (0, 1536, .inl (upd u8 (768 * k + i) (gH i)))))
        refine ab_W.go (mm _) 1 (c' := (107, [.ref 84, .int (nI k), .int (nI i + nI 1)], [], (0, 0), h1.set 98 (.inl (0, 1536, .inl (upd u8 (768 * k + i) (gH i)))))) rfl ?_
        rw [nI_add i 1]
        refine ab_W.go (mm _) 1 (c' := (79, [.ref 84, .int (nI k), .int (nI (i + 1))], [], (0, 0), h1.set 98 (.inl (0, 1536, .inl (upd u8 (768 * k + i) (gH i)))))) rfl ?_
        refine ih _ (fun j hj => (set_ne (by omega)).trans (k1 j hj)) (m5.kept (set_ne (by decide))) (m6.kept (set_ne (by decide))) (m7.kept (set_ne (by decide))) (imI.put hk hi v8 w8)
    have loop1 : ∀ s, s ≤ 12 → ∀ h1, (∀ j, j < 95 ∨ 97 < j → h1[j]? = h[j]?) → imB h1 (mix (pr σ.1) (fun k' => pr (σ.2.1 k')) k s) → imL h1 96 (mix (nm σ.1) (fun k' => nm (σ.2.1 k')) k s) → imL h1 97 (mix (kn σ.1) (fun k' => kn (σ.2.1 k')) k s) → ab_W (ab_st (mT kSpanStampsModel_image) mB mF (mR kSpanStampsModel_image) none) (mCC (d + 1)) post (14, [.ref 84, .int (nI k), .int (nI s)], [], (0, 0), h1) := by
      refine down 12 ?_ ?_
      · intro h1 k1 m5 m6 m7
        refine ab_W.go (mm _) 2 (c' := (17, [.ref 84, .int (nI k), .int (nI 12)], [.int (nI 12), .int (nI 12)], (0, 0), h1)) rfl ?_
        refine ab_W.itT (mm _) (p := (nI 12) ≤ (nI 12)) (c1 := (77, [.ref 84, .int (nI k), .int (nI 12)], [], (0, 0), h1)) (c2 := (20, [.ref 84, .int (nI k), .int (nI 12)], [], (0, 0), h1)) rfl ((by decide)) ?_
        refine ab_W.go (mm _) 2 (c' := (79, [.ref 84, .int (nI k), .int (nI 0)], [], (0, 0), h1)) rfl ?_
        exact loop2 0 (Nat.zero_le _) h1 (fun j hj => k1 j (by omega)) m5 m6 m7 ⟨g8, (k1 98 (by omega)).trans a8, fun k' j _ _ => (mix_0 gH (fun k' j => g8 (768 * k' + j)) k k' j).symm⟩
      · intro s hs ih h1 k1 m5 m6 m7
        have z0 := (k1 84 (by omega)).trans h0
        obtain ⟨u5, v5, w5⟩ := id m5
        obtain ⟨u6, v6, w6⟩ := id m6
        obtain ⟨u7, v7, w7⟩ := id m7
        refine ab_W.go (mm _) 2 (c' := (17, [.ref 84, .int (nI k), .int (nI s)], [.int (nI 12), .int (nI s)], (0, 0), h1)) rfl ?_
        refine ab_W.itF (mm _) (p := (nI 12) ≤ (nI s)) (c1 := (77, [.ref 84, .int (nI k), .int (nI s)], [], (0, 0), h1)) (c2 := (20, [.ref 84, .int (nI k), .int (nI s)], [], (0, 0), h1)) rfl (fun z => absurd ((nI_leI (by omega) (by omega)).mp z) (by omega)) ?_
        refine ab_W.go (mm _) 1 (c' := (21, [.ref 84, .int (nI k), .int (nI s)], [.ref 84], (0, 0), h1)) rfl ?_
        refine ab_W.o (mm _) (z0) rfl (c' := (24, [.ref 84, .int (nI k), .int (nI s)], [.ref 95], (0, 0), h1)) rfl ?_
        refine ab_W.go (mm _) 3 (c' := (28, [.ref 84, .int (nI k), .int (nI s)], [.int ((nI 12) * (nI k)), .ref 95], (0, 0), h1)) rfl ?_
        refine ab_W.topi (pk_mul 12 k) ?_
        refine ab_W.go (mm _) 2 (c' := (30, [.ref 84, .int (nI k), .int (nI s)], [.int ((nI (12 * k)) + (nI s)), .ref 95], (0, 0), h1)) rfl ?_
        refine ab_W.topi (nI_add (12 * k) s) ?_
        refine ab_W.go (mm _) 1 (c' := (31, [.ref 84, .int (nI k), .int (nI s)], [.ref 84, .int (nI ((12 * k) + s)), .ref 95], (0, 0), h1)) rfl ?_
        refine ab_W.o (mm _) (z0) rfl (c' := (34, [.ref 84, .int (nI k), .int (nI s)], [.ref 85, .int (nI ((12 * k) + s)), .ref 95], (0, 0), h1)) rfl ?_
        refine ab_W.go (mm _) 1 (c' := (35, [.ref 84, .int (nI k), .int (nI s)], [.int (nI s), .ref 85, .int (nI ((12 * k) + s)), .ref 95], (0, 0), h1)) rfl ?_
        refine ab_W.bald (mm _) (j := s) ((k1 85 (by omega)).trans c1) rfl (by omega) rfl rfl ?_
        show ab_W _ _ _ (36, [.ref 84, .int (nI k), .int (nI s)], [.int (gB s), .int (nI ((12 * k) + s)), .ref 95], (0, 0), h1)
        refine ab_W.topi (d1 s hs) ?_
        refine ab_W.bast (mm _) (j := 12 * k + s) (v5) (by simp only [nI_add, pk_mul]) (by omega) rfl (b2i_01 _) rfl ?_
        show ab_W _ _ _ (37, [.ref 84, .int (nI k), .int (nI s)], [], (0, 0), h1.set 95 (.inl (2, 24, .inl (upd u5 (12 * k + s) (b2i (pr σ.1 s))))))
        obtain ⟨h2, e2⟩ : ∃ h2, h2 = h1.set 95 (.inl (2, 24, .inl (upd u5 (12 * k + s) (b2i (pr σ.1 s))))) := ⟨_, rfl⟩
        have k2 : ∀ i, i ≠ 95 → h2[i]? = h1[i]? := fun i hi => by rw [e2]; exact set_ne (fun z => hi z.symm)
        have n5 : imB h2 (mix (pr σ.1) (fun k' => pr (σ.2.1 k')) k (s + 1)) := by rw [e2]; exact imB.put hk hs v5 w5
        refine ab_W.hp (e2.symm) ?_
        show ab_W _ _ _ (37, [.ref 84, .int (nI k), .int (nI s)], [], (0, 0), h2)
        have z0 := (k2 84 (by decide)).trans z0
        refine ab_W.go (mm _) 1 (c' := (38, [.ref 84, .int (nI k), .int (nI s)], [.ref 84], (0, 0), h2)) rfl ?_
        refine ab_W.o (mm _) (z0) rfl (c' := (41, [.ref 84, .int (nI k), .int (nI s)], [.ref 96], (0, 0), h2)) rfl ?_
        refine ab_W.go (mm _) 3 (c' := (45, [.ref 84, .int (nI k), .int (nI s)], [.int ((nI 12) * (nI k)), .ref 96], (0, 0), h2)) rfl ?_
        refine ab_W.topi (pk_mul 12 k) ?_
        refine ab_W.go (mm _) 2 (c' := (47, [.ref 84, .int (nI k), .int (nI s)], [.int ((nI (12 * k)) + (nI s)), .ref 96], (0, 0), h2)) rfl ?_
        refine ab_W.topi (nI_add (12 * k) s) ?_
        refine ab_W.go (mm _) 1 (c' := (48, [.ref 84, .int (nI k), .int (nI s)], [.ref 84, .int (nI ((12 * k) + s)), .ref 96], (0, 0), h2)) rfl ?_
        refine ab_W.o (mm _) (z0) rfl (c' := (51, [.ref 84, .int (nI k), .int (nI s)], [.ref 86, .int (nI ((12 * k) + s)), .ref 96], (0, 0), h2)) rfl ?_
        refine ab_W.go (mm _) 1 (c' := (52, [.ref 84, .int (nI k), .int (nI s)], [.int (nI s), .ref 86, .int (nI ((12 * k) + s)), .ref 96], (0, 0), h2)) rfl ?_
        refine ab_W.lald (mm _) (j := s) ((k2 86 (by decide)).trans ((k1 86 (by omega)).trans c2)) rfl (by omega) rfl rfl ?_
        show ab_W _ _ _ (53, [.ref 84, .int (nI k), .int (nI s)], [.long (gN s), .int (nI ((12 * k) + s)), .ref 96], (0, 0), h2)
        refine ab_W.topl (d2 s hs) ?_
        refine ab_W.last (mm _) (j := 12 * k + s) ((k2 96 (by decide)).trans v6) (by simp only [nI_add, pk_mul]) (by omega) rfl rfl ?_
        show ab_W _ _ _ (54, [.ref 84, .int (nI k), .int (nI s)], [], (0, 0), h2.set 96 (.inl (1, 24, .inr (.inl (vp_updL u6 (12 * k + s) (nm σ.1 s))))))
        obtain ⟨h3, e3⟩ : ∃ h3, h3 = h2.set 96 (.inl (1, 24, .inr (.inl (vp_updL u6 (12 * k + s) (nm σ.1 s))))) := ⟨_, rfl⟩
        have k3 : ∀ i, i ≠ 96 → h3[i]? = h2[i]? := fun i hi => by rw [e3]; exact set_ne (fun z => hi z.symm)
        have n6 : imL h3 96 (mix (nm σ.1) (fun k' => nm (σ.2.1 k')) k (s + 1)) := by rw [e3]; exact imL.put hk hs ((k2 96 (by decide)).trans v6) w6
        refine ab_W.hp (e3.symm) ?_
        show ab_W _ _ _ (54, [.ref 84, .int (nI k), .int (nI s)], [], (0, 0), h3)
        have z0 := (k3 84 (by decide)).trans z0
        refine ab_W.go (mm _) 1 (c' := (55, [.ref 84, .int (nI k), .int (nI s)], [.ref 84], (0, 0), h3)) rfl ?_
        refine ab_W.o (mm _) (z0) rfl (c' := (58, [.ref 84, .int (nI k), .int (nI s)], [.ref 97], (0, 0), h3)) rfl ?_
        refine ab_W.go (mm _) 3 (c' := (62, [.ref 84, .int (nI k), .int (nI s)], [.int ((nI 12) * (nI k)), .ref 97], (0, 0), h3)) rfl ?_
        refine ab_W.topi (pk_mul 12 k) ?_
        refine ab_W.go (mm _) 2 (c' := (64, [.ref 84, .int (nI k), .int (nI s)], [.int ((nI (12 * k)) + (nI s)), .ref 97], (0, 0), h3)) rfl ?_
        refine ab_W.topi (nI_add (12 * k) s) ?_
        refine ab_W.go (mm _) 1 (c' := (65, [.ref 84, .int (nI k), .int (nI s)], [.ref 84, .int (nI ((12 * k) + s)), .ref 97], (0, 0), h3)) rfl ?_
        refine ab_W.o (mm _) (z0) rfl (c' := (68, [.ref 84, .int (nI k), .int (nI s)], [.ref 87, .int (nI ((12 * k) + s)), .ref 97], (0, 0), h3)) rfl ?_
        refine ab_W.go (mm _) 1 (c' := (69, [.ref 84, .int (nI k), .int (nI s)], [.int (nI s), .ref 87, .int (nI ((12 * k) + s)), .ref 97], (0, 0), h3)) rfl ?_
        refine ab_W.lald (mm _) (j := s) ((k3 87 (by decide)).trans ((k2 87 (by decide)).trans ((k1 87 (by omega)).trans c3))) rfl (by omega) rfl rfl ?_
        show ab_W _ _ _ (70, [.ref 84, .int (nI k), .int (nI s)], [.long (gK s), .int (nI ((12 * k) + s)), .ref 97], (0, 0), h3)
        refine ab_W.topl (d3 s hs) ?_
        have y7 := (k3 97 (by decide)).trans ((k2 97 (by decide)).trans v7)
        refine ab_W.last (mm _) (j := 12 * k + s) (y7) (by simp only [nI_add, pk_mul]) (by omega) rfl rfl ?_
        show ab_W _ _ _ (71, [.ref 84, .int (nI k), .int (nI s)], [], (0, 0), h3.set 97 (.inl (1, 24, .inr (.inl (vp_updL u7 (12 * k + s) (kn σ.1 s))))))
        refine ab_W.go (mm _) 1 (c' := (74, [.ref 84, .int (nI k), .int (nI s + nI 1)], [], (0, 0), h3.set 97 (.inl (1, 24, .inr (.inl (vp_updL u7 (12 * k + s) (kn σ.1 s))))))) rfl ?_
        rw [nI_add s 1]
        refine ab_W.go (mm _) 1 (c' := (14, [.ref 84, .int (nI k), .int (nI (s + 1))], [], (0, 0), h3.set 97 (.inl (1, 24, .inr (.inl (vp_updL u7 (12 * k + s) (kn σ.1 s))))))) rfl ?_
        refine ih _ (fun j hj => (set_ne (by omega)).trans ((k3 j (by omega)).trans ((k2 j (by omega)).trans (k1 j hj)))) ((n5.kept (k3 95 (by decide))).kept (set_ne (by decide))) (n6.kept (set_ne (by decide))) (imL.put hk hs y7 w7)
    refine ⟨rfl, ?_⟩
    show ab_W _ _ _ (0, [.ref 84, .int (nI k), .retAddr 0], [], (0, 0), h)
    refine ab_W.go (mm _) 3 (c' := (3, [.ref 84, .int (nI k), .retAddr 0], [.int (nI 1), .int (nI 0), .int (nI k)], (0, 0), h)) rfl ?_
    refine ab_W.call (mm _) (k := 64) (av := [.int (nI k), .int (nI 0), .int (nI 1)]) (c' := (6, [.ref 84, .int (nI k), .retAddr 0], [], (0, 0), h)) rfl ?_
    refine min_ _ (fun v hv => ?_)
    have ev : v = nI 1 := hv.elim (fun z => z.2) (fun z => absurd ⟨Int32.not_lt.mp (nI_pos (by omega)), (nI_leI (by omega) (by omega)).mpr (show k ≤ 1 by omega)⟩ z.1)
    subst ev
    show ab_W _ _ _ (6, [.ref 84, .int (nI k), .retAddr 0], [.int (nI 1)], (0, 0), h)
    refine ab_W.itF (mm _) (p := (nI 1) = 0) (c1 := (9, [.ref 84, .int (nI k), .retAddr 0], [], (0, 0), h)) (c2 := (12, [.ref 84, .int (nI k), .retAddr 0], [], (0, 0), h)) rfl (nI_ne01) ?_
    refine ab_W.go (mm _) 2 (c' := (14, [.ref 84, .int (nI k), .int (nI 0)], [], (0, 0), h)) rfl ?_
    exact loop1 0 (Nat.zero_le _) h (fun _ _ => rfl) ⟨g5, a5, fun k' s' h1 h2 => (b5 k' s' h1 h2).trans (by rw [mix_0])⟩ ⟨g6, a6, fun k' s' h1 h2 => (b6 k' s' h1 h2).trans (by rw [mix_0])⟩ ⟨g7, a7, fun k' s' h1 h2 => (b7 k' s' h1 h2).trans (by rw [mix_0])⟩
