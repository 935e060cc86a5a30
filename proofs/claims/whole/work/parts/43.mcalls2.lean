/-! MORE CALLS OF THE REFERENCE -/
theorem sp_m_join (d : Nat) {h : ab_H} {σ : Sg} {x : Int32} {y : Int32} (hR : relM h σ) {post : ab_P} (hp : okM h post ((joinO σ.1 (stN σ.1 x) (stN σ.1 y)).1) ((joinO σ.1 (stN σ.1 x) (stN σ.1 y)).2, σ.2)) : mCC (d + 4) kSpanStampsModel_join [.ref 84, .int x, .int y] h post := by
  obtain ⟨⟨sz, op, h0⟩, hB, hN, hK, hH, -⟩ := id hR
  obtain ⟨gB, b1, b2⟩ := id hB
  obtain ⟨gN, n1, n2⟩ := id hN
  obtain ⟨gK, k1, k2⟩ := id hK
  obtain ⟨gH, m1, m2⟩ := id hH
  rcases stamp_or σ.1 x with hx | ⟨s, hs, rfl, hx⟩
  · rw [stN_no hx] at hp
    refine ⟨rfl, ?_⟩
    show ab_W _ _ _ (0, [.ref 84, .int x, .int y], [], (0, 0), h)
    refine ab_W.go (mm _) 2 (c' := (2, [.ref 84, .int x, .int y], [.int x, .ref 84], (0, 0), h)) rfl ?_
    refine ab_W.callV (mm _) (h0) rfl (k := 65) (av := [.ref 84, .int x]) (c' := (5, [.ref 84, .int x, .int y], [], (0, 0), h)) rfl ?_
    refine sp_isN _ h0 hB hx ?_
    show ab_W _ _ _ (5, [.ref 84, .int x, .int y], [.int (nI 0)], (0, 0), h)
    refine ab_W.itT (mm _) (p := (nI 0) = 0) (c1 := (16, [.ref 84, .int x, .int y], [], (0, 0), h)) (c2 := (8, [.ref 84, .int x, .int y], [], (0, 0), h)) rfl (nI_0) ?_
    refine ab_W.go (mm _) 1 (c' := (17, [.ref 84, .int x, .int y], [.int (-(nI 1))], (0, 0), h)) rfl ?_
    refine ab_W.retI (mm _) (rt := some .int) (v := -(nI 1)) rfl rfl ?_
    exact hp h hR (fun _ _ => rfl)
  · rw [stN_yes hs hx] at hp
    rcases stamp_or σ.1 y with hy | ⟨t, ht', rfl, hy⟩
    · rw [stN_no hy] at hp
      refine ⟨rfl, ?_⟩
      show ab_W _ _ _ (0, [.ref 84, .int (nI s), .int y], [], (0, 0), h)
      refine ab_W.go (mm _) 2 (c' := (2, [.ref 84, .int (nI s), .int y], [.int (nI s), .ref 84], (0, 0), h)) rfl ?_
      refine ab_W.callV (mm _) (h0) rfl (k := 65) (av := [.ref 84, .int (nI s)]) (c' := (5, [.ref 84, .int (nI s), .int y], [], (0, 0), h)) rfl ?_
      refine sp_isY _ h0 hB hs hx ?_
      show ab_W _ _ _ (5, [.ref 84, .int (nI s), .int y], [.int (nI 1)], (0, 0), h)
      refine ab_W.itF (mm _) (p := (nI 1) = 0) (c1 := (16, [.ref 84, .int (nI s), .int y], [], (0, 0), h)) (c2 := (8, [.ref 84, .int (nI s), .int y], [], (0, 0), h)) rfl (nI_ne01) ?_
      refine ab_W.go (mm _) 2 (c' := (10, [.ref 84, .int (nI s), .int y], [.int y, .ref 84], (0, 0), h)) rfl ?_
      refine ab_W.callV (mm _) (h0) rfl (k := 65) (av := [.ref 84, .int y]) (c' := (13, [.ref 84, .int (nI s), .int y], [], (0, 0), h)) rfl ?_
      refine sp_isN _ h0 hB hy ?_
      show ab_W _ _ _ (13, [.ref 84, .int (nI s), .int y], [.int (nI 0)], (0, 0), h)
      refine ab_W.itT (mm _) (p := (nI 0) = 0) (c1 := (16, [.ref 84, .int (nI s), .int y], [], (0, 0), h)) (c2 := (18, [.ref 84, .int (nI s), .int y], [], (0, 0), h)) rfl (nI_0) ?_
      refine ab_W.go (mm _) 1 (c' := (17, [.ref 84, .int (nI s), .int y], [.int (-(nI 1))], (0, 0), h)) rfl ?_
      refine ab_W.retI (mm _) (rt := some .int) (v := -(nI 1)) rfl rfl ?_
      exact hp h hR (fun _ _ => rfl)
    · rw [stN_yes ht' hy] at hp
      refine ⟨rfl, ?_⟩
      show ab_W _ _ _ (0, [.ref 84, .int (nI s), .int (nI t)], [], (0, 0), h)
      refine ab_W.go (mm _) 2 (c' := (2, [.ref 84, .int (nI s), .int (nI t)], [.int (nI s), .ref 84], (0, 0), h)) rfl ?_
      refine ab_W.callV (mm _) (h0) rfl (k := 65) (av := [.ref 84, .int (nI s)]) (c' := (5, [.ref 84, .int (nI s), .int (nI t)], [], (0, 0), h)) rfl ?_
      refine sp_isY _ h0 hB hs hx ?_
      show ab_W _ _ _ (5, [.ref 84, .int (nI s), .int (nI t)], [.int (nI 1)], (0, 0), h)
      refine ab_W.itF (mm _) (p := (nI 1) = 0) (c1 := (16, [.ref 84, .int (nI s), .int (nI t)], [], (0, 0), h)) (c2 := (8, [.ref 84, .int (nI s), .int (nI t)], [], (0, 0), h)) rfl (nI_ne01) ?_
      refine ab_W.go (mm _) 2 (c' := (10, [.ref 84, .int (nI s), .int (nI t)], [.int (nI t), .ref 84], (0, 0), h)) rfl ?_
      refine ab_W.callV (mm _) (h0) rfl (k := 65) (av := [.ref 84, .int (nI t)]) (c' := (13, [.ref 84, .int (nI s), .int (nI t)], [], (0, 0), h)) rfl ?_
      refine sp_isY _ h0 hB ht' hy ?_
      show ab_W _ _ _ (13, [.ref 84, .int (nI s), .int (nI t)], [.int (nI 1)], (0, 0), h)
      refine ab_W.itF (mm _) (p := (nI 1) = 0) (c1 := (16, [.ref 84, .int (nI s), .int (nI t)], [], (0, 0), h)) (c2 := (18, [.ref 84, .int (nI s), .int (nI t)], [], (0, 0), h)) rfl (nI_ne01) ?_
      refine ab_W.go (mm _) 2 (c' := (20, [.ref 84, .int (nI s), .int (nI t)], [.int (nI t), .int (nI s)], (0, 0), h)) rfl ?_
      refine ab_W.ite (mm _) (p := (nI s) = (nI t)) (c1 := (23, [.ref 84, .int (nI s), .int (nI t)], [], (0, 0), h)) (c2 := (26, [.ref 84, .int (nI s), .int (nI t)], [], (0, 0), h)) rfl (fun q => ?_) (fun q => ?_)
      · skip
        have q := (nI_eq (by omega) (by omega)).mp q
        rw [show joinO σ.1 (some s) (some t) = _ from ci_t q] at hp
        refine ab_W.go (mm _) 1 (c' := (25, [.ref 84, .int (nI s), .int (nI t)], [.int (-(nI 2))], (0, 0), h)) rfl ?_
        refine ab_W.retI (mm _) (rt := some .int) (v := -(nI 2)) rfl rfl ?_
        exact hp h hR (fun _ _ => rfl)
      · skip
        have q : ¬ s = t := fun z => q (by rw [z])
        have q' : ¬ t = s := fun z => q z.symm
        rw [show joinO σ.1 (some s) (some t) = _ from ci_f q] at hp
        refine ab_W.go (mm _) 3 (c' := (29, [.ref 84, .int (nI s), .int (nI t)], [.int (nI t), .int (nI s), .ref 84], (0, 0), h)) rfl ?_
        refine ab_W.callV (mm _) (h0) rfl (k := 94) (av := [.ref 84, .int (nI s), .int (nI t)]) (c' := (32, [.ref 84, .int (nI s), .int (nI t)], [], (0, 0), h)) rfl ?_
        refine sp_mheard _ h0 hH hK hs ht' q (fun h1 H1 K1 q1 => ?_)
        show ab_W _ _ _ (32, [.ref 84, .int (nI s), .int (nI t)], [.int (nI (cn (fun j => ht σ.1 s j < ht σ.1 t j) 64))], (0, 0), h1)
        have h01 := (q1 84 (by decide) (by decide)).trans h0
        have n1' := (q1 86 (by decide) (by decide)).trans n1
        have b1' := (q1 85 (by decide) (by decide)).trans b1
        refine ab_W.go (mm _) 2 (c' := (34, [.ref 84, .int (nI s), .int (nI t)], [.ref 84], (0, 0), h1)) rfl ?_
        refine ab_W.o (mm _) (h01) rfl (c' := (37, [.ref 84, .int (nI s), .int (nI t)], [.ref 86], (0, 0), h1)) rfl ?_
        refine ab_W.go (mm _) 2 (c' := (39, [.ref 84, .int (nI s), .int (nI t)], [.int (nI s), .ref 86, .int (nI s), .ref 86], (0, 0), h1)) rfl ?_
        refine ab_W.lald (mm _) (j := s) (n1') rfl (by omega) rfl rfl ?_
        show ab_W _ _ _ (40, [.ref 84, .int (nI s), .int (nI t)], [.long (gN s), .int (nI s), .ref 86], (0, 0), h1)
        refine ab_W.topl (n2 s hs) ?_
        refine ab_W.go (mm _) 1 (c' := (41, [.ref 84, .int (nI s), .int (nI t)], [.ref 84, .long (nm σ.1 s), .int (nI s), .ref 86], (0, 0), h1)) rfl ?_
        refine ab_W.o (mm _) (h01) rfl (c' := (44, [.ref 84, .int (nI s), .int (nI t)], [.ref 86, .long (nm σ.1 s), .int (nI s), .ref 86], (0, 0), h1)) rfl ?_
        refine ab_W.go (mm _) 1 (c' := (45, [.ref 84, .int (nI s), .int (nI t)], [.int (nI t), .ref 86, .long (nm σ.1 s), .int (nI s), .ref 86], (0, 0), h1)) rfl ?_
        refine ab_W.lald (mm _) (j := t) (n1') rfl (by omega) rfl rfl ?_
        show ab_W _ _ _ (46, [.ref 84, .int (nI s), .int (nI t)], [.long (gN t), .long (nm σ.1 s), .int (nI s), .ref 86], (0, 0), h1)
        refine ab_W.topl (n2 t ht') ?_
        refine ab_W.go (mm _) 1 (c' := (47, [.ref 84, .int (nI s), .int (nI t)], [.long ((nm σ.1 s) ||| (nm σ.1 t)), .int (nI s), .ref 86], (0, 0), h1)) rfl ?_
        refine ab_W.last (mm _) (j := s) (n1') rfl (by omega) rfl rfl ?_
        show ab_W _ _ _ (48, [.ref 84, .int (nI s), .int (nI t)], [], (0, 0), h1.set 86 (.inl (1, 12, .inr (.inl (vp_updL gN s (nm σ.1 s ||| nm σ.1 t))))))
        obtain ⟨h2, e2⟩ : ∃ h2, h2 = h1.set 86 (.inl (1, 12, .inr (.inl (vp_updL gN s (nm σ.1 s ||| nm σ.1 t))))) := ⟨_, rfl⟩
        have q2 : ∀ i, i ≠ 86 → h2[i]? = h1[i]? := fun i hi => by rw [e2]; exact set_ne (fun z => hi z.symm)
        have N2 : arrL h2 86 12 (va_up (nm σ.1) s (nm σ.1 s ||| nm σ.1 t)) := by rw [e2]; exact arrL.put n1' n2
        refine ab_W.hp (e2.symm) ?_
        show ab_W _ _ _ (48, [.ref 84, .int (nI s), .int (nI t)], [], (0, 0), h2)
        refine ab_W.go (mm _) 1 (c' := (49, [.ref 84, .int (nI s), .int (nI t)], [.ref 84], (0, 0), h2)) rfl ?_
        refine ab_W.o (mm _) ((q2 84 (by decide)).trans h01) rfl (c' := (52, [.ref 84, .int (nI s), .int (nI t)], [.ref 85], (0, 0), h2)) rfl ?_
        refine ab_W.go (mm _) 2 (c' := (54, [.ref 84, .int (nI s), .int (nI t)], [.int (nI 0), .int (nI t), .ref 85], (0, 0), h2)) rfl ?_
        have b1' := (q2 85 (by decide)).trans b1'
        refine ab_W.bast (mm _) (j := t) (b1') rfl (by omega) rfl (by decide) rfl ?_
        show ab_W _ _ _ (55, [.ref 84, .int (nI s), .int (nI t)], [], (0, 0), h2.set 85 (.inl (2, 12, .inl (upd gB t (nI 0)))))
        obtain ⟨h3, e3⟩ : ∃ h3, h3 = h2.set 85 (.inl (2, 12, .inl (upd gB t (nI 0)))) := ⟨_, rfl⟩
        have q3 : ∀ i, i ≠ 85 → h3[i]? = h2[i]? := fun i hi => by rw [e3]; exact set_ne (fun z => hi z.symm)
        have B3 : arrB h3 85 12 (va_up (pr σ.1) t false) := by rw [e3]; exact arrB.put (v := false) b1' b2
        have B3 : arrB h3 85 12 (pr (joinC σ.1 s t)) := B3.congr (fun v hv => by by_cases e1 : v = s <;> by_cases e2 : v = t <;> simp [joinC, pr_setS, nm_setS, kn_setS, ht_setS, va_up, e1, e2, hx, q, q'])
        refine ab_W.hp (e3.symm) ?_
        show ab_W _ _ _ (55, [.ref 84, .int (nI s), .int (nI t)], [], (0, 0), h3)
        refine ab_W.go (mm _) 1 (c' := (56, [.ref 84, .int (nI s), .int (nI t)], [.ref 84], (0, 0), h3)) rfl ?_
        have h03 := (q3 84 (by decide)).trans ((q2 84 (by decide)).trans h01)
        refine ab_W.callV (mm _) (h03) rfl (k := 68) (av := [.ref 84]) (c' := (59, [.ref 84, .int (nI s), .int (nI t)], [], (0, 0), h3)) rfl ?_
        refine sp_mmany _ h03 B3 ?_
        show ab_W _ _ _ (59, [.ref 84, .int (nI s), .int (nI t)], [.int (nI (cb (pr (joinC σ.1 s t)) 12))], (0, 0), h3)
        refine ab_W.retI (mm _) (rt := some .int) (v := nI (cb (pr (joinC σ.1 s t)) 12)) rfl rfl ?_
        have qq : ∀ i, i < 85 ∨ 88 < i → h3[i]? = h[i]? := fun i hi => (q3 i (by omega)).trans ((q2 i (by omega)).trans (q1 i (by omega) (by omega)))
        exact hp _ (hR.cur2 rfl B3 ((N2.kept (q3 86 (by decide))).congr (fun v hv => by by_cases e1 : v = s <;> by_cases e2 : v = t <;> simp [joinC, pr_setS, nm_setS, kn_setS, ht_setS, va_up, e1, e2, hx, q, q'])) ((K1.kept ((q3 87 (by decide)).trans (q2 87 (by decide)))).congr (fun v hv => by by_cases e1 : v = s <;> by_cases e2 : v = t <;> simp [joinC, pr_setS, nm_setS, kn_setS, ht_setS, va_up, e1, e2, hx, q, q'])) ((H1.kept ((q3 88 (by decide)).trans (q2 88 (by decide)))).congr (fun v hv => by by_cases e1 : v = s <;> by_cases e2 : v = t <;> simp [joinC, pr_setS, nm_setS, kn_setS, ht_setS, va_up, e1, e2, hx, q, q'])) qq) (fun i hi => qq i (by omega))
theorem sp_m_share (d : Nat) {h : ab_H} {σ : Sg} {x : Int32} {y : Int32} (hR : relM h σ) {post : ab_P} (hp : okM h post ((shareO σ.1 (stN σ.1 x) (stN σ.1 y)).1) ((shareO σ.1 (stN σ.1 x) (stN σ.1 y)).2, σ.2)) : mCC (d + 8) kSpanStampsModel_share [.ref 84, .int x, .int y] h post := by
  obtain ⟨⟨sz, op, h0⟩, hB, hN, hK, hH, -⟩ := id hR
  obtain ⟨gB, b1, b2⟩ := id hB
  obtain ⟨gN, n1, n2⟩ := id hN
  obtain ⟨gK, k1, k2⟩ := id hK
  obtain ⟨gH, m1, m2⟩ := id hH
  rcases stamp_or σ.1 x with hx | ⟨s, hs, rfl, hx⟩
  · rw [stN_no hx] at hp
    refine ⟨rfl, ?_⟩
    show ab_W _ _ _ (0, [.ref 84, .int x, .int y, .retAddr 0, .retAddr 0], [], (0, 0), h)
    refine ab_W.go (mm _) 2 (c' := (2, [.ref 84, .int x, .int y, .retAddr 0, .retAddr 0], [.int x, .ref 84], (0, 0), h)) rfl ?_
    refine ab_W.callV (mm _) (h0) rfl (k := 65) (av := [.ref 84, .int x]) (c' := (5, [.ref 84, .int x, .int y, .retAddr 0, .retAddr 0], [], (0, 0), h)) rfl ?_
    refine sp_isN _ h0 hB hx ?_
    show ab_W _ _ _ (5, [.ref 84, .int x, .int y, .retAddr 0, .retAddr 0], [.int (nI 0)], (0, 0), h)
    refine ab_W.itT (mm _) (p := (nI 0) = 0) (c1 := (16, [.ref 84, .int x, .int y, .retAddr 0, .retAddr 0], [], (0, 0), h)) (c2 := (8, [.ref 84, .int x, .int y, .retAddr 0, .retAddr 0], [], (0, 0), h)) rfl (nI_0) ?_
    refine ab_W.go (mm _) 1 (c' := (17, [.ref 84, .int x, .int y, .retAddr 0, .retAddr 0], [.int (-(nI 1))], (0, 0), h)) rfl ?_
    refine ab_W.retI (mm _) (rt := some .int) (v := -(nI 1)) rfl rfl ?_
    exact hp h hR (fun _ _ => rfl)
  · rw [stN_yes hs hx] at hp
    rcases stamp_or σ.1 y with hy | ⟨t, ht', rfl, hy⟩
    · rw [stN_no hy] at hp
      refine ⟨rfl, ?_⟩
      show ab_W _ _ _ (0, [.ref 84, .int (nI s), .int y, .retAddr 0, .retAddr 0], [], (0, 0), h)
      refine ab_W.go (mm _) 2 (c' := (2, [.ref 84, .int (nI s), .int y, .retAddr 0, .retAddr 0], [.int (nI s), .ref 84], (0, 0), h)) rfl ?_
      refine ab_W.callV (mm _) (h0) rfl (k := 65) (av := [.ref 84, .int (nI s)]) (c' := (5, [.ref 84, .int (nI s), .int y, .retAddr 0, .retAddr 0], [], (0, 0), h)) rfl ?_
      refine sp_isY _ h0 hB hs hx ?_
      show ab_W _ _ _ (5, [.ref 84, .int (nI s), .int y, .retAddr 0, .retAddr 0], [.int (nI 1)], (0, 0), h)
      refine ab_W.itF (mm _) (p := (nI 1) = 0) (c1 := (16, [.ref 84, .int (nI s), .int y, .retAddr 0, .retAddr 0], [], (0, 0), h)) (c2 := (8, [.ref 84, .int (nI s), .int y, .retAddr 0, .retAddr 0], [], (0, 0), h)) rfl (nI_ne01) ?_
      refine ab_W.go (mm _) 2 (c' := (10, [.ref 84, .int (nI s), .int y, .retAddr 0, .retAddr 0], [.int y, .ref 84], (0, 0), h)) rfl ?_
      refine ab_W.callV (mm _) (h0) rfl (k := 65) (av := [.ref 84, .int y]) (c' := (13, [.ref 84, .int (nI s), .int y, .retAddr 0, .retAddr 0], [], (0, 0), h)) rfl ?_
      refine sp_isN _ h0 hB hy ?_
      show ab_W _ _ _ (13, [.ref 84, .int (nI s), .int y, .retAddr 0, .retAddr 0], [.int (nI 0)], (0, 0), h)
      refine ab_W.itT (mm _) (p := (nI 0) = 0) (c1 := (16, [.ref 84, .int (nI s), .int y, .retAddr 0, .retAddr 0], [], (0, 0), h)) (c2 := (18, [.ref 84, .int (nI s), .int y, .retAddr 0, .retAddr 0], [], (0, 0), h)) rfl (nI_0) ?_
      refine ab_W.go (mm _) 1 (c' := (17, [.ref 84, .int (nI s), .int y, .retAddr 0, .retAddr 0], [.int (-(nI 1))], (0, 0), h)) rfl ?_
      refine ab_W.retI (mm _) (rt := some .int) (v := -(nI 1)) rfl rfl ?_
      exact hp h hR (fun _ _ => rfl)
    · rw [stN_yes ht' hy] at hp
      refine ⟨rfl, ?_⟩
      show ab_W _ _ _ (0, [.ref 84, .int (nI s), .int (nI t), .retAddr 0, .retAddr 0], [], (0, 0), h)
      refine ab_W.go (mm _) 2 (c' := (2, [.ref 84, .int (nI s), .int (nI t), .retAddr 0, .retAddr 0], [.int (nI s), .ref 84], (0, 0), h)) rfl ?_
      refine ab_W.callV (mm _) (h0) rfl (k := 65) (av := [.ref 84, .int (nI s)]) (c' := (5, [.ref 84, .int (nI s), .int (nI t), .retAddr 0, .retAddr 0], [], (0, 0), h)) rfl ?_
      refine sp_isY _ h0 hB hs hx ?_
      show ab_W _ _ _ (5, [.ref 84, .int (nI s), .int (nI t), .retAddr 0, .retAddr 0], [.int (nI 1)], (0, 0), h)
      refine ab_W.itF (mm _) (p := (nI 1) = 0) (c1 := (16, [.ref 84, .int (nI s), .int (nI t), .retAddr 0, .retAddr 0], [], (0, 0), h)) (c2 := (8, [.ref 84, .int (nI s), .int (nI t), .retAddr 0, .retAddr 0], [], (0, 0), h)) rfl (nI_ne01) ?_
      refine ab_W.go (mm _) 2 (c' := (10, [.ref 84, .int (nI s), .int (nI t), .retAddr 0, .retAddr 0], [.int (nI t), .ref 84], (0, 0), h)) rfl ?_
      refine ab_W.callV (mm _) (h0) rfl (k := 65) (av := [.ref 84, .int (nI t)]) (c' := (13, [.ref 84, .int (nI s), .int (nI t), .retAddr 0, .retAddr 0], [], (0, 0), h)) rfl ?_
      refine sp_isY _ h0 hB ht' hy ?_
      show ab_W _ _ _ (13, [.ref 84, .int (nI s), .int (nI t), .retAddr 0, .retAddr 0], [.int (nI 1)], (0, 0), h)
      refine ab_W.itF (mm _) (p := (nI 1) = 0) (c1 := (16, [.ref 84, .int (nI s), .int (nI t), .retAddr 0, .retAddr 0], [], (0, 0), h)) (c2 := (18, [.ref 84, .int (nI s), .int (nI t), .retAddr 0, .retAddr 0], [], (0, 0), h)) rfl (nI_ne01) ?_
      refine ab_W.go (mm _) 2 (c' := (20, [.ref 84, .int (nI s), .int (nI t), .retAddr 0, .retAddr 0], [.int (nI t), .int (nI s)], (0, 0), h)) rfl ?_
      refine ab_W.ite (mm _) (p := (nI s) = (nI t)) (c1 := (23, [.ref 84, .int (nI s), .int (nI t), .retAddr 0, .retAddr 0], [], (0, 0), h)) (c2 := (26, [.ref 84, .int (nI s), .int (nI t), .retAddr 0, .retAddr 0], [], (0, 0), h)) rfl (fun q => ?_) (fun q => ?_)
      · skip
        have q := (nI_eq (by omega) (by omega)).mp q
        rw [show shareO σ.1 (some s) (some t) = _ from ci_t q] at hp
        refine ab_W.go (mm _) 1 (c' := (25, [.ref 84, .int (nI s), .int (nI t), .retAddr 0, .retAddr 0], [.int (-(nI 2))], (0, 0), h)) rfl ?_
        refine ab_W.retI (mm _) (rt := some .int) (v := -(nI 2)) rfl rfl ?_
        exact hp h hR (fun _ _ => rfl)
      · skip
        have q : ¬ s = t := fun z => q (by rw [z])
        have q' : ¬ t = s := fun z => q z.symm
        refine ab_W.go (mm _) 1 (c' := (27, [.ref 84, .int (nI s), .int (nI t), .retAddr 0, .retAddr 0], [.ref 84], (0, 0), h)) rfl ?_
        refine ab_W.o (mm _) (h0) rfl (c' := (30, [.ref 84, .int (nI s), .int (nI t), .retAddr 0, .retAddr 0], [.ref 86], (0, 0), h)) rfl ?_
        refine ab_W.go (mm _) 1 (c' := (31, [.ref 84, .int (nI s), .int (nI t), .retAddr 0, .retAddr 0], [.int (nI s), .ref 86], (0, 0), h)) rfl ?_
        refine ab_W.lald (mm _) (j := s) (n1) rfl (by omega) rfl rfl ?_
        show ab_W _ _ _ (32, [.ref 84, .int (nI s), .int (nI t), .retAddr 0, .retAddr 0], [.long (gN s)], (0, 0), h)
        refine ab_W.topl (n2 s hs) ?_
        refine ab_W.go (mm _) 1 (c' := (33, [.ref 84, .int (nI s), .int (nI t), .retAddr 0, .retAddr 0], [.ref 84, .long (nm σ.1 s)], (0, 0), h)) rfl ?_
        refine ab_W.o (mm _) (h0) rfl (c' := (36, [.ref 84, .int (nI s), .int (nI t), .retAddr 0, .retAddr 0], [.ref 86, .long (nm σ.1 s)], (0, 0), h)) rfl ?_
        refine ab_W.go (mm _) 1 (c' := (37, [.ref 84, .int (nI s), .int (nI t), .retAddr 0, .retAddr 0], [.int (nI t), .ref 86, .long (nm σ.1 s)], (0, 0), h)) rfl ?_
        refine ab_W.lald (mm _) (j := t) (n1) rfl (by omega) rfl rfl ?_
        show ab_W _ _ _ (38, [.ref 84, .int (nI s), .int (nI t), .retAddr 0, .retAddr 0], [.long (gN t), .long (nm σ.1 s)], (0, 0), h)
        refine ab_W.topl (n2 t ht') ?_
        refine ab_W.go (mm _) 5 (c' := (43, [.ref 84, .int (nI s), .int (nI t), .long ((nm σ.1 s) ||| (nm σ.1 t)), .retAddr 0], [.int (lg_cmp ((nm σ.1 s) ||| (nm σ.1 t)) (lN 0))], (0, 0), h)) rfl ?_
        refine ab_W.ite (mm _) (p := (lg_cmp ((nm σ.1 s) ||| (nm σ.1 t)) (lN 0)) = 0) (c1 := (46, [.ref 84, .int (nI s), .int (nI t), .long ((nm σ.1 s) ||| (nm σ.1 t)), .retAddr 0], [], (0, 0), h)) (c2 := (49, [.ref 84, .int (nI s), .int (nI t), .long ((nm σ.1 s) ||| (nm σ.1 t)), .retAddr 0], [], (0, 0), h)) rfl (fun r => ?_) (fun r => ?_)
        · skip
          have r := (lg_cmp0 _ _).mp r
          rw [show shareO σ.1 (some s) (some t) = _ from (ci_f q).trans (ci_t r)] at hp
          refine ab_W.go (mm _) 1 (c' := (48, [.ref 84, .int (nI s), .int (nI t), .long ((nm σ.1 s) ||| (nm σ.1 t)), .retAddr 0], [.int (-(nI 3))], (0, 0), h)) rfl ?_
          refine ab_W.retI (mm _) (rt := some .int) (v := -(nI 3)) rfl rfl ?_
          exact hp h hR (fun _ _ => rfl)
        · skip
          have r : ¬ (nm σ.1 s ||| nm σ.1 t) = lN 0 := fun z => r ((lg_cmp0 _ _).mpr z)
          refine ab_W.go (mm _) 1 (c' := (50, [.ref 84, .int (nI s), .int (nI t), .long ((nm σ.1 s) ||| (nm σ.1 t)), .retAddr 0], [.long ((nm σ.1 s) ||| (nm σ.1 t))], (0, 0), h)) rfl ?_
          refine ab_W.call (mm _) (k := 67) (av := [.long ((nm σ.1 s) ||| (nm σ.1 t))]) (c' := (53, [.ref 84, .int (nI s), .int (nI t), .long ((nm σ.1 s) ||| (nm σ.1 t)), .retAddr 0], [], (0, 0), h)) rfl ?_
          refine mbits _ ?_
          show ab_W _ _ _ (53, [.ref 84, .int (nI s), .int (nI t), .long ((nm σ.1 s) ||| (nm σ.1 t)), .retAddr 0], [.int (nI (cnt (nm σ.1 s ||| nm σ.1 t) 64))], (0, 0), h)
          refine ab_W.go (mm _) 1 (c' := (54, [.ref 84, .int (nI s), .int (nI t), .long ((nm σ.1 s) ||| (nm σ.1 t)), .retAddr 0], [.int (nI 1), .int (nI (cnt (nm σ.1 s ||| nm σ.1 t) 64))], (0, 0), h)) rfl ?_
          have l64 : cnt (nm σ.1 s ||| nm σ.1 t) 64 ≤ 64 := cnt_le _ 64
          refine ab_W.ite (mm _) (p := (nI (cnt (nm σ.1 s ||| nm σ.1 t) 64)) = (nI 1)) (c1 := (57, [.ref 84, .int (nI s), .int (nI t), .long ((nm σ.1 s) ||| (nm σ.1 t)), .retAddr 0], [], (0, 0), h)) (c2 := (60, [.ref 84, .int (nI s), .int (nI t), .long ((nm σ.1 s) ||| (nm σ.1 t)), .retAddr 0], [], (0, 0), h)) rfl (fun r2 => ?_) (fun r2 => ?_)
          · skip
            have r2 := (nI_eq (by omega) (by omega)).mp r2
            rw [show shareO σ.1 (some s) (some t) = _ from (ci_f q).trans ((ci_f r).trans (ci_t r2))] at hp
            refine ab_W.go (mm _) 1 (c' := (59, [.ref 84, .int (nI s), .int (nI t), .long ((nm σ.1 s) ||| (nm σ.1 t)), .retAddr 0], [.int (-(nI 5))], (0, 0), h)) rfl ?_
            refine ab_W.retI (mm _) (rt := some .int) (v := -(nI 5)) rfl rfl ?_
            exact hp h hR (fun _ _ => rfl)
          · skip
            have r2 : ¬ cnt (nm σ.1 s ||| nm σ.1 t) 64 = 1 := fun z => r2 (by rw [z])
            rw [show shareO σ.1 (some s) (some t) = _ from (ci_f q).trans ((ci_f r).trans (ci_f r2))] at hp
            refine ab_W.go (mm _) 3 (c' := (63, [.ref 84, .int (nI s), .int (nI t), .long ((nm σ.1 s) ||| (nm σ.1 t)), .retAddr 0], [.int (nI t), .int (nI s), .ref 84], (0, 0), h)) rfl ?_
            refine ab_W.callV (mm _) (h0) rfl (k := 94) (av := [.ref 84, .int (nI s), .int (nI t)]) (c' := (66, [.ref 84, .int (nI s), .int (nI t), .long ((nm σ.1 s) ||| (nm σ.1 t)), .retAddr 0], [], (0, 0), h)) rfl ?_
            refine sp_mheard _ h0 hH hK hs ht' q (fun h1 H1 K1 q1 => ?_)
            have h01 := (q1 84 (by decide) (by decide)).trans h0
            show ab_W _ _ _ (66, [.ref 84, .int (nI s), .int (nI t), .long (nm σ.1 s ||| nm σ.1 t), .retAddr 0], [.int (nI (cn (fun j => ht σ.1 s j < ht σ.1 t j) 64))], (0, 0), h1)
            refine ab_W.go (mm _) 4 (c' := (70, [.ref 84, .int (nI s), .int (nI t), .long (nm σ.1 s ||| nm σ.1 t), .retAddr 0], [.int (nI s), .int (nI t), .ref 84], (0, 0), h1)) rfl ?_
            refine ab_W.callV (mm _) (h01) rfl (k := 94) (av := [.ref 84, .int (nI t), .int (nI s)]) (c' := (73, [.ref 84, .int (nI s), .int (nI t), .long (nm σ.1 s ||| nm σ.1 t), .retAddr 0], [], (0, 0), h1)) rfl ?_
            refine sp_mheard _ h01 H1 K1 ht' hs q' (fun h2 H2 K2 q2 => ?_)
            have h02 := (q2 84 (by decide) (by decide)).trans h01
            have N2 := hN.kept ((q2 86 (by decide) (by decide)).trans (q1 86 (by decide) (by decide)))
            show ab_W _ _ _ (73, [.ref 84, .int (nI s), .int (nI t), .long (nm σ.1 s ||| nm σ.1 t), .retAddr 0], [.int (nI (cn (fun j => va_up (ht σ.1) s (mxH (ht σ.1 s) (ht σ.1 t)) t j < va_up (ht σ.1) s (mxH (ht σ.1 s) (ht σ.1 t)) s j) 64))], (0, 0), h2)
            refine ab_W.go (mm _) 5 (c' := (78, [.ref 84, .int (nI s), .int (nI t), .long (nm σ.1 s ||| nm σ.1 t), .retAddr 0], [.int (nI t), .int (nI s), .long (nm σ.1 s ||| nm σ.1 t), .ref 84], (0, 0), h2)) rfl ?_
            refine ab_W.callV (mm _) (h02) rfl (k := 77) (av := [.ref 84, .long (nm σ.1 s ||| nm σ.1 t), .int (nI s), .int (nI t)]) (c' := (81, [.ref 84, .int (nI s), .int (nI t), .long (nm σ.1 s ||| nm σ.1 t), .retAddr 0], [], (0, 0), h2)) rfl ?_
            refine sp_mpart _ h02 N2 hs ht' r r2 (fun h3 N3 q3 => ?_)
            have h03 := (q3 84 (by decide)).trans h02
            show ab_W _ _ _ (81, [.ref 84, .int (nI s), .int (nI t), .long (nm σ.1 s ||| nm σ.1 t), .retAddr 0], [], (0, 0), h3)
            obtain ⟨g3, c1, c2⟩ := id N3
            refine ab_W.go (mm _) 1 (c' := (82, [.ref 84, .int (nI s), .int (nI t), .long (nm σ.1 s ||| nm σ.1 t), .retAddr 0], [.ref 84], (0, 0), h3)) rfl ?_
            refine ab_W.o (mm _) (h03) rfl (c' := (85, [.ref 84, .int (nI s), .int (nI t), .long (nm σ.1 s ||| nm σ.1 t), .retAddr 0], [.ref 86], (0, 0), h3)) rfl ?_
            refine ab_W.go (mm _) 1 (c' := (86, [.ref 84, .int (nI s), .int (nI t), .long (nm σ.1 s ||| nm σ.1 t), .retAddr 0], [.int (nI s), .ref 86], (0, 0), h3)) rfl ?_
            refine ab_W.lald (mm _) (j := s) (c1) rfl (by omega) rfl rfl ?_
            show ab_W _ _ _ (87, [.ref 84, .int (nI s), .int (nI t), .long (nm σ.1 s ||| nm σ.1 t), .retAddr 0], [.long (g3 s)], (0, 0), h3)
            refine ab_W.topl ((c2 s hs).trans ((va_up_ne _ _ q).trans (va_up_self _ _ _))) ?_
            refine ab_W.call (mm _) (k := 67) (av := [.long (lowN (nm σ.1 s ||| nm σ.1 t))]) (c' := (90, [.ref 84, .int (nI s), .int (nI t), .long (nm σ.1 s ||| nm σ.1 t), .retAddr 0], [], (0, 0), h3)) rfl ?_
            refine mbits _ ?_
            show ab_W _ _ _ (90, [.ref 84, .int (nI s), .int (nI t), .long (nm σ.1 s ||| nm σ.1 t), .retAddr 0], [.int (nI (cnt (lowN (nm σ.1 s ||| nm σ.1 t)) 64))], (0, 0), h3)
            refine ab_W.retI (mm _) (rt := some .int) (v := nI (cnt (lowN (nm σ.1 s ||| nm σ.1 t)) 64)) rfl rfl ?_
            have qq : ∀ i, i < 85 ∨ 88 < i → h3[i]? = h[i]? := fun i hi => (q3 i (by omega)).trans ((q2 i (by omega) (by omega)).trans (q1 i (by omega) (by omega)))
            have K2 : arrL h3 87 12 (kn (shareC σ.1 s t)) := (K2.kept (q3 87 (by decide))).congr (fun v hv => by by_cases e1 : v = s <;> by_cases e2 : v = t <;> simp [shareC, pr_setS, nm_setS, kn_setS, ht_setS, va_up, e1, e2, hx, q, q'])
            have H2 : arrH h3 88 12 (ht (shareC σ.1 s t)) := (H2.kept (q3 88 (by decide))).congr (fun v hv => by by_cases e1 : v = s <;> by_cases e2 : v = t <;> simp [shareC, pr_setS, nm_setS, kn_setS, ht_setS, va_up, e1, e2, hx, q, q'])
            have B2 : arrB h3 85 12 (pr (shareC σ.1 s t)) := (hB.kept ((q3 85 (by decide)).trans ((q2 85 (by decide) (by decide)).trans (q1 85 (by decide) (by decide))))).congr (fun v hv => by by_cases e1 : v = s <;> by_cases e2 : v = t <;> simp [shareC, pr_setS, nm_setS, kn_setS, ht_setS, va_up, e1, e2, hx, hy, q, q'])
            exact hp _ (hR.cur2 rfl B2 (N3.congr (fun v hv => by by_cases e1 : v = s <;> by_cases e2 : v = t <;> simp [shareC, pr_setS, nm_setS, kn_setS, ht_setS, va_up, e1, e2, hx, q, q'])) K2 H2 qq) (fun i hi => qq i (by omega))
theorem sp_m_height (d : Nat) {h : ab_H} {σ : Sg} {x : Int32} {y : Int32} (hR : relM h σ) {post : ab_P} (hp : okM h post (heightO σ.1 y (stN σ.1 x)) (σ)) : mCC (d + 4) kSpanStampsModel_height [.ref 84, .int x, .int y] h post := by
  obtain ⟨⟨sz, op, h0⟩, hB, hN, hK, hH, -⟩ := id hR
  obtain ⟨gB, b1, b2⟩ := id hB
  obtain ⟨gN, n1, n2⟩ := id hN
  obtain ⟨gK, k1, k2⟩ := id hK
  obtain ⟨gH, m1, m2⟩ := id hH
  rcases stamp_or σ.1 x with hx | ⟨s, hs, rfl, hx⟩
  · rw [stN_no hx] at hp
    refine ⟨rfl, ?_⟩
    show ab_W _ _ _ (0, [.ref 84, .int x, .int y], [], (0, 0), h)
    refine ab_W.go (mm _) 2 (c' := (2, [.ref 84, .int x, .int y], [.int x, .ref 84], (0, 0), h)) rfl ?_
    refine ab_W.callV (mm _) (h0) rfl (k := 65) (av := [.ref 84, .int x]) (c' := (5, [.ref 84, .int x, .int y], [], (0, 0), h)) rfl ?_
    refine sp_isN _ h0 hB hx ?_
    show ab_W _ _ _ (5, [.ref 84, .int x, .int y], [.int (nI 0)], (0, 0), h)
    refine ab_W.itT (mm _) (p := (nI 0) = 0) (c1 := (8, [.ref 84, .int x, .int y], [], (0, 0), h)) (c2 := (10, [.ref 84, .int x, .int y], [], (0, 0), h)) rfl (nI_0) ?_
    refine ab_W.go (mm _) 1 (c' := (9, [.ref 84, .int x, .int y], [.int (-(nI 1))], (0, 0), h)) rfl ?_
    refine ab_W.retI (mm _) (rt := some .int) (v := -(nI 1)) rfl rfl ?_
    exact hp h hR (fun _ _ => rfl)
  · rw [stN_yes hs hx] at hp
    refine ⟨rfl, ?_⟩
    show ab_W _ _ _ (0, [.ref 84, .int (nI s), .int y], [], (0, 0), h)
    refine ab_W.go (mm _) 2 (c' := (2, [.ref 84, .int (nI s), .int y], [.int (nI s), .ref 84], (0, 0), h)) rfl ?_
    refine ab_W.callV (mm _) (h0) rfl (k := 65) (av := [.ref 84, .int (nI s)]) (c' := (5, [.ref 84, .int (nI s), .int y], [], (0, 0), h)) rfl ?_
    refine sp_isY _ h0 hB hs hx ?_
    show ab_W _ _ _ (5, [.ref 84, .int (nI s), .int y], [.int (nI 1)], (0, 0), h)
    refine ab_W.itF (mm _) (p := (nI 1) = 0) (c1 := (8, [.ref 84, .int (nI s), .int y], [], (0, 0), h)) (c2 := (10, [.ref 84, .int (nI s), .int y], [], (0, 0), h)) rfl (nI_ne01) ?_
    refine ab_W.go (mm _) 3 (c' := (14, [.ref 84, .int (nI s), .int y], [.int (nI 63), .int (nI 0), .int y], (0, 0), h)) rfl ?_
    refine ab_W.call (mm _) (k := 64) (av := [.int y, .int (nI 0), .int (nI 63)]) (c' := (17, [.ref 84, .int (nI s), .int y], [], (0, 0), h)) rfl ?_
    refine min_ _ (fun v hv => ?_)
    rcases pk_ix y (n := 64) (by decide) with q | q | ⟨j, j1, rfl⟩
    · rw [show heightO σ.1 y (some s) = _ from ci_t (Or.inl q)] at hp
      have ev : v = nI 0 := hv.elim (fun z => absurd q (Int32.not_lt.mpr z.1.1)) (fun z => z.2)
      subst ev
      show ab_W _ _ _ (17, [.ref 84, .int (nI s), .int y], [.int (nI 0)], (0, 0), h)
      refine ab_W.itT (mm _) (p := (nI 0) = 0) (c1 := (34, [.ref 84, .int (nI s), .int y], [], (0, 0), h)) (c2 := (20, [.ref 84, .int (nI s), .int y], [], (0, 0), h)) rfl (nI_0) ?_
      refine ab_W.go (mm _) 1 (c' := (36, [.ref 84, .int (nI s), .int y], [.int (-(nI 2))], (0, 0), h)) rfl ?_
      refine ab_W.retI (mm _) (rt := some .int) (v := -(nI 2)) rfl rfl ?_
      exact hp h hR (fun _ _ => rfl)
    · rw [show heightO σ.1 y (some s) = _ from ci_t (Or.inr q)] at hp
      have ev : v = nI 0 := hv.elim (fun z => absurd (Int32.le_trans q z.1.2) (by decide)) (fun z => z.2)
      subst ev
      show ab_W _ _ _ (17, [.ref 84, .int (nI s), .int y], [.int (nI 0)], (0, 0), h)
      refine ab_W.itT (mm _) (p := (nI 0) = 0) (c1 := (34, [.ref 84, .int (nI s), .int y], [], (0, 0), h)) (c2 := (20, [.ref 84, .int (nI s), .int y], [], (0, 0), h)) rfl (nI_0) ?_
      refine ab_W.go (mm _) 1 (c' := (36, [.ref 84, .int (nI s), .int y], [.int (-(nI 2))], (0, 0), h)) rfl ?_
      refine ab_W.retI (mm _) (rt := some .int) (v := -(nI 2)) rfl rfl ?_
      exact hp h hR (fun _ _ => rfl)
    · rw [show heightO σ.1 (nI j) (some s) = _ from ci_f (fun z => z.elim (nI_pos (by omega)) (fun z => absurd ((nI_leI (by omega) (by omega)).mp z) (by omega))), nI_clamp (by omega)] at hp
      have ev : v = nI 1 := hv.elim (fun z => z.2) (fun z => absurd ⟨Int32.not_lt.mp (nI_pos (by omega)), (nI_leI (by omega) (by omega)).mpr (show j ≤ 63 by omega)⟩ z.1)
      subst ev
      show ab_W _ _ _ (17, [.ref 84, .int (nI s), .int (nI j)], [.int (nI 1)], (0, 0), h)
      refine ab_W.itF (mm _) (p := (nI 1) = 0) (c1 := (34, [.ref 84, .int (nI s), .int (nI j)], [], (0, 0), h)) (c2 := (20, [.ref 84, .int (nI s), .int (nI j)], [], (0, 0), h)) rfl (nI_ne01) ?_
      refine ab_W.go (mm _) 1 (c' := (21, [.ref 84, .int (nI s), .int (nI j)], [.ref 84], (0, 0), h)) rfl ?_
      refine ab_W.o (mm _) (h0) rfl (c' := (24, [.ref 84, .int (nI s), .int (nI j)], [.ref 88], (0, 0), h)) rfl ?_
      refine ab_W.go (mm _) 3 (c' := (28, [.ref 84, .int (nI s), .int (nI j)], [.int ((nI 64) * (nI s)), .ref 88], (0, 0), h)) rfl ?_
      refine ab_W.topi (pk_mul 64 s) ?_
      refine ab_W.go (mm _) 2 (c' := (30, [.ref 84, .int (nI s), .int (nI j)], [.int ((nI (64 * s)) + (nI j)), .ref 88], (0, 0), h)) rfl ?_
      refine ab_W.topi (nI_add (64 * s) j) ?_
      refine ab_W.iald (mm _) (j := 64 * s + j) (m1) (by simp only [nI_add, pk_mul]) (by omega) rfl rfl ?_
      show ab_W _ _ _ (31, [.ref 84, .int (nI s), .int (nI j)], [.int (gH (64 * s + j))], (0, 0), h)
      refine ab_W.topi (m2 s j hs j1) ?_
      refine ab_W.go (mm _) 1 (c' := (36, [.ref 84, .int (nI s), .int (nI j)], [.int (ht σ.1 s j)], (0, 0), h)) rfl ?_
      refine ab_W.retI (mm _) (rt := some .int) (v := ht σ.1 s j) rfl rfl ?_
      exact hp h hR (fun _ _ => rfl)
theorem neg1 {y : Int32} (h1 : y < 0) (h2 : -(nI 1) ≤ y) : y = -(nI 1) := by
  have a : y.toInt < (0 : Int32).toInt := Int32.lt_iff_toInt_lt.mp h1
  have b := Int32.le_iff_toInt_le.mp h2
  have c : (-(nI 1)).toInt = -1 := by decide
  have e : (0 : Int32).toInt = 0 := by decide
  exact Int32.toInt_inj.mp (by omega)
theorem hapI : ∀ n, n ≤ 60 → -(nI 1) ≤ nI n - nI 1 ∧ nI n - nI 1 < nI n := by decide +kernel
theorem hapD : ∀ n, n ≤ 60 → ∀ j, j < n → -(nI 1) ≤ nI j ∧ nI j ≤ nI n - nI 1 := by decide +kernel
theorem sp_m_knows (d : Nat) {h : ab_H} {σ : Sg} {x : Int32} {y : Int32} (hR : relM h σ) (hn60 : hn σ.1 ≤ 60) {post : ab_P} (hp : okM h post (knowsO σ.1 y (stN σ.1 x)) (σ)) : mCC (d + 4) kSpanStampsModel_knows [.ref 84, .int x, .int y] h post := by
  obtain ⟨⟨sz, op, h0⟩, hB, hN, hK, hH, -⟩ := id hR
  obtain ⟨gB, b1, b2⟩ := id hB
  obtain ⟨gN, n1, n2⟩ := id hN
  obtain ⟨gK, k1, k2⟩ := id hK
  obtain ⟨gH, m1, m2⟩ := id hH
  rcases stamp_or σ.1 x with hx | ⟨s, hs, rfl, hx⟩
  · rw [stN_no hx] at hp
    refine ⟨rfl, ?_⟩
    show ab_W _ _ _ (0, [.ref 84, .int x, .int y], [], (0, 0), h)
    refine ab_W.go (mm _) 2 (c' := (2, [.ref 84, .int x, .int y], [.int x, .ref 84], (0, 0), h)) rfl ?_
    refine ab_W.callV (mm _) (h0) rfl (k := 65) (av := [.ref 84, .int x]) (c' := (5, [.ref 84, .int x, .int y], [], (0, 0), h)) rfl ?_
    refine sp_isN _ h0 hB hx ?_
    show ab_W _ _ _ (5, [.ref 84, .int x, .int y], [.int (nI 0)], (0, 0), h)
    refine ab_W.itT (mm _) (p := (nI 0) = 0) (c1 := (8, [.ref 84, .int x, .int y], [], (0, 0), h)) (c2 := (10, [.ref 84, .int x, .int y], [], (0, 0), h)) rfl (nI_0) ?_
    refine ab_W.go (mm _) 1 (c' := (9, [.ref 84, .int x, .int y], [.int (-(nI 1))], (0, 0), h)) rfl ?_
    refine ab_W.retI (mm _) (rt := some .int) (v := -(nI 1)) rfl rfl ?_
    exact hp h hR (fun _ _ => rfl)
  · rw [stN_yes hs hx] at hp
    refine ⟨rfl, ?_⟩
    show ab_W _ _ _ (0, [.ref 84, .int (nI s), .int y], [], (0, 0), h)
    refine ab_W.go (mm _) 2 (c' := (2, [.ref 84, .int (nI s), .int y], [.int (nI s), .ref 84], (0, 0), h)) rfl ?_
    refine ab_W.callV (mm _) (h0) rfl (k := 65) (av := [.ref 84, .int (nI s)]) (c' := (5, [.ref 84, .int (nI s), .int y], [], (0, 0), h)) rfl ?_
    refine sp_isY _ h0 hB hs hx ?_
    show ab_W _ _ _ (5, [.ref 84, .int (nI s), .int y], [.int (nI 1)], (0, 0), h)
    refine ab_W.itF (mm _) (p := (nI 1) = 0) (c1 := (8, [.ref 84, .int (nI s), .int y], [], (0, 0), h)) (c2 := (10, [.ref 84, .int (nI s), .int y], [], (0, 0), h)) rfl (nI_ne01) ?_
    refine ab_W.go (mm _) 3 (c' := (13, [.ref 84, .int (nI s), .int y], [.ref 84, .int (-(nI 1)), .int y], (0, 0), h)) rfl ?_
    refine ab_W.o (mm _) (h0) rfl (c' := (16, [.ref 84, .int (nI s), .int y], [.int (nI (hn σ.1)), .int (-(nI 1)), .int y], (0, 0), h)) rfl ?_
    refine ab_W.go (mm _) 2 (c' := (18, [.ref 84, .int (nI s), .int y], [.int ((nI (hn σ.1)) - (nI 1)), .int (-(nI 1)), .int y], (0, 0), h)) rfl ?_
    refine ab_W.call (mm _) (k := 64) (av := [.int y, .int (-(nI 1)), .int ((nI (hn σ.1)) - (nI 1))]) (c' := (21, [.ref 84, .int (nI s), .int y], [], (0, 0), h)) rfl ?_
    refine min_ _ (fun v hv => ?_)
    rcases pk_ix y (n := hn σ.1) (by omega) with q1 | q1 | ⟨j, j1, rfl⟩
    · by_cases q : y = -(nI 1)
      · rw [show knowsO σ.1 y (some s) = _ from ci_t q] at hp
        have ev : v = nI 1 := hv.elim (fun z => z.2) (fun z => absurd ⟨by rw [q]; exact Int32.le_refl _, by rw [q]; exact (hapI _ hn60).1⟩ z.1)
        subst ev
        show ab_W _ _ _ (21, [.ref 84, .int (nI s), .int y], [.int (nI 1)], (0, 0), h)
        refine ab_W.itF (mm _) (p := (nI 1) = 0) (c1 := (24, [.ref 84, .int (nI s), .int y], [], (0, 0), h)) (c2 := (27, [.ref 84, .int (nI s), .int y], [], (0, 0), h)) rfl (nI_ne01) ?_
        refine ab_W.go (mm _) 1 (c' := (28, [.ref 84, .int (nI s), .int y], [.int y], (0, 0), h)) rfl ?_
        refine ab_W.itF (mm _) (p := 0 ≤ y) (c1 := (43, [.ref 84, .int (nI s), .int y], [], (0, 0), h)) (c2 := (31, [.ref 84, .int (nI s), .int y], [], (0, 0), h)) rfl (Int32.not_le.mpr q1) ?_
        refine ab_W.go (mm _) 1 (c' := (32, [.ref 84, .int (nI s), .int y], [.ref 84], (0, 0), h)) rfl ?_
        refine ab_W.o (mm _) (h0) rfl (c' := (35, [.ref 84, .int (nI s), .int y], [.ref 87], (0, 0), h)) rfl ?_
        refine ab_W.go (mm _) 1 (c' := (36, [.ref 84, .int (nI s), .int y], [.int (nI s), .ref 87], (0, 0), h)) rfl ?_
        refine ab_W.lald (mm _) (j := s) (k1) rfl (by omega) rfl rfl ?_
        show ab_W _ _ _ (37, [.ref 84, .int (nI s), .int y], [.long (gK s)], (0, 0), h)
        refine ab_W.topl (k2 s hs) ?_
        refine ab_W.call (mm _) (k := 67) (av := [.long (kn σ.1 s)]) (c' := (40, [.ref 84, .int (nI s), .int y], [], (0, 0), h)) rfl ?_
        refine mbits _ ?_
        show ab_W _ _ _ (40, [.ref 84, .int (nI s), .int y], [.int (nI (cnt (kn σ.1 s) 64))], (0, 0), h)
        refine ab_W.go (mm _) 1 (c' := (61, [.ref 84, .int (nI s), .int y], [.int (nI (cnt (kn σ.1 s) 64))], (0, 0), h)) rfl ?_
        refine ab_W.retI (mm _) (rt := some .int) (v := nI (cnt (kn σ.1 s) 64)) rfl rfl ?_
        exact hp h hR (fun _ _ => rfl)
      · rw [show knowsO σ.1 y (some s) = _ from (ci_f q).trans (ci_t (Or.inl q1))] at hp
        have ev : v = nI 0 := hv.elim (fun z => absurd (neg1 q1 z.1.1) q) (fun z => z.2)
        subst ev
        show ab_W _ _ _ (21, [.ref 84, .int (nI s), .int y], [.int (nI 0)], (0, 0), h)
        refine ab_W.itT (mm _) (p := (nI 0) = 0) (c1 := (24, [.ref 84, .int (nI s), .int y], [], (0, 0), h)) (c2 := (27, [.ref 84, .int (nI s), .int y], [], (0, 0), h)) rfl (nI_0) ?_
        refine ab_W.go (mm _) 1 (c' := (26, [.ref 84, .int (nI s), .int y], [.int (-(nI 2))], (0, 0), h)) rfl ?_
        refine ab_W.retI (mm _) (rt := some .int) (v := -(nI 2)) rfl rfl ?_
        exact hp h hR (fun _ _ => rfl)
    · have q : ¬ y = -(nI 1) := fun z => nI_le0 q1 (by omega) (by rw [z]; decide)
      rw [show knowsO σ.1 y (some s) = _ from (ci_f q).trans (ci_t (Or.inr q1))] at hp
      have ev : v = nI 0 := hv.elim (fun z => absurd (hapI _ hn60).2 (Int32.not_lt.mpr (Int32.le_trans q1 z.1.2))) (fun z => z.2)
      subst ev
      show ab_W _ _ _ (21, [.ref 84, .int (nI s), .int y], [.int (nI 0)], (0, 0), h)
      refine ab_W.itT (mm _) (p := (nI 0) = 0) (c1 := (24, [.ref 84, .int (nI s), .int y], [], (0, 0), h)) (c2 := (27, [.ref 84, .int (nI s), .int y], [], (0, 0), h)) rfl (nI_0) ?_
      refine ab_W.go (mm _) 1 (c' := (26, [.ref 84, .int (nI s), .int y], [.int (-(nI 2))], (0, 0), h)) rfl ?_
      refine ab_W.retI (mm _) (rt := some .int) (v := -(nI 2)) rfl rfl ?_
      exact hp h hR (fun _ _ => rfl)
    · have q : ¬ nI j = -(nI 1) := fun z => nI_pos (n := j) (by omega) (by rw [z]; decide)
      rw [show knowsO σ.1 (nI j) (some s) = _ from (ci_f q).trans (ci_f (fun z => z.elim (nI_pos (by omega)) (fun z => absurd ((nI_leI (by omega) (by omega)).mp z) (by omega)))), nI_clamp (by omega)] at hp
      have ev : v = nI 1 := hv.elim (fun z => z.2) (fun z => absurd (hapD _ hn60 j j1) z.1)
      subst ev
      show ab_W _ _ _ (21, [.ref 84, .int (nI s), .int (nI j)], [.int (nI 1)], (0, 0), h)
      refine ab_W.itF (mm _) (p := (nI 1) = 0) (c1 := (24, [.ref 84, .int (nI s), .int (nI j)], [], (0, 0), h)) (c2 := (27, [.ref 84, .int (nI s), .int (nI j)], [], (0, 0), h)) rfl (nI_ne01) ?_
      refine ab_W.go (mm _) 1 (c' := (28, [.ref 84, .int (nI s), .int (nI j)], [.int (nI j)], (0, 0), h)) rfl ?_
      refine ab_W.itT (mm _) (p := 0 ≤ (nI j)) (c1 := (43, [.ref 84, .int (nI s), .int (nI j)], [], (0, 0), h)) (c2 := (31, [.ref 84, .int (nI s), .int (nI j)], [], (0, 0), h)) rfl (Int32.not_lt.mp (nI_pos (by omega))) ?_
      refine ab_W.go (mm _) 1 (c' := (44, [.ref 84, .int (nI s), .int (nI j)], [.ref 84], (0, 0), h)) rfl ?_
      refine ab_W.o (mm _) (h0) rfl (c' := (47, [.ref 84, .int (nI s), .int (nI j)], [.ref 87], (0, 0), h)) rfl ?_
      refine ab_W.go (mm _) 1 (c' := (48, [.ref 84, .int (nI s), .int (nI j)], [.int (nI s), .ref 87], (0, 0), h)) rfl ?_
      refine ab_W.lald (mm _) (j := s) (k1) rfl (by omega) rfl rfl ?_
      show ab_W _ _ _ (49, [.ref 84, .int (nI s), .int (nI j)], [.long (gK s)], (0, 0), h)
      refine ab_W.topl (k2 s hs) ?_
      refine ab_W.go (mm _) 1 (c' := (50, [.ref 84, .int (nI s), .int (nI j)], [.int (nI j), .long (kn σ.1 s)], (0, 0), h)) rfl ?_
      refine ab_W.call (mm _) (k := 66) (av := [.long (kn σ.1 s), .int (nI j)]) (c' := (53, [.ref 84, .int (nI s), .int (nI j)], [], (0, 0), h)) rfl ?_
      refine mhas _ (by omega) (fun v hv => ?_)
      rcases hv with ⟨hb, rfl⟩ | ⟨hb, rfl⟩
      · rw [hb] at hp
        show ab_W _ _ _ (53, [.ref 84, .int (nI s), .int (nI j)], [.int (nI 1)], (0, 0), h)
        refine ab_W.itF (mm _) (p := (nI 1) = 0) (c1 := (60, [.ref 84, .int (nI s), .int (nI j)], [], (0, 0), h)) (c2 := (56, [.ref 84, .int (nI s), .int (nI j)], [], (0, 0), h)) rfl (nI_ne01) ?_
        refine ab_W.go (mm _) 2 (c' := (61, [.ref 84, .int (nI s), .int (nI j)], [.int (nI 1)], (0, 0), h)) rfl ?_
        refine ab_W.retI (mm _) (rt := some .int) (v := nI 1) rfl rfl ?_
        exact hp h hR (fun _ _ => rfl)
      · rw [hb] at hp
        show ab_W _ _ _ (53, [.ref 84, .int (nI s), .int (nI j)], [.int (nI 0)], (0, 0), h)
        refine ab_W.itT (mm _) (p := (nI 0) = 0) (c1 := (60, [.ref 84, .int (nI s), .int (nI j)], [], (0, 0), h)) (c2 := (56, [.ref 84, .int (nI s), .int (nI j)], [], (0, 0), h)) rfl (nI_0) ?_
        refine ab_W.go (mm _) 1 (c' := (61, [.ref 84, .int (nI s), .int (nI j)], [.int (nI 0)], (0, 0), h)) rfl ?_
        refine ab_W.retI (mm _) (rt := some .int) (v := nI 0) rfl rfl ?_
        exact hp h hR (fun _ _ => rfl)
theorem sp_m_owner (d : Nat) {h : ab_H} {σ : Sg} {y : Int32} (hR : relM h σ) (ha : apart σ.1) {post : ab_P} (hp : okM h post (ownF σ.1 y) (σ)) : mCC (d + 3) kSpanStampsModel_owner [.ref 84, .int y] h post := by
  obtain ⟨⟨sz, op, h0⟩, hB, hN, hK, hH, -⟩ := id hR
  obtain ⟨gB, b1, b2⟩ := id hB
  obtain ⟨gN, n1, n2⟩ := id hN
  obtain ⟨gK, k1, k2⟩ := id hK
  obtain ⟨gH, m1, m2⟩ := id hH
  refine ⟨rfl, ?_⟩
  show ab_W _ _ _ (0, [.ref 84, .int y, .retAddr 0, .retAddr 0], [], (0, 0), h)
  refine ab_W.go (mm _) 3 (c' := (4, [.ref 84, .int y, .retAddr 0, .retAddr 0], [.int (nI 63), .int (nI 0), .int y], (0, 0), h)) rfl ?_
  refine ab_W.call (mm _) (k := 64) (av := [.int y, .int (nI 0), .int (nI 63)]) (c' := (7, [.ref 84, .int y, .retAddr 0, .retAddr 0], [], (0, 0), h)) rfl ?_
  refine min_ _ (fun v hv => ?_)
  rcases pk_ix y (n := 64) (by decide) with q | q | ⟨j, j1, rfl⟩
  · rw [show ownF σ.1 y = _ from ci_t (Or.inl q)] at hp
    have ev : v = nI 0 := hv.elim (fun z => absurd q (Int32.not_lt.mpr z.1.1)) (fun z => z.2)
    subst ev
    show ab_W _ _ _ (7, [.ref 84, .int y, .retAddr 0, .retAddr 0], [.int (nI 0)], (0, 0), h)
    refine ab_W.itT (mm _) (p := (nI 0) = 0) (c1 := (10, [.ref 84, .int y, .retAddr 0, .retAddr 0], [], (0, 0), h)) (c2 := (13, [.ref 84, .int y, .retAddr 0, .retAddr 0], [], (0, 0), h)) rfl (nI_0) ?_
    refine ab_W.go (mm _) 1 (c' := (12, [.ref 84, .int y, .retAddr 0, .retAddr 0], [.int (-(nI 2))], (0, 0), h)) rfl ?_
    refine ab_W.retI (mm _) (rt := some .int) (v := -(nI 2)) rfl rfl ?_
    exact hp h hR (fun _ _ => rfl)
  · rw [show ownF σ.1 y = _ from ci_t (Or.inr q)] at hp
    have ev : v = nI 0 := hv.elim (fun z => absurd (Int32.le_trans q z.1.2) (by decide)) (fun z => z.2)
    subst ev
    show ab_W _ _ _ (7, [.ref 84, .int y, .retAddr 0, .retAddr 0], [.int (nI 0)], (0, 0), h)
    refine ab_W.itT (mm _) (p := (nI 0) = 0) (c1 := (10, [.ref 84, .int y, .retAddr 0, .retAddr 0], [], (0, 0), h)) (c2 := (13, [.ref 84, .int y, .retAddr 0, .retAddr 0], [], (0, 0), h)) rfl (nI_0) ?_
    refine ab_W.go (mm _) 1 (c' := (12, [.ref 84, .int y, .retAddr 0, .retAddr 0], [.int (-(nI 2))], (0, 0), h)) rfl ?_
    refine ab_W.retI (mm _) (rt := some .int) (v := -(nI 2)) rfl rfl ?_
    exact hp h hR (fun _ _ => rfl)
  · rw [show ownF σ.1 (nI j) = _ from ci_f (fun z => z.elim (nI_pos (by omega)) (fun z => absurd ((nI_leI (by omega) (by omega)).mp z) (by omega))), nI_clamp (by omega)] at hp
    have ev : v = nI 1 := hv.elim (fun z => z.2) (fun z => absurd ⟨Int32.not_lt.mp (nI_pos (by omega)), (nI_leI (by omega) (by omega)).mpr (show j ≤ 63 by omega)⟩ z.1)
    subst ev
    have loop : ∀ s, s ≤ 12 → ∀ v : Int32, ((∃ t, t < s ∧ ownP σ.1 j t ∧ v = nI t) ∨ ((∀ t, t < s → ¬ ownP σ.1 j t) ∧ v = -(nI 6))) → ab_W (ab_st (mT kSpanStampsModel_owner) mB mF (mR kSpanStampsModel_owner) none) (mCC (d + 2)) post (18, [.ref 84, .int (nI j), .int v, .int (nI s)], [], (0, 0), h) := by
      refine down 12 ?_ ?_
      · intro v hv
        have hp' : okM h post v σ := by
          rcases hv with ⟨t, t1, t2, rfl⟩ | ⟨t1, rfl⟩
          · rw [ci_t ⟨t, t2⟩, own_eq ha j1 t2] at hp
            exact hp
          · rw [ci_f (fun ⟨t, z⟩ => t1 t z.1 z)] at hp
            exact hp
        refine ab_W.go (mm _) 2 (c' := (21, [.ref 84, .int (nI j), .int v, .int (nI 12)], [.int (nI 12), .int (nI 12)], (0, 0), h)) rfl ?_
        refine ab_W.itT (mm _) (p := (nI 12) ≤ (nI 12)) (c1 := (58, [.ref 84, .int (nI j), .int v, .int (nI 12)], [], (0, 0), h)) (c2 := (24, [.ref 84, .int (nI j), .int v, .int (nI 12)], [], (0, 0), h)) rfl ((by decide)) ?_
        refine ab_W.go (mm _) 1 (c' := (59, [.ref 84, .int (nI j), .int v, .int (nI 12)], [.int v], (0, 0), h)) rfl ?_
        refine ab_W.retI (mm _) (rt := some .int) (v := v) rfl rfl ?_
        exact hp' h hR (fun _ _ => rfl)
      · intro s hs ih v hv
        have no : ¬ ownP σ.1 j s → ((∃ t, t < s + 1 ∧ ownP σ.1 j t ∧ v = nI t) ∨ ((∀ t, t < s + 1 → ¬ ownP σ.1 j t) ∧ v = -(nI 6))) := by
          intro n
          rcases hv with ⟨t, t1, t2, t3⟩ | ⟨t1, t2⟩
          · exact Or.inl ⟨t, by omega, t2, t3⟩
          · refine Or.inr ⟨fun t ht => ?_, t2⟩
            by_cases e : t = s
            · rw [e]; exact n
            · exact t1 t (by omega)
        refine ab_W.go (mm _) 2 (c' := (21, [.ref 84, .int (nI j), .int v, .int (nI s)], [.int (nI 12), .int (nI s)], (0, 0), h)) rfl ?_
        refine ab_W.itF (mm _) (p := (nI 12) ≤ (nI s)) (c1 := (58, [.ref 84, .int (nI j), .int v, .int (nI s)], [], (0, 0), h)) (c2 := (24, [.ref 84, .int (nI j), .int v, .int (nI s)], [], (0, 0), h)) rfl (fun z => absurd ((nI_leI (by omega) (by omega)).mp z) (by omega)) ?_
        refine ab_W.go (mm _) 1 (c' := (25, [.ref 84, .int (nI j), .int v, .int (nI s)], [.ref 84], (0, 0), h)) rfl ?_
        refine ab_W.o (mm _) (h0) rfl (c' := (28, [.ref 84, .int (nI j), .int v, .int (nI s)], [.ref 85], (0, 0), h)) rfl ?_
        refine ab_W.go (mm _) 1 (c' := (29, [.ref 84, .int (nI j), .int v, .int (nI s)], [.int (nI s), .ref 85], (0, 0), h)) rfl ?_
        refine ab_W.bald (mm _) (j := s) (b1) rfl (by omega) rfl rfl ?_
        show ab_W _ _ _ (30, [.ref 84, .int (nI j), .int v, .int (nI s)], [.int (gB s)], (0, 0), h)
        refine ab_W.topi (b2 s hs) ?_
        refine ab_W.ite (mm _) (p := (b2i (pr σ.1 s)) = 0) (c1 := (50, [.ref 84, .int (nI j), .int v, .int (nI s)], [], (0, 0), h)) (c2 := (33, [.ref 84, .int (nI j), .int v, .int (nI s)], [], (0, 0), h)) rfl (fun q => ?_) (fun q => ?_)
        · skip
          have q := b2i_0.mp q
          refine ab_W.go (mm _) 3 (c' := (55, [.ref 84, .int (nI j), .int v, .int (nI s + nI 1)], [], (0, 0), h)) rfl ?_
          rw [nI_add s 1]
          refine ab_W.go (mm _) 1 (c' := (18, [.ref 84, .int (nI j), .int v, .int (nI (s + 1))], [], (0, 0), h)) rfl ?_
          exact ih _ (no (fun z => by have y := z.2.1; rw [q] at y; cases y))
        · skip
          have q : pr σ.1 s = true := by
            cases hb : pr σ.1 s with
            | true => rfl
            | false => exact absurd (b2i_0.mpr hb) q
          refine ab_W.go (mm _) 1 (c' := (34, [.ref 84, .int (nI j), .int v, .int (nI s)], [.ref 84], (0, 0), h)) rfl ?_
          refine ab_W.o (mm _) (h0) rfl (c' := (37, [.ref 84, .int (nI j), .int v, .int (nI s)], [.ref 86], (0, 0), h)) rfl ?_
          refine ab_W.go (mm _) 1 (c' := (38, [.ref 84, .int (nI j), .int v, .int (nI s)], [.int (nI s), .ref 86], (0, 0), h)) rfl ?_
          refine ab_W.lald (mm _) (j := s) (n1) rfl (by omega) rfl rfl ?_
          show ab_W _ _ _ (39, [.ref 84, .int (nI j), .int v, .int (nI s)], [.long (gN s)], (0, 0), h)
          refine ab_W.topl (n2 s hs) ?_
          refine ab_W.go (mm _) 1 (c' := (40, [.ref 84, .int (nI j), .int v, .int (nI s)], [.int (nI j), .long (nm σ.1 s)], (0, 0), h)) rfl ?_
          refine ab_W.call (mm _) (k := 66) (av := [.long (nm σ.1 s), .int (nI j)]) (c' := (43, [.ref 84, .int (nI j), .int v, .int (nI s)], [], (0, 0), h)) rfl ?_
          refine mhas _ j1 (fun w hw => ?_)
          rcases hw with ⟨hb, rfl⟩ | ⟨hb, rfl⟩
          · skip
            show ab_W _ _ _ (43, [.ref 84, .int (nI j), .int v, .int (nI s)], [.int (nI 1)], (0, 0), h)
            refine ab_W.itF (mm _) (p := (nI 1) = 0) (c1 := (50, [.ref 84, .int (nI j), .int v, .int (nI s)], [], (0, 0), h)) (c2 := (46, [.ref 84, .int (nI j), .int v, .int (nI s)], [], (0, 0), h)) rfl (nI_ne01) ?_
            refine ab_W.go (mm _) 4 (c' := (55, [.ref 84, .int (nI j), .int (nI s), .int (nI s + nI 1)], [], (0, 0), h)) rfl ?_
            rw [nI_add s 1]
            refine ab_W.go (mm _) 1 (c' := (18, [.ref 84, .int (nI j), .int (nI s), .int (nI (s + 1))], [], (0, 0), h)) rfl ?_
            exact ih _ (Or.inl ⟨s, by omega, ⟨hs, q, hb⟩, rfl⟩)
          · skip
            show ab_W _ _ _ (43, [.ref 84, .int (nI j), .int v, .int (nI s)], [.int (nI 0)], (0, 0), h)
            refine ab_W.itT (mm _) (p := (nI 0) = 0) (c1 := (50, [.ref 84, .int (nI j), .int v, .int (nI s)], [], (0, 0), h)) (c2 := (46, [.ref 84, .int (nI j), .int v, .int (nI s)], [], (0, 0), h)) rfl (nI_0) ?_
            refine ab_W.go (mm _) 3 (c' := (55, [.ref 84, .int (nI j), .int v, .int (nI s + nI 1)], [], (0, 0), h)) rfl ?_
            rw [nI_add s 1]
            refine ab_W.go (mm _) 1 (c' := (18, [.ref 84, .int (nI j), .int v, .int (nI (s + 1))], [], (0, 0), h)) rfl ?_
            exact ih _ (no (fun z => by have y := z.2.2; rw [hb] at y; cases y))
    show ab_W _ _ _ (7, [.ref 84, .int (nI j), .retAddr 0, .retAddr 0], [.int (nI 1)], (0, 0), h)
    refine ab_W.itF (mm _) (p := (nI 1) = 0) (c1 := (10, [.ref 84, .int (nI j), .retAddr 0, .retAddr 0], [], (0, 0), h)) (c2 := (13, [.ref 84, .int (nI j), .retAddr 0, .retAddr 0], [], (0, 0), h)) rfl (nI_ne01) ?_
    refine ab_W.go (mm _) 4 (c' := (18, [.ref 84, .int (nI j), .int (-(nI 6)), .int (nI 0)], [], (0, 0), h)) rfl ?_
    exact loop 0 (Nat.zero_le _) _ (Or.inr ⟨fun t ht => absurd ht (Nat.not_lt_zero _), rfl⟩)
