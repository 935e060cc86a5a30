/-! THE CALLS OF THE REFERENCE -/
def okM (h : ab_H) (post : ab_P) (a : Int32) (σ' : Sg) : Prop := ∀ h', relM h' σ' → (∀ i, i < 84 → h'[i]? = h[i]?) → post (some (.int a)) h'
theorem pr_setS (c : Ci) (t : Nat) (p : Bool) (N K : Int64) (f : Nat → Int32) : pr (setS c t p N K f) = va_up (pr c) t p := rfl
theorem nm_setS (c : Ci) (t : Nat) (p : Bool) (N K : Int64) (f : Nat → Int32) : nm (setS c t p N K f) = va_up (nm c) t N := rfl
theorem kn_setS (c : Ci) (t : Nat) (p : Bool) (N K : Int64) (f : Nat → Int32) : kn (setS c t p N K f) = va_up (kn c) t K := rfl
theorem ht_setS (c : Ci) (t : Nat) (p : Bool) (N K : Int64) (f : Nat → Int32) : ht (setS c t p N K f) = va_up (ht c) t f := rfl
theorem arrB.congr {h : ab_H} {a n : Nat} {p q : Nat → Bool} (x : arrB h a n p) (e : ∀ s, s < n → p s = q s) : arrB h a n q := by
  obtain ⟨g, g1, g2⟩ := x
  exact ⟨g, g1, fun s hs => (g2 s hs).trans (congrArg b2i (e s hs))⟩
theorem arrL.congr {h : ab_H} {a n : Nat} {p q : Nat → Int64} (x : arrL h a n p) (e : ∀ s, s < n → p s = q s) : arrL h a n q := by
  obtain ⟨g, g1, g2⟩ := x
  exact ⟨g, g1, fun s hs => (g2 s hs).trans (e s hs)⟩
theorem arrH.congr {h : ab_H} {a n : Nat} {p q : Nat → Nat → Int32} (x : arrH h a n p) (e : ∀ s, s < n → p s = q s) : arrH h a n q := by
  obtain ⟨g, g1, g2⟩ := x
  exact ⟨g, g1, fun s c hs hc => (g2 s c hs hc).trans (by rw [e s hs])⟩
theorem relM.cur2 {h h' : ab_H} {σ : Sg} {c' : Ci} (hR : relM h σ) (e : hn c' = hn σ.1) (h1 : arrB h' 85 12 (pr c')) (h2 : arrL h' 86 12 (nm c')) (h3 : arrL h' 87 12 (kn c')) (h4 : arrH h' 88 12 (ht c')) (hk : ∀ i, i < 85 ∨ 88 < i → h'[i]? = h[i]?) : relM h' (c', σ.2) := by
  obtain ⟨⟨sz, op, h0⟩, -, -, -, -, ⟨s1, s2, s3, s4, s5⟩, -⟩ := id hR
  exact hR.cur ⟨sz, op, by rw [e]; exact (hk 84 (by omega)).trans h0⟩ h1 h2 h3 h4 ⟨s1.kept (hk _ (by omega)), s2.kept (hk _ (by omega)), s3.kept (hk _ (by omega)), s4.kept (hk _ (by omega)), s5.kept (hk _ (by omega))⟩ (fun i hi => hk i (by omega))
theorem sp_m_fork (d : Nat) {h : ab_H} {σ : Sg} {x : Int32} (hR : relM h σ) {post : ab_P} (hp : okM h post ((forkO σ.1 (stN σ.1 x)).1) ((forkO σ.1 (stN σ.1 x)).2, σ.2)) : mCC (d + 8) kSpanStampsModel_fork [.ref 84, .int x] h post := by
  obtain ⟨⟨sz, op, h0⟩, hB, hN, hK, hH, -⟩ := id hR
  obtain ⟨gB, b1, b2⟩ := id hB
  obtain ⟨gN, n1, n2⟩ := id hN
  obtain ⟨gK, k1, k2⟩ := id hK
  obtain ⟨gH, m1, m2⟩ := id hH
  rcases stamp_or σ.1 x with hx | ⟨s, hs, rfl, hx⟩
  · rw [stN_no hx] at hp
    refine ⟨rfl, ?_⟩
    show ab_W _ _ _ (0, [.ref 84, .int x, .retAddr 0], [], (0, 0), h)
    refine ab_W.go (mm _) 2 (c' := (2, [.ref 84, .int x, .retAddr 0], [.int x, .ref 84], (0, 0), h)) rfl ?_
    refine ab_W.callV (mm _) (h0) rfl (k := 65) (av := [.ref 84, .int x]) (c' := (5, [.ref 84, .int x, .retAddr 0], [], (0, 0), h)) rfl ?_
    refine sp_isN _ h0 hB hx ?_
    show ab_W _ _ _ (5, [.ref 84, .int x, .retAddr 0], [.int (nI 0)], (0, 0), h)
    refine ab_W.itT (mm _) (p := (nI 0) = 0) (c1 := (8, [.ref 84, .int x, .retAddr 0], [], (0, 0), h)) (c2 := (10, [.ref 84, .int x, .retAddr 0], [], (0, 0), h)) rfl (nI_0) ?_
    refine ab_W.go (mm _) 1 (c' := (9, [.ref 84, .int x, .retAddr 0], [.int (-(nI 1))], (0, 0), h)) rfl ?_
    refine ab_W.retI (mm _) (rt := some .int) (v := -(nI 1)) rfl rfl ?_
    exact hp h hR (fun _ _ => rfl)
  · rw [stN_yes hs hx] at hp
    refine ⟨rfl, ?_⟩
    show ab_W _ _ _ (0, [.ref 84, .int (nI s), .retAddr 0], [], (0, 0), h)
    refine ab_W.go (mm _) 2 (c' := (2, [.ref 84, .int (nI s), .retAddr 0], [.int (nI s), .ref 84], (0, 0), h)) rfl ?_
    refine ab_W.callV (mm _) (h0) rfl (k := 65) (av := [.ref 84, .int (nI s)]) (c' := (5, [.ref 84, .int (nI s), .retAddr 0], [], (0, 0), h)) rfl ?_
    refine sp_isY _ h0 hB hs hx ?_
    show ab_W _ _ _ (5, [.ref 84, .int (nI s), .retAddr 0], [.int (nI 1)], (0, 0), h)
    refine ab_W.itF (mm _) (p := (nI 1) = 0) (c1 := (8, [.ref 84, .int (nI s), .retAddr 0], [], (0, 0), h)) (c2 := (10, [.ref 84, .int (nI s), .retAddr 0], [], (0, 0), h)) rfl (nI_ne01) ?_
    refine ab_W.go (mm _) 1 (c' := (11, [.ref 84, .int (nI s), .retAddr 0], [.ref 84], (0, 0), h)) rfl ?_
    refine ab_W.o (mm _) (h0) rfl (c' := (14, [.ref 84, .int (nI s), .retAddr 0], [.ref 86], (0, 0), h)) rfl ?_
    refine ab_W.go (mm _) 1 (c' := (15, [.ref 84, .int (nI s), .retAddr 0], [.int (nI s), .ref 86], (0, 0), h)) rfl ?_
    refine ab_W.lald (mm _) (j := s) (n1) rfl (by omega) rfl rfl ?_
    show ab_W _ _ _ (16, [.ref 84, .int (nI s), .retAddr 0], [.long (gN s)], (0, 0), h)
    refine ab_W.topl (n2 s hs) ?_
    refine ab_W.go (mm _) 2 (c' := (18, [.ref 84, .int (nI s), .retAddr 0], [.int (lg_cmp (nm σ.1 s) (lN 0))], (0, 0), h)) rfl ?_
    refine ab_W.ite (mm _) (p := (lg_cmp (nm σ.1 s) (lN 0)) = 0) (c1 := (21, [.ref 84, .int (nI s), .retAddr 0], [], (0, 0), h)) (c2 := (24, [.ref 84, .int (nI s), .retAddr 0], [], (0, 0), h)) rfl (fun q => ?_) (fun q => ?_)
    · skip
      have q := (lg_cmp0 _ _).mp q
      rw [show forkO σ.1 (some s) = (-(nI 3), σ.1) from ci_t q] at hp
      refine ab_W.go (mm _) 1 (c' := (23, [.ref 84, .int (nI s), .retAddr 0], [.int (-(nI 3))], (0, 0), h)) rfl ?_
      refine ab_W.retI (mm _) (rt := some .int) (v := -(nI 3)) rfl rfl ?_
      exact hp h hR (fun _ _ => rfl)
    · skip
      have q : ¬ nm σ.1 s = lN 0 := fun z => q ((lg_cmp0 _ _).mpr z)
      refine ab_W.go (mm _) 1 (c' := (25, [.ref 84, .int (nI s), .retAddr 0], [.ref 84], (0, 0), h)) rfl ?_
      refine ab_W.o (mm _) (h0) rfl (c' := (28, [.ref 84, .int (nI s), .retAddr 0], [.ref 86], (0, 0), h)) rfl ?_
      refine ab_W.go (mm _) 1 (c' := (29, [.ref 84, .int (nI s), .retAddr 0], [.int (nI s), .ref 86], (0, 0), h)) rfl ?_
      refine ab_W.lald (mm _) (j := s) (n1) rfl (by omega) rfl rfl ?_
      show ab_W _ _ _ (30, [.ref 84, .int (nI s), .retAddr 0], [.long (gN s)], (0, 0), h)
      refine ab_W.topl (n2 s hs) ?_
      refine ab_W.call (mm _) (k := 67) (av := [.long (nm σ.1 s)]) (c' := (33, [.ref 84, .int (nI s), .retAddr 0], [], (0, 0), h)) rfl ?_
      refine mbits _ ?_
      show ab_W _ _ _ (33, [.ref 84, .int (nI s), .retAddr 0], [.int (nI (cnt (nm σ.1 s) 64))], (0, 0), h)
      refine ab_W.go (mm _) 1 (c' := (34, [.ref 84, .int (nI s), .retAddr 0], [.int (nI 1), .int (nI (cnt (nm σ.1 s) 64))], (0, 0), h)) rfl ?_
      have l64 : cnt (nm σ.1 s) 64 ≤ 64 := cnt_le _ 64
      refine ab_W.ite (mm _) (p := (nI (cnt (nm σ.1 s) 64)) = (nI 1)) (c1 := (37, [.ref 84, .int (nI s), .retAddr 0], [], (0, 0), h)) (c2 := (40, [.ref 84, .int (nI s), .retAddr 0], [], (0, 0), h)) rfl (fun q2 => ?_) (fun q2 => ?_)
      · skip
        have q2 := (nI_eq (by omega) (by omega)).mp q2
        rw [show forkO σ.1 (some s) = (-(nI 5), σ.1) from (ci_f q).trans (ci_t q2)] at hp
        refine ab_W.go (mm _) 1 (c' := (39, [.ref 84, .int (nI s), .retAddr 0], [.int (-(nI 5))], (0, 0), h)) rfl ?_
        refine ab_W.retI (mm _) (rt := some .int) (v := -(nI 5)) rfl rfl ?_
        exact hp h hR (fun _ _ => rfl)
      · skip
        have q2 : ¬ cnt (nm σ.1 s) 64 = 1 := fun z => q2 (by rw [z])
        refine ab_W.go (mm _) 2 (c' := (42, [.ref 84, .int (nI s), .retAddr 0], [.int (nI s), .ref 84], (0, 0), h)) rfl ?_
        rcases free_or σ.1 with ⟨t, hf⟩ | hf
        · rw [show forkO σ.1 (some s) = _ from (ci_f q).trans (ci_f q2), frN_yes hf] at hp
          have hne : ¬ s = t := fun z => by rw [z, hf.2.1] at hx; cases hx
          have hne2 : ¬ t = s := fun z => hne z.symm
          refine ab_W.callV (mm _) (h0) rfl (k := 78) (av := [.ref 84, .int (nI s)]) (c' := (45, [.ref 84, .int (nI s), .retAddr 0], [], (0, 0), h)) rfl ?_
          refine sp_madd _ h0 hB hN hK hH hs hx hf (fun h1 B1 N1 K1 H1 q1 => ?_)
          show ab_W _ _ _ (45, [.ref 84, .int (nI s), .retAddr 0], [.int (nI t)], (0, 0), h1)
          have h01 := (q1 84 (by omega)).trans h0
          obtain ⟨gn, c1, c2⟩ := id N1
          have lt := hf.1
          refine ab_W.go (mm _) 2 (c' := (47, [.ref 84, .int (nI s), .int (nI t)], [.int (nI t)], (0, 0), h1)) rfl ?_
          refine ab_W.itT (mm _) (p := 0 ≤ (nI t)) (c1 := (53, [.ref 84, .int (nI s), .int (nI t)], [], (0, 0), h1)) (c2 := (50, [.ref 84, .int (nI s), .int (nI t)], [], (0, 0), h1)) rfl (Int32.not_lt.mp (nI_pos (by omega))) ?_
          refine ab_W.go (mm _) 2 (c' := (55, [.ref 84, .int (nI s), .int (nI t)], [.ref 84, .ref 84], (0, 0), h1)) rfl ?_
          refine ab_W.o (mm _) (h01) rfl (c' := (58, [.ref 84, .int (nI s), .int (nI t)], [.ref 86, .ref 84], (0, 0), h1)) rfl ?_
          refine ab_W.go (mm _) 1 (c' := (59, [.ref 84, .int (nI s), .int (nI t)], [.int (nI s), .ref 86, .ref 84], (0, 0), h1)) rfl ?_
          refine ab_W.lald (mm _) (j := s) (c1) rfl (by omega) rfl rfl ?_
          show ab_W _ _ _ (60, [.ref 84, .int (nI s), .int (nI t)], [.long (gn s), .ref 84], (0, 0), h1)
          refine ab_W.topl ((c2 s hs).trans (va_up_ne _ _ hne)) ?_
          refine ab_W.go (mm _) 2 (c' := (62, [.ref 84, .int (nI s), .int (nI t)], [.int (nI t), .int (nI s), .long (nm σ.1 s), .ref 84], (0, 0), h1)) rfl ?_
          refine ab_W.callV (mm _) (h01) rfl (k := 77) (av := [.ref 84, .long (nm σ.1 s), .int (nI s), .int (nI t)]) (c' := (65, [.ref 84, .int (nI s), .int (nI t)], [], (0, 0), h1)) rfl ?_
          refine sp_mpart _ h01 N1 hs hf.1 q q2 (fun h2 N2 q3 => ?_)
          show ab_W _ _ _ (65, [.ref 84, .int (nI s), .int (nI t)], [], (0, 0), h2)
          refine ab_W.go (mm _) 1 (c' := (66, [.ref 84, .int (nI s), .int (nI t)], [.int (nI t)], (0, 0), h2)) rfl ?_
          refine ab_W.retI (mm _) (rt := some .int) (v := nI t) rfl rfl ?_
          exact hp _ (hR.cur2 rfl ((B1.kept (q3 85 (by decide))).congr (fun v hv => by by_cases e1 : v = s <;> by_cases e2 : v = t <;> simp [pr_setS, nm_setS, kn_setS, ht_setS, va_up, e1, e2, hx])) (N2.congr (fun v hv => by by_cases e1 : v = s <;> by_cases e2 : v = t <;> simp [pr_setS, nm_setS, kn_setS, ht_setS, va_up, e1, e2, hx, hne, hne2])) ((K1.kept (q3 87 (by decide))).congr (fun v hv => by by_cases e1 : v = s <;> by_cases e2 : v = t <;> simp [pr_setS, nm_setS, kn_setS, ht_setS, va_up, e1, e2, hx])) ((H1.kept (q3 88 (by decide))).congr (fun v hv => by by_cases e1 : v = s <;> by_cases e2 : v = t <;> simp [pr_setS, nm_setS, kn_setS, ht_setS, va_up, e1, e2, hx])) (fun i hi => (q3 i (by omega)).trans (q1 i hi))) (fun i hi => (q3 i (by omega)).trans (q1 i (by omega)))
        · rw [show forkO σ.1 (some s) = _ from (ci_f q).trans (ci_f q2), frN_no hf] at hp
          refine ab_W.callV (mm _) (h0) rfl (k := 78) (av := [.ref 84, .int (nI s)]) (c' := (45, [.ref 84, .int (nI s), .retAddr 0], [], (0, 0), h)) rfl ?_
          refine sp_maddN _ h0 hB hf ?_
          show ab_W _ _ _ (45, [.ref 84, .int (nI s), .retAddr 0], [.int (-(nI 6))], (0, 0), h)
          refine ab_W.go (mm _) 2 (c' := (47, [.ref 84, .int (nI s), .int (-(nI 6))], [.int (-(nI 6))], (0, 0), h)) rfl ?_
          refine ab_W.itF (mm _) (p := 0 ≤ (-(nI 6))) (c1 := (53, [.ref 84, .int (nI s), .int (-(nI 6))], [], (0, 0), h)) (c2 := (50, [.ref 84, .int (nI s), .int (-(nI 6))], [], (0, 0), h)) rfl ((by decide)) ?_
          refine ab_W.go (mm _) 1 (c' := (52, [.ref 84, .int (nI s), .int (-(nI 6))], [.int (-(nI 4))], (0, 0), h)) rfl ?_
          refine ab_W.retI (mm _) (rt := some .int) (v := -(nI 4)) rfl rfl ?_
          exact hp h hR (fun _ _ => rfl)
theorem sp_m_peek (d : Nat) {h : ab_H} {σ : Sg} {x : Int32} (hR : relM h σ) {post : ab_P} (hp : okM h post ((peekO σ.1 (stN σ.1 x)).1) ((peekO σ.1 (stN σ.1 x)).2, σ.2)) : mCC (d + 5) kSpanStampsModel_peek [.ref 84, .int x] h post := by
  obtain ⟨⟨sz, op, h0⟩, hB, hN, hK, hH, -⟩ := id hR
  obtain ⟨gB, b1, b2⟩ := id hB
  obtain ⟨gN, n1, n2⟩ := id hN
  obtain ⟨gK, k1, k2⟩ := id hK
  obtain ⟨gH, m1, m2⟩ := id hH
  rcases stamp_or σ.1 x with hx | ⟨s, hs, rfl, hx⟩
  · rw [stN_no hx] at hp
    refine ⟨rfl, ?_⟩
    show ab_W _ _ _ (0, [.ref 84, .int x, .retAddr 0], [], (0, 0), h)
    refine ab_W.go (mm _) 2 (c' := (2, [.ref 84, .int x, .retAddr 0], [.int x, .ref 84], (0, 0), h)) rfl ?_
    refine ab_W.callV (mm _) (h0) rfl (k := 65) (av := [.ref 84, .int x]) (c' := (5, [.ref 84, .int x, .retAddr 0], [], (0, 0), h)) rfl ?_
    refine sp_isN _ h0 hB hx ?_
    show ab_W _ _ _ (5, [.ref 84, .int x, .retAddr 0], [.int (nI 0)], (0, 0), h)
    refine ab_W.itT (mm _) (p := (nI 0) = 0) (c1 := (8, [.ref 84, .int x, .retAddr 0], [], (0, 0), h)) (c2 := (10, [.ref 84, .int x, .retAddr 0], [], (0, 0), h)) rfl (nI_0) ?_
    refine ab_W.go (mm _) 1 (c' := (9, [.ref 84, .int x, .retAddr 0], [.int (-(nI 1))], (0, 0), h)) rfl ?_
    refine ab_W.retI (mm _) (rt := some .int) (v := -(nI 1)) rfl rfl ?_
    exact hp h hR (fun _ _ => rfl)
  · rw [stN_yes hs hx] at hp
    refine ⟨rfl, ?_⟩
    show ab_W _ _ _ (0, [.ref 84, .int (nI s), .retAddr 0], [], (0, 0), h)
    refine ab_W.go (mm _) 2 (c' := (2, [.ref 84, .int (nI s), .retAddr 0], [.int (nI s), .ref 84], (0, 0), h)) rfl ?_
    refine ab_W.callV (mm _) (h0) rfl (k := 65) (av := [.ref 84, .int (nI s)]) (c' := (5, [.ref 84, .int (nI s), .retAddr 0], [], (0, 0), h)) rfl ?_
    refine sp_isY _ h0 hB hs hx ?_
    show ab_W _ _ _ (5, [.ref 84, .int (nI s), .retAddr 0], [.int (nI 1)], (0, 0), h)
    refine ab_W.itF (mm _) (p := (nI 1) = 0) (c1 := (8, [.ref 84, .int (nI s), .retAddr 0], [], (0, 0), h)) (c2 := (10, [.ref 84, .int (nI s), .retAddr 0], [], (0, 0), h)) rfl (nI_ne01) ?_
    refine ab_W.go (mm _) 2 (c' := (12, [.ref 84, .int (nI s), .retAddr 0], [.int (nI s), .ref 84], (0, 0), h)) rfl ?_
    rcases free_or σ.1 with ⟨t, hf⟩ | hf
    · simp only [peekO, frN_yes hf] at hp
      have lt := hf.1
      refine ab_W.callV (mm _) (h0) rfl (k := 78) (av := [.ref 84, .int (nI s)]) (c' := (15, [.ref 84, .int (nI s), .retAddr 0], [], (0, 0), h)) rfl ?_
      refine sp_madd _ h0 hB hN hK hH hs hx hf (fun h1 B1 N1 K1 H1 q1 => ?_)
      show ab_W _ _ _ (15, [.ref 84, .int (nI s), .retAddr 0], [.int (nI t)], (0, 0), h1)
      refine ab_W.go (mm _) 2 (c' := (17, [.ref 84, .int (nI s), .int (nI t)], [.int (nI t)], (0, 0), h1)) rfl ?_
      refine ab_W.itT (mm _) (p := 0 ≤ (nI t)) (c1 := (25, [.ref 84, .int (nI s), .int (nI t)], [], (0, 0), h1)) (c2 := (20, [.ref 84, .int (nI s), .int (nI t)], [], (0, 0), h1)) rfl (Int32.not_lt.mp (nI_pos (by omega))) ?_
      refine ab_W.go (mm _) 1 (c' := (26, [.ref 84, .int (nI s), .int (nI t)], [.int (nI t)], (0, 0), h1)) rfl ?_
      refine ab_W.retI (mm _) (rt := some .int) (v := nI t) rfl rfl ?_
      exact hp _ (hR.cur2 rfl B1 N1 K1 H1 q1) (fun i hi => q1 i (by omega))
    · simp only [peekO, frN_no hf] at hp
      refine ab_W.callV (mm _) (h0) rfl (k := 78) (av := [.ref 84, .int (nI s)]) (c' := (15, [.ref 84, .int (nI s), .retAddr 0], [], (0, 0), h)) rfl ?_
      refine sp_maddN _ h0 hB hf ?_
      show ab_W _ _ _ (15, [.ref 84, .int (nI s), .retAddr 0], [.int (-(nI 6))], (0, 0), h)
      refine ab_W.go (mm _) 2 (c' := (17, [.ref 84, .int (nI s), .int (-(nI 6))], [.int (-(nI 6))], (0, 0), h)) rfl ?_
      refine ab_W.itF (mm _) (p := 0 ≤ (-(nI 6))) (c1 := (25, [.ref 84, .int (nI s), .int (-(nI 6))], [], (0, 0), h)) (c2 := (20, [.ref 84, .int (nI s), .int (-(nI 6))], [], (0, 0), h)) rfl ((by decide)) ?_
      refine ab_W.go (mm _) 2 (c' := (26, [.ref 84, .int (nI s), .int (-(nI 6))], [.int (-(nI 4))], (0, 0), h)) rfl ?_
      refine ab_W.retI (mm _) (rt := some .int) (v := -(nI 4)) rfl rfl ?_
      exact hp h hR (fun _ _ => rfl)
theorem sp_m_drop (d : Nat) {h : ab_H} {σ : Sg} {x : Int32} (hR : relM h σ) {post : ab_P} (hp : okM h post ((dropO σ.1 (stN σ.1 x)).1) ((dropO σ.1 (stN σ.1 x)).2, σ.2)) : mCC (d + 5) kSpanStampsModel_drop [.ref 84, .int x] h post := by
  obtain ⟨⟨sz, op, h0⟩, hB, hN, hK, hH, -⟩ := id hR
  obtain ⟨gB, b1, b2⟩ := id hB
  obtain ⟨gN, n1, n2⟩ := id hN
  obtain ⟨gK, k1, k2⟩ := id hK
  obtain ⟨gH, m1, m2⟩ := id hH
  rcases stamp_or σ.1 x with hx | ⟨s, hs, rfl, hx⟩
  · rw [stN_no hx] at hp
    refine ⟨rfl, ?_⟩
    show ab_W _ _ _ (0, [.ref 84, .int x], [], (0, 0), h)
    refine ab_W.go (mm _) 2 (c' := (2, [.ref 84, .int x], [.int x, .ref 84], (0, 0), h)) rfl ?_
    refine ab_W.callV (mm _) (h0) rfl (k := 65) (av := [.ref 84, .int x]) (c' := (5, [.ref 84, .int x], [], (0, 0), h)) rfl ?_
    refine sp_isN _ h0 hB hx ?_
    show ab_W _ _ _ (5, [.ref 84, .int x], [.int (nI 0)], (0, 0), h)
    refine ab_W.itT (mm _) (p := (nI 0) = 0) (c1 := (8, [.ref 84, .int x], [], (0, 0), h)) (c2 := (10, [.ref 84, .int x], [], (0, 0), h)) rfl (nI_0) ?_
    refine ab_W.go (mm _) 1 (c' := (9, [.ref 84, .int x], [.int (-(nI 1))], (0, 0), h)) rfl ?_
    refine ab_W.retI (mm _) (rt := some .int) (v := -(nI 1)) rfl rfl ?_
    exact hp h hR (fun _ _ => rfl)
  · rw [stN_yes hs hx] at hp
    refine ⟨rfl, ?_⟩
    show ab_W _ _ _ (0, [.ref 84, .int (nI s)], [], (0, 0), h)
    refine ab_W.go (mm _) 2 (c' := (2, [.ref 84, .int (nI s)], [.int (nI s), .ref 84], (0, 0), h)) rfl ?_
    refine ab_W.callV (mm _) (h0) rfl (k := 65) (av := [.ref 84, .int (nI s)]) (c' := (5, [.ref 84, .int (nI s)], [], (0, 0), h)) rfl ?_
    refine sp_isY _ h0 hB hs hx ?_
    show ab_W _ _ _ (5, [.ref 84, .int (nI s)], [.int (nI 1)], (0, 0), h)
    refine ab_W.itF (mm _) (p := (nI 1) = 0) (c1 := (8, [.ref 84, .int (nI s)], [], (0, 0), h)) (c2 := (10, [.ref 84, .int (nI s)], [], (0, 0), h)) rfl (nI_ne01) ?_
    refine ab_W.go (mm _) 1 (c' := (11, [.ref 84, .int (nI s)], [.ref 84], (0, 0), h)) rfl ?_
    refine ab_W.o (mm _) (h0) rfl (c' := (14, [.ref 84, .int (nI s)], [.ref 86], (0, 0), h)) rfl ?_
    refine ab_W.go (mm _) 1 (c' := (15, [.ref 84, .int (nI s)], [.int (nI s), .ref 86], (0, 0), h)) rfl ?_
    refine ab_W.lald (mm _) (j := s) (n1) rfl (by omega) rfl rfl ?_
    show ab_W _ _ _ (16, [.ref 84, .int (nI s)], [.long (gN s)], (0, 0), h)
    refine ab_W.topl (n2 s hs) ?_
    refine ab_W.go (mm _) 2 (c' := (18, [.ref 84, .int (nI s)], [.int (lg_cmp (nm σ.1 s) (lN 0))], (0, 0), h)) rfl ?_
    refine ab_W.ite (mm _) (p := (lg_cmp (nm σ.1 s) (lN 0)) = 0) (c1 := (24, [.ref 84, .int (nI s)], [], (0, 0), h)) (c2 := (21, [.ref 84, .int (nI s)], [], (0, 0), h)) rfl (fun q => ?_) (fun q => ?_)
    · skip
      have q := (lg_cmp0 _ _).mp q
      rw [show dropO σ.1 (some s) = _ from ci_t q] at hp
      refine ab_W.go (mm _) 1 (c' := (25, [.ref 84, .int (nI s)], [.ref 84], (0, 0), h)) rfl ?_
      refine ab_W.o (mm _) (h0) rfl (c' := (28, [.ref 84, .int (nI s)], [.ref 85], (0, 0), h)) rfl ?_
      refine ab_W.go (mm _) 2 (c' := (30, [.ref 84, .int (nI s)], [.int (nI 0), .int (nI s), .ref 85], (0, 0), h)) rfl ?_
      refine ab_W.bast (mm _) (j := s) (b1) rfl (by omega) rfl (by decide) rfl ?_
      show ab_W _ _ _ (31, [.ref 84, .int (nI s)], [], (0, 0), h.set 85 (.inl (2, 12, .inl (upd gB s (nI 0)))))
      obtain ⟨h1, e1⟩ : ∃ h1, h1 = h.set 85 (.inl (2, 12, .inl (upd gB s (nI 0)))) := ⟨_, rfl⟩
      have q1 : ∀ i, i ≠ 85 → h1[i]? = h[i]? := fun i hi => by rw [e1]; exact set_ne (fun z => hi z.symm)
      have B1 : arrB h1 85 12 (va_up (pr σ.1) s false) := by rw [e1]; exact arrB.put (v := false) b1 b2
      refine ab_W.hp (e1.symm) ?_
      show ab_W _ _ _ (31, [.ref 84, .int (nI s)], [], (0, 0), h1)
      refine ab_W.go (mm _) 1 (c' := (32, [.ref 84, .int (nI s)], [.ref 84], (0, 0), h1)) rfl ?_
      have h01 := (q1 84 (by decide)).trans h0
      refine ab_W.callV (mm _) (h01) rfl (k := 68) (av := [.ref 84]) (c' := (35, [.ref 84, .int (nI s)], [], (0, 0), h1)) rfl ?_
      refine sp_mmany _ h01 B1 ?_
      show ab_W _ _ _ (35, [.ref 84, .int (nI s)], [.int (nI (cb (va_up (pr σ.1) s false) 12))], (0, 0), h1)
      refine ab_W.retI (mm _) (rt := some .int) (v := nI (cb (va_up (pr σ.1) s false) 12)) rfl rfl ?_
      exact hp _ (hR.cur2 rfl B1 ((hN.kept (q1 86 (by decide))).congr (fun v hv => by by_cases e1 : v = s <;> simp [dropC, pr_setS, nm_setS, kn_setS, ht_setS, va_up, e1])) ((hK.kept (q1 87 (by decide))).congr (fun v hv => by by_cases e1 : v = s <;> simp [dropC, pr_setS, nm_setS, kn_setS, ht_setS, va_up, e1])) ((hH.kept (q1 88 (by decide))).congr (fun v hv => by by_cases e1 : v = s <;> simp [dropC, pr_setS, nm_setS, kn_setS, ht_setS, va_up, e1])) (fun i hi => q1 i (by omega))) (fun i hi => q1 i (by omega))
    · skip
      have q : ¬ nm σ.1 s = lN 0 := fun z => q ((lg_cmp0 _ _).mpr z)
      rw [show dropO σ.1 (some s) = _ from ci_f q] at hp
      refine ab_W.go (mm _) 1 (c' := (23, [.ref 84, .int (nI s)], [.int (-(nI 5))], (0, 0), h)) rfl ?_
      refine ab_W.retI (mm _) (rt := some .int) (v := -(nI 5)) rfl rfl ?_
      exact hp h hR (fun _ _ => rfl)
theorem sp_m_order (d : Nat) {h : ab_H} {σ : Sg} {x : Int32} {y : Int32} (hR : relM h σ) {post : ab_P} (hp : okM h post (orderO σ.1 (stN σ.1 x) (stN σ.1 y)) (σ)) : mCC (d + 4) kSpanStampsModel_order [.ref 84, .int x, .int y] h post := by
  obtain ⟨⟨sz, op, h0⟩, hB, hN, hK, hH, -⟩ := id hR
  obtain ⟨gB, b1, b2⟩ := id hB
  obtain ⟨gN, n1, n2⟩ := id hN
  obtain ⟨gK, k1, k2⟩ := id hK
  obtain ⟨gH, m1, m2⟩ := id hH
  rcases stamp_or σ.1 x with hx | ⟨s, hs, rfl, hx⟩
  · rw [stN_no hx] at hp
    refine ⟨rfl, ?_⟩
    show ab_W _ _ _ (0, [.ref 84, .int x, .int y], [], (0, 0), h)
    refine ab_W.go (mm _) 2 (c' := (2, [.ref 84, .int x, .int y], [.int x, .ref 84], (0, 0), h)) rfl ?_
    refine ab_W.callV (mm _) (h0) rfl (k := 65) (av := [.ref 84, .int x]) (c' := (5, [.ref 84, .int x, .int y], [], (0, 0), h)) rfl ?_
    refine sp_isN _ h0 hB hx ?_
    show ab_W _ _ _ (5, [.ref 84, .int x, .int y], [.int (nI 0)], (0, 0), h)
    refine ab_W.itT (mm _) (p := (nI 0) = 0) (c1 := (25, [.ref 84, .int x, .int y], [], (0, 0), h)) (c2 := (8, [.ref 84, .int x, .int y], [], (0, 0), h)) rfl (nI_0) ?_
    refine ab_W.go (mm _) 1 (c' := (26, [.ref 84, .int x, .int y], [.int (-(nI 1))], (0, 0), h)) rfl ?_
    refine ab_W.retI (mm _) (rt := some .int) (v := -(nI 1)) rfl rfl ?_
    exact hp h hR (fun _ _ => rfl)
  · rw [stN_yes hs hx] at hp
    rcases stamp_or σ.1 y with hy | ⟨t, ht', rfl, hy⟩
    · rw [stN_no hy] at hp
      refine ⟨rfl, ?_⟩
      show ab_W _ _ _ (0, [.ref 84, .int (nI s), .int y], [], (0, 0), h)
      refine ab_W.go (mm _) 2 (c' := (2, [.ref 84, .int (nI s), .int y], [.int (nI s), .ref 84], (0, 0), h)) rfl ?_
      refine ab_W.callV (mm _) (h0) rfl (k := 65) (av := [.ref 84, .int (nI s)]) (c' := (5, [.ref 84, .int (nI s), .int y], [], (0, 0), h)) rfl ?_
      refine sp_isY _ h0 hB hs hx ?_
      show ab_W _ _ _ (5, [.ref 84, .int (nI s), .int y], [.int (nI 1)], (0, 0), h)
      refine ab_W.itF (mm _) (p := (nI 1) = 0) (c1 := (25, [.ref 84, .int (nI s), .int y], [], (0, 0), h)) (c2 := (8, [.ref 84, .int (nI s), .int y], [], (0, 0), h)) rfl (nI_ne01) ?_
      refine ab_W.go (mm _) 2 (c' := (10, [.ref 84, .int (nI s), .int y], [.int y, .ref 84], (0, 0), h)) rfl ?_
      refine ab_W.callV (mm _) (h0) rfl (k := 65) (av := [.ref 84, .int y]) (c' := (13, [.ref 84, .int (nI s), .int y], [], (0, 0), h)) rfl ?_
      refine sp_isN _ h0 hB hy ?_
      show ab_W _ _ _ (13, [.ref 84, .int (nI s), .int y], [.int (nI 0)], (0, 0), h)
      refine ab_W.itT (mm _) (p := (nI 0) = 0) (c1 := (25, [.ref 84, .int (nI s), .int y], [], (0, 0), h)) (c2 := (16, [.ref 84, .int (nI s), .int y], [], (0, 0), h)) rfl (nI_0) ?_
      refine ab_W.go (mm _) 1 (c' := (26, [.ref 84, .int (nI s), .int y], [.int (-(nI 1))], (0, 0), h)) rfl ?_
      refine ab_W.retI (mm _) (rt := some .int) (v := -(nI 1)) rfl rfl ?_
      exact hp h hR (fun _ _ => rfl)
    · rw [stN_yes ht' hy] at hp
      refine ⟨rfl, ?_⟩
      show ab_W _ _ _ (0, [.ref 84, .int (nI s), .int (nI t)], [], (0, 0), h)
      refine ab_W.go (mm _) 2 (c' := (2, [.ref 84, .int (nI s), .int (nI t)], [.int (nI s), .ref 84], (0, 0), h)) rfl ?_
      refine ab_W.callV (mm _) (h0) rfl (k := 65) (av := [.ref 84, .int (nI s)]) (c' := (5, [.ref 84, .int (nI s), .int (nI t)], [], (0, 0), h)) rfl ?_
      refine sp_isY _ h0 hB hs hx ?_
      show ab_W _ _ _ (5, [.ref 84, .int (nI s), .int (nI t)], [.int (nI 1)], (0, 0), h)
      refine ab_W.itF (mm _) (p := (nI 1) = 0) (c1 := (25, [.ref 84, .int (nI s), .int (nI t)], [], (0, 0), h)) (c2 := (8, [.ref 84, .int (nI s), .int (nI t)], [], (0, 0), h)) rfl (nI_ne01) ?_
      refine ab_W.go (mm _) 2 (c' := (10, [.ref 84, .int (nI s), .int (nI t)], [.int (nI t), .ref 84], (0, 0), h)) rfl ?_
      refine ab_W.callV (mm _) (h0) rfl (k := 65) (av := [.ref 84, .int (nI t)]) (c' := (13, [.ref 84, .int (nI s), .int (nI t)], [], (0, 0), h)) rfl ?_
      refine sp_isY _ h0 hB ht' hy ?_
      show ab_W _ _ _ (13, [.ref 84, .int (nI s), .int (nI t)], [.int (nI 1)], (0, 0), h)
      refine ab_W.itF (mm _) (p := (nI 1) = 0) (c1 := (25, [.ref 84, .int (nI s), .int (nI t)], [], (0, 0), h)) (c2 := (16, [.ref 84, .int (nI s), .int (nI t)], [], (0, 0), h)) rfl (nI_ne01) ?_
      refine ab_W.go (mm _) 3 (c' := (19, [.ref 84, .int (nI s), .int (nI t)], [.int (nI t), .int (nI s), .ref 84], (0, 0), h)) rfl ?_
      refine ab_W.callV (mm _) (h0) rfl (k := 99) (av := [.ref 84, .int (nI s), .int (nI t)]) (c' := (22, [.ref 84, .int (nI s), .int (nI t)], [], (0, 0), h)) rfl ?_
      refine sp_morder _ h0 hH hs ht' ?_
      show ab_W _ _ _ (22, [.ref 84, .int (nI s), .int (nI t)], [.int (nI (ordN (ht σ.1 s) (ht σ.1 t)))], (0, 0), h)
      refine ab_W.go (mm _) 1 (c' := (26, [.ref 84, .int (nI s), .int (nI t)], [.int (nI (ordN (ht σ.1 s) (ht σ.1 t)))], (0, 0), h)) rfl ?_
      refine ab_W.retI (mm _) (rt := some .int) (v := nI (ordN (ht σ.1 s) (ht σ.1 t))) rfl rfl ?_
      exact hp h hR (fun _ _ => rfl)
theorem sp_m_hear (d : Nat) {h : ab_H} {σ : Sg} {x : Int32} {y : Int32} (hR : relM h σ) {post : ab_P} (hp : okM h post ((hearO σ.1 (stN σ.1 x) (stN σ.1 y)).1) ((hearO σ.1 (stN σ.1 x) (stN σ.1 y)).2, σ.2)) : mCC (d + 4) kSpanStampsModel_hear [.ref 84, .int x, .int y] h post := by
  obtain ⟨⟨sz, op, h0⟩, hB, hN, hK, hH, -⟩ := id hR
  obtain ⟨gB, b1, b2⟩ := id hB
  obtain ⟨gN, n1, n2⟩ := id hN
  obtain ⟨gK, k1, k2⟩ := id hK
  obtain ⟨gH, m1, m2⟩ := id hH
  rcases stamp_or σ.1 x with hx | ⟨s, hs, rfl, hx⟩
  · rw [stN_no hx] at hp
    refine ⟨rfl, ?_⟩
    show ab_W _ _ _ (0, [.ref 84, .int x, .int y], [], (0, 0), h)
    refine ab_W.go (mm _) 2 (c' := (2, [.ref 84, .int x, .int y], [.int x, .ref 84], (0, 0), h)) rfl ?_
    refine ab_W.callV (mm _) (h0) rfl (k := 65) (av := [.ref 84, .int x]) (c' := (5, [.ref 84, .int x, .int y], [], (0, 0), h)) rfl ?_
    refine sp_isN _ h0 hB hx ?_
    show ab_W _ _ _ (5, [.ref 84, .int x, .int y], [.int (nI 0)], (0, 0), h)
    refine ab_W.itT (mm _) (p := (nI 0) = 0) (c1 := (16, [.ref 84, .int x, .int y], [], (0, 0), h)) (c2 := (8, [.ref 84, .int x, .int y], [], (0, 0), h)) rfl (nI_0) ?_
    refine ab_W.go (mm _) 1 (c' := (17, [.ref 84, .int x, .int y], [.int (-(nI 1))], (0, 0), h)) rfl ?_
    refine ab_W.retI (mm _) (rt := some .int) (v := -(nI 1)) rfl rfl ?_
    exact hp h hR (fun _ _ => rfl)
  · rw [stN_yes hs hx] at hp
    rcases stamp_or σ.1 y with hy | ⟨t, ht', rfl, hy⟩
    · rw [stN_no hy] at hp
      refine ⟨rfl, ?_⟩
      show ab_W _ _ _ (0, [.ref 84, .int (nI s), .int y], [], (0, 0), h)
      refine ab_W.go (mm _) 2 (c' := (2, [.ref 84, .int (nI s), .int y], [.int (nI s), .ref 84], (0, 0), h)) rfl ?_
      refine ab_W.callV (mm _) (h0) rfl (k := 65) (av := [.ref 84, .int (nI s)]) (c' := (5, [.ref 84, .int (nI s), .int y], [], (0, 0), h)) rfl ?_
      refine sp_isY _ h0 hB hs hx ?_
      show ab_W _ _ _ (5, [.ref 84, .int (nI s), .int y], [.int (nI 1)], (0, 0), h)
      refine ab_W.itF (mm _) (p := (nI 1) = 0) (c1 := (16, [.ref 84, .int (nI s), .int y], [], (0, 0), h)) (c2 := (8, [.ref 84, .int (nI s), .int y], [], (0, 0), h)) rfl (nI_ne01) ?_
      refine ab_W.go (mm _) 2 (c' := (10, [.ref 84, .int (nI s), .int y], [.int y, .ref 84], (0, 0), h)) rfl ?_
      refine ab_W.callV (mm _) (h0) rfl (k := 65) (av := [.ref 84, .int y]) (c' := (13, [.ref 84, .int (nI s), .int y], [], (0, 0), h)) rfl ?_
      refine sp_isN _ h0 hB hy ?_
      show ab_W _ _ _ (13, [.ref 84, .int (nI s), .int y], [.int (nI 0)], (0, 0), h)
      refine ab_W.itT (mm _) (p := (nI 0) = 0) (c1 := (16, [.ref 84, .int (nI s), .int y], [], (0, 0), h)) (c2 := (18, [.ref 84, .int (nI s), .int y], [], (0, 0), h)) rfl (nI_0) ?_
      refine ab_W.go (mm _) 1 (c' := (17, [.ref 84, .int (nI s), .int y], [.int (-(nI 1))], (0, 0), h)) rfl ?_
      refine ab_W.retI (mm _) (rt := some .int) (v := -(nI 1)) rfl rfl ?_
      exact hp h hR (fun _ _ => rfl)
    · rw [stN_yes ht' hy] at hp
      refine ⟨rfl, ?_⟩
      show ab_W _ _ _ (0, [.ref 84, .int (nI s), .int (nI t)], [], (0, 0), h)
      refine ab_W.go (mm _) 2 (c' := (2, [.ref 84, .int (nI s), .int (nI t)], [.int (nI s), .ref 84], (0, 0), h)) rfl ?_
      refine ab_W.callV (mm _) (h0) rfl (k := 65) (av := [.ref 84, .int (nI s)]) (c' := (5, [.ref 84, .int (nI s), .int (nI t)], [], (0, 0), h)) rfl ?_
      refine sp_isY _ h0 hB hs hx ?_
      show ab_W _ _ _ (5, [.ref 84, .int (nI s), .int (nI t)], [.int (nI 1)], (0, 0), h)
      refine ab_W.itF (mm _) (p := (nI 1) = 0) (c1 := (16, [.ref 84, .int (nI s), .int (nI t)], [], (0, 0), h)) (c2 := (8, [.ref 84, .int (nI s), .int (nI t)], [], (0, 0), h)) rfl (nI_ne01) ?_
      refine ab_W.go (mm _) 2 (c' := (10, [.ref 84, .int (nI s), .int (nI t)], [.int (nI t), .ref 84], (0, 0), h)) rfl ?_
      refine ab_W.callV (mm _) (h0) rfl (k := 65) (av := [.ref 84, .int (nI t)]) (c' := (13, [.ref 84, .int (nI s), .int (nI t)], [], (0, 0), h)) rfl ?_
      refine sp_isY _ h0 hB ht' hy ?_
      show ab_W _ _ _ (13, [.ref 84, .int (nI s), .int (nI t)], [.int (nI 1)], (0, 0), h)
      refine ab_W.itF (mm _) (p := (nI 1) = 0) (c1 := (16, [.ref 84, .int (nI s), .int (nI t)], [], (0, 0), h)) (c2 := (18, [.ref 84, .int (nI s), .int (nI t)], [], (0, 0), h)) rfl (nI_ne01) ?_
      refine ab_W.go (mm _) 2 (c' := (20, [.ref 84, .int (nI s), .int (nI t)], [.int (nI t), .int (nI s)], (0, 0), h)) rfl ?_
      refine ab_W.ite (mm _) (p := (nI s) = (nI t)) (c1 := (23, [.ref 84, .int (nI s), .int (nI t)], [], (0, 0), h)) (c2 := (28, [.ref 84, .int (nI s), .int (nI t)], [], (0, 0), h)) rfl (fun q => ?_) (fun q => ?_)
      · skip
        have q := (nI_eq (by omega) (by omega)).mp q
        rw [show hearO σ.1 (some s) (some t) = _ from ci_t q] at hp
        refine ab_W.go (mm _) 2 (c' := (34, [.ref 84, .int (nI s), .int (nI t)], [.int (-(nI 2))], (0, 0), h)) rfl ?_
        refine ab_W.retI (mm _) (rt := some .int) (v := -(nI 2)) rfl rfl ?_
        exact hp h hR (fun _ _ => rfl)
      · skip
        have q : ¬ s = t := fun z => q (by rw [z])
        rw [show hearO σ.1 (some s) (some t) = _ from ci_f q] at hp
        refine ab_W.go (mm _) 3 (c' := (31, [.ref 84, .int (nI s), .int (nI t)], [.int (nI t), .int (nI s), .ref 84], (0, 0), h)) rfl ?_
        refine ab_W.callV (mm _) (h0) rfl (k := 94) (av := [.ref 84, .int (nI s), .int (nI t)]) (c' := (34, [.ref 84, .int (nI s), .int (nI t)], [], (0, 0), h)) rfl ?_
        refine sp_mheard _ h0 hH hK hs ht' q (fun h1 H1 K1 q1 => ?_)
        show ab_W _ _ _ (34, [.ref 84, .int (nI s), .int (nI t)], [.int (nI (cn (fun j => ht σ.1 s j < ht σ.1 t j) 64))], (0, 0), h1)
        refine ab_W.retI (mm _) (rt := some .int) (v := nI (cn (fun j => ht σ.1 s j < ht σ.1 t j) 64)) rfl rfl ?_
        exact hp _ (hR.cur2 rfl ((hB.kept (q1 85 (by decide) (by decide))).congr (fun v hv => by by_cases e1 : v = s <;> simp [hearC, pr_setS, nm_setS, kn_setS, ht_setS, va_up, e1, hx])) ((hN.kept (q1 86 (by decide) (by decide))).congr (fun v hv => by by_cases e1 : v = s <;> simp [hearC, pr_setS, nm_setS, kn_setS, ht_setS, va_up, e1, hx])) K1 H1 (fun i hi => q1 i (by omega) (by omega))) (fun i hi => q1 i (by omega) (by omega))
