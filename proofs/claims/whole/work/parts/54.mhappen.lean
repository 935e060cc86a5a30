/-! THE REFERENCE: happen -/
theorem hapS : ∀ n, n ≤ 60 → nI (n + 1) - nI 1 = nI n := by decide +kernel
theorem sp_m_happen (d : Nat) {h : ab_H} {σ : Sg} {x : Int32} (hR : relM h σ) (hn60 : hn σ.1 ≤ 60) {post : ab_P} (hp : okM h post ((happenO σ.1 (stN σ.1 x)).1) ((happenO σ.1 (stN σ.1 x)).2, σ.2)) : mCC (d + 9) kSpanStampsModel_happen [.ref 84, .int x] h post := by
  obtain ⟨⟨sz, op, h0⟩, hB, hN, hK, hH, -⟩ := id hR
  obtain ⟨gB, b1, b2⟩ := id hB
  obtain ⟨gN, n1, n2⟩ := id hN
  obtain ⟨gK, k1, k2⟩ := id hK
  obtain ⟨gH, m1, m2⟩ := id hH
  rcases stamp_or σ.1 x with hx | ⟨s, hs, rfl, hx⟩
  · rw [stN_no hx] at hp
    refine ⟨rfl, ?_⟩
    show ab_W _ _ _ (0, [.ref 84, .int x, .retAddr 0], [], (0, 0), h)
    refine ab_W.go (mm _) 2 (c' := (2, [.ref 84, .int x, .retAddr 0], [.int x, .ref 84], (0, 0), h)) rfl ?_
    refine ab_W.callV (mm _) (h0) rfl (k := 65) (av := [.ref 84, .int x]) (c' := (5, [.ref 84, .int x, .retAddr 0], [], (0, 0), h)) rfl ?_
    refine sp_isN _ h0 hB hx ?_
    show ab_W _ _ _ (5, [.ref 84, .int x, .retAddr 0], [.int (nI 0)], (0, 0), h)
    refine ab_W.itT (mm _) (p := (nI 0) = 0) (c1 := (8, [.ref 84, .int x, .retAddr 0], [], (0, 0), h)) (c2 := (10, [.ref 84, .int x, .retAddr 0], [], (0, 0), h)) rfl (nI_0) ?_
    refine ab_W.go (mm _) 1 (c' := (9, [.ref 84, .int x, .retAddr 0], [.int (-(nI 1))], (0, 0), h)) rfl ?_
    refine ab_W.retI (mm _) (rt := some .int) (v := -(nI 1)) rfl rfl ?_
    exact hp h hR (fun _ _ => rfl)
  · rw [stN_yes hs hx] at hp
    refine ⟨rfl, ?_⟩
    show ab_W _ _ _ (0, [.ref 84, .int (nI s), .retAddr 0], [], (0, 0), h)
    refine ab_W.go (mm _) 2 (c' := (2, [.ref 84, .int (nI s), .retAddr 0], [.int (nI s), .ref 84], (0, 0), h)) rfl ?_
    refine ab_W.callV (mm _) (h0) rfl (k := 65) (av := [.ref 84, .int (nI s)]) (c' := (5, [.ref 84, .int (nI s), .retAddr 0], [], (0, 0), h)) rfl ?_
    refine sp_isY _ h0 hB hs hx ?_
    show ab_W _ _ _ (5, [.ref 84, .int (nI s), .retAddr 0], [.int (nI 1)], (0, 0), h)
    refine ab_W.itF (mm _) (p := (nI 1) = 0) (c1 := (8, [.ref 84, .int (nI s), .retAddr 0], [], (0, 0), h)) (c2 := (10, [.ref 84, .int (nI s), .retAddr 0], [], (0, 0), h)) rfl (nI_ne01) ?_
    refine ab_W.go (mm _) 1 (c' := (11, [.ref 84, .int (nI s), .retAddr 0], [.ref 84], (0, 0), h)) rfl ?_
    refine ab_W.o (mm _) (h0) rfl (c' := (14, [.ref 84, .int (nI s), .retAddr 0], [.ref 86], (0, 0), h)) rfl ?_
    refine ab_W.go (mm _) 1 (c' := (15, [.ref 84, .int (nI s), .retAddr 0], [.int (nI s), .ref 86], (0, 0), h)) rfl ?_
    refine ab_W.lald (mm _) (j := s) (n1) rfl (by omega) rfl rfl ?_
    show ab_W _ _ _ (16, [.ref 84, .int (nI s), .retAddr 0], [.long (gN s)], (0, 0), h)
    refine ab_W.topl (n2 s hs) ?_
    refine ab_W.go (mm _) 2 (c' := (18, [.ref 84, .int (nI s), .retAddr 0], [.int (lg_cmp (nm σ.1 s) (lN 0))], (0, 0), h)) rfl ?_
    refine ab_W.ite (mm _) (p := (lg_cmp (nm σ.1 s) (lN 0)) = 0) (c1 := (21, [.ref 84, .int (nI s), .retAddr 0], [], (0, 0), h)) (c2 := (24, [.ref 84, .int (nI s), .retAddr 0], [], (0, 0), h)) rfl (fun q => ?_) (fun q => ?_)
    · skip
      rw [show happenO σ.1 (some s) = _ from ci_t ((lg_cmp0 _ _).mp q)] at hp
      refine ab_W.go (mm _) 1 (c' := (23, [.ref 84, .int (nI s), .retAddr 0], [.int (-(nI 3))], (0, 0), h)) rfl ?_
      refine ab_W.retI (mm _) (rt := some .int) (v := -(nI 3)) rfl rfl ?_
      exact hp h hR (fun _ _ => rfl)
    · skip
      have q : ¬ nm σ.1 s = lN 0 := fun z => q ((lg_cmp0 _ _).mpr z)
      refine ab_W.go (mm _) 1 (c' := (25, [.ref 84, .int (nI s), .retAddr 0], [.ref 84], (0, 0), h)) rfl ?_
      refine ab_W.o (mm _) (h0) rfl (c' := (28, [.ref 84, .int (nI s), .retAddr 0], [.int (nI (hn σ.1))], (0, 0), h)) rfl ?_
      refine ab_W.go (mm _) 1 (c' := (30, [.ref 84, .int (nI s), .retAddr 0], [.int (nI 60), .int (nI (hn σ.1))], (0, 0), h)) rfl ?_
      refine ab_W.ite (mm _) (p := (nI (hn σ.1)) = (nI 60)) (c1 := (33, [.ref 84, .int (nI s), .retAddr 0], [], (0, 0), h)) (c2 := (36, [.ref 84, .int (nI s), .retAddr 0], [], (0, 0), h)) rfl (fun q1 => ?_) (fun q1 => ?_)
      · skip
        have q1 : hn σ.1 = 60 := (nI_eq (by omega) (by omega)).mp q1
        rw [show happenO σ.1 (some s) = _ from (ci_f q).trans (ci_t (by omega))] at hp
        refine ab_W.go (mm _) 1 (c' := (35, [.ref 84, .int (nI s), .retAddr 0], [.int (-(nI 4))], (0, 0), h)) rfl ?_
        refine ab_W.retI (mm _) (rt := some .int) (v := -(nI 4)) rfl rfl ?_
        exact hp h hR (fun _ _ => rfl)
      · skip
        have q1 : ¬ hn σ.1 = 60 := fun z => q1 (by rw [z])
        rw [show happenO σ.1 (some s) = _ from (ci_f q).trans (ci_f (by omega))] at hp
        have fin : ∀ (h3 : ab_H) (G' : Nat → Int32) (v2 : Value), nowP h3 G' → (∀ c, c < 64 → G' c = hpF (nm σ.1 s) (ht σ.1 s) c) → arrS h3 90 128 → (∀ i, i ≠ 89 → i ≠ 90 → h3[i]? = h[i]?) → ab_W (ab_st (mT kSpanStampsModel_happen) mB mF (mR kSpanStampsModel_happen) none) (mCC (d + 8)) post (86, [.ref 84, .int (nI s), v2], [], (0, 0), h3) := by
          intro h3 G' v2 nG eG s90 kk
          have loop : ∀ c, c ≤ 64 → ∀ h4, (∀ i, i ≠ 88 → h4[i]? = h3[i]?) → (∃ g, h4[88]? = some (.inl (0, 64 * 12, .inl g)) ∧ (∀ v j, v < 12 → j < 64 → v ≠ s → g (64 * v + j) = ht σ.1 v j) ∧ (∀ j, j < c → g (64 * s + j) = hpF (nm σ.1 s) (ht σ.1 s) j)) → ab_W (ab_st (mT kSpanStampsModel_happen) mB mF (mR kSpanStampsModel_happen) none) (mCC (d + 8)) post (88, [.ref 84, .int (nI s), .int (nI c)], [], (0, 0), h4) := by
            refine down 64 ?_ ?_
            · intro h4 k4 ⟨g, g1, g2, g3⟩
              have h04 := (k4 84 (by decide)).trans ((kk 84 (by decide) (by decide)).trans h0)
              have k14 := (k4 87 (by decide)).trans ((kk 87 (by decide) (by decide)).trans k1)
              refine ab_W.go (mm _) 2 (c' := (91, [.ref 84, .int (nI s), .int (nI 64)], [.int (nI 64), .int (nI 64)], (0, 0), h4)) rfl ?_
              refine ab_W.itT (mm _) (p := (nI 64) ≤ (nI 64)) (c1 := (117, [.ref 84, .int (nI s), .int (nI 64)], [], (0, 0), h4)) (c2 := (94, [.ref 84, .int (nI s), .int (nI 64)], [], (0, 0), h4)) rfl ((by decide)) ?_
              refine ab_W.go (mm _) 1 (c' := (118, [.ref 84, .int (nI s), .int (nI 64)], [.ref 84], (0, 0), h4)) rfl ?_
              refine ab_W.o (mm _) (h04) rfl (c' := (121, [.ref 84, .int (nI s), .int (nI 64)], [.ref 87], (0, 0), h4)) rfl ?_
              refine ab_W.go (mm _) 2 (c' := (123, [.ref 84, .int (nI s), .int (nI 64)], [.int (nI s), .ref 87, .int (nI s), .ref 87], (0, 0), h4)) rfl ?_
              refine ab_W.lald (mm _) (j := s) (k14) rfl (by omega) rfl rfl ?_
              show ab_W _ _ _ (124, [.ref 84, .int (nI s), .int (nI 64)], [.long (gK s), .int (nI s), .ref 87], (0, 0), h4)
              refine ab_W.topl (k2 s hs) ?_
              refine ab_W.go (mm _) 2 (c' := (126, [.ref 84, .int (nI s), .int (nI 64)], [.ref 84, .long (lN 1), .long (kn σ.1 s), .int (nI s), .ref 87], (0, 0), h4)) rfl ?_
              refine ab_W.o (mm _) (h04) rfl (c' := (129, [.ref 84, .int (nI s), .int (nI 64)], [.int (nI (hn σ.1)), .long (lN 1), .long (kn σ.1 s), .int (nI s), .ref 87], (0, 0), h4)) rfl ?_
              refine ab_W.go (mm _) 2 (c' := (131, [.ref 84, .int (nI s), .int (nI 64)], [.long ((kn σ.1 s) ||| ((lN 1) <<< ((nI (hn σ.1)).toInt64 &&& 63))), .int (nI s), .ref 87], (0, 0), h4)) rfl ?_
              refine ab_W.last (mm _) (j := s) (k14) rfl (by omega) rfl rfl ?_
              show ab_W _ _ _ (132, [.ref 84, .int (nI s), .int (nI 64)], [], (0, 0), h4.set 87 (.inl (1, 12, .inr (.inl (vp_updL gK s (kn σ.1 s ||| (lN 1 <<< ((nI (hn σ.1)).toInt64 &&& 63))))))))
              obtain ⟨h5, e5⟩ : ∃ h5, h5 = h4.set 87 (.inl (1, 12, .inr (.inl (vp_updL gK s (kn σ.1 s ||| (lN 1 <<< ((nI (hn σ.1)).toInt64 &&& 63))))))) := ⟨_, rfl⟩
              have K5 : arrL h5 87 12 (va_up (kn σ.1) s (kn σ.1 s ||| (lN 1 <<< ((nI (hn σ.1)).toInt64 &&& 63)))) := by rw [e5]; exact arrL.put k14 k2
              have k5 : ∀ i, i ≠ 87 → h5[i]? = h4[i]? := fun i hi => by rw [e5]; exact set_ne (fun z => hi z.symm)
              refine ab_W.hp (e5.symm) ?_
              show ab_W _ _ _ (132, [.ref 84, .int (nI s), .int (nI 64)], [], (0, 0), h5)
              have h05 := (k5 84 (by decide)).trans h04
              refine ab_W.go (mm _) 2 (c' := (134, [.ref 84, .int (nI s), .int (nI 64)], [.ref 84, .ref 84], (0, 0), h5)) rfl ?_
              refine ab_W.o (mm _) (h05) rfl (c' := (137, [.ref 84, .int (nI s), .int (nI 64)], [.int (nI (hn σ.1)), .ref 84], (0, 0), h5)) rfl ?_
              refine ab_W.go (mm _) 2 (c' := (139, [.ref 84, .int (nI s), .int (nI 64)], [.int ((nI (hn σ.1)) + (nI 1)), .ref 84], (0, 0), h5)) rfl ?_
              refine ab_W.topi (nI_add (hn σ.1) 1) ?_
              refine ab_W.o (mm _) (h05) rfl (c' := (142, [.ref 84, .int (nI s), .int (nI 64)], [], (0, 0), h5.set 84 (mObj (nI (hn σ.1 + 1)) sz op))) rfl ?_
              obtain ⟨h6, e6⟩ : ∃ h6, h6 = h5.set 84 (mObj (nI (hn σ.1 + 1)) sz op) := ⟨_, rfl⟩
              have h06 : h6[84]? = some (mObj (nI (hn σ.1 + 1)) sz op) := by rw [e6]; exact set_at h05
              have k6 : ∀ i, i ≠ 84 → h6[i]? = h5[i]? := fun i hi => by rw [e6]; exact set_ne (fun z => hi z.symm)
              refine ab_W.hp (e6.symm) ?_
              show ab_W _ _ _ (142, [.ref 84, .int (nI s), .int (nI 64)], [], (0, 0), h6)
              refine ab_W.go (mm _) 1 (c' := (143, [.ref 84, .int (nI s), .int (nI 64)], [.ref 84], (0, 0), h6)) rfl ?_
              refine ab_W.o (mm _) (h06) rfl (c' := (146, [.ref 84, .int (nI s), .int (nI 64)], [.int (nI (hn σ.1 + 1))], (0, 0), h6)) rfl ?_
              refine ab_W.go (mm _) 2 (c' := (148, [.ref 84, .int (nI s), .int (nI 64)], [.int ((nI (hn σ.1 + 1)) - (nI 1))], (0, 0), h6)) rfl ?_
              refine ab_W.topi (hapS _ hn60) ?_
              refine ab_W.retI (mm _) (rt := some .int) (v := nI (hn σ.1)) rfl rfl ?_
              have kA : ∀ i, i ≠ 84 → i ≠ 87 → i ≠ 88 → h6[i]? = h3[i]? := fun i i1 i2 i3 => (k6 i i1).trans ((k5 i i2).trans (k4 i i3))
              have kB : ∀ i, i < 84 ∨ 90 < i ∨ i = 85 ∨ i = 86 → h6[i]? = h[i]? := fun i hi => (kA i (by omega) (by omega) (by omega)).trans (kk i (by omega) (by omega))
              obtain ⟨-, -, -, -, -, ⟨-, -, s3, s4, s5⟩, -⟩ := id hR
              refine hp _ (hR.cur (c' := setH (setS σ.1 s true (nm σ.1 s) (kn σ.1 s ||| (lN 1 <<< ((nI (hn σ.1)).toInt64 &&& 63))) (hpF (nm σ.1 s) (ht σ.1 s))) (hn σ.1 + 1)) ⟨sz, op, h06⟩ ((hB.kept (kB 85 (by omega))).congr (fun v hv => ?_)) ((hN.kept (kB 86 (by omega))).congr (fun v hv => ?_)) (K5.kept (k6 87 (by decide))) ⟨g, (k6 88 (by decide)).trans ((k5 88 (by decide)).trans g1), fun v j hv hj => ?_⟩ ⟨⟨G', (kA 89 (by decide) (by decide) (by decide)).trans nG⟩, s90.kept (kA 90 (by decide) (by decide) (by decide)), s3.kept (kB _ (by omega)), s4.kept (kB _ (by omega)), s5.kept (kB _ (by omega))⟩ (fun i hi => kB i (by omega))) (fun i hi => kB i (by omega))
              · show pr σ.1 v = va_up (pr σ.1) s true v
                by_cases e : v = s
                · rw [e, va_up_self]; exact hx
                · rw [va_up_ne _ _ e]
              · show nm σ.1 v = va_up (nm σ.1) s (nm σ.1 s) v
                by_cases e : v = s
                · rw [e, va_up_self]
                · rw [va_up_ne _ _ e]
              · show _ = va_up (ht σ.1) s (hpF (nm σ.1 s) (ht σ.1 s)) v j
                by_cases e : v = s
                · rw [e, va_up_self]; exact g3 j hj
                · rw [va_up_ne _ _ e]; exact g2 v j hv hj e
            · intro c hc ih h4 k4 ⟨g, g1, g2, g3⟩
              have h04 := (k4 84 (by decide)).trans ((kk 84 (by decide) (by decide)).trans h0)
              have n4 := (k4 89 (by decide)).trans nG
              refine ab_W.go (mm _) 2 (c' := (91, [.ref 84, .int (nI s), .int (nI c)], [.int (nI 64), .int (nI c)], (0, 0), h4)) rfl ?_
              refine ab_W.itF (mm _) (p := (nI 64) ≤ (nI c)) (c1 := (117, [.ref 84, .int (nI s), .int (nI c)], [], (0, 0), h4)) (c2 := (94, [.ref 84, .int (nI s), .int (nI c)], [], (0, 0), h4)) rfl (fun z => absurd ((nI_leI (by omega) (by omega)).mp z) (by omega)) ?_
              refine ab_W.go (mm _) 1 (c' := (95, [.ref 84, .int (nI s), .int (nI c)], [.ref 84], (0, 0), h4)) rfl ?_
              refine ab_W.o (mm _) (h04) rfl (c' := (98, [.ref 84, .int (nI s), .int (nI c)], [.ref 88], (0, 0), h4)) rfl ?_
              refine ab_W.go (mm _) 3 (c' := (102, [.ref 84, .int (nI s), .int (nI c)], [.int ((nI 64) * (nI s)), .ref 88], (0, 0), h4)) rfl ?_
              refine ab_W.topi (pk_mul 64 s) ?_
              refine ab_W.go (mm _) 2 (c' := (104, [.ref 84, .int (nI s), .int (nI c)], [.int ((nI (64 * s)) + (nI c)), .ref 88], (0, 0), h4)) rfl ?_
              refine ab_W.topi (nI_add (64 * s) c) ?_
              refine ab_W.go (mm _) 1 (c' := (105, [.ref 84, .int (nI s), .int (nI c)], [.ref 84, .int (nI ((64 * s) + c)), .ref 88], (0, 0), h4)) rfl ?_
              refine ab_W.o (mm _) (h04) rfl (c' := (108, [.ref 84, .int (nI s), .int (nI c)], [.ref 89, .int (nI ((64 * s) + c)), .ref 88], (0, 0), h4)) rfl ?_
              refine ab_W.go (mm _) 1 (c' := (109, [.ref 84, .int (nI s), .int (nI c)], [.int (nI c), .ref 89, .int (nI ((64 * s) + c)), .ref 88], (0, 0), h4)) rfl ?_
              refine ab_W.iald (mm _) (j := c) (n4) rfl (by omega) rfl rfl ?_
              show ab_W _ _ _ (110, [.ref 84, .int (nI s), .int (nI c)], [.int (G' c), .int (nI ((64 * s) + c)), .ref 88], (0, 0), h4)
              refine ab_W.topi (eG c hc) ?_
              refine ab_W.iast (mm _) (j := 64 * s + c) (g1) (by simp only [nI_add, pk_mul]) (by omega) rfl rfl ?_
              show ab_W _ _ _ (111, [.ref 84, .int (nI s), .int (nI c)], [], (0, 0), h4.set 88 (.inl (0, 64 * 12, .inl (upd g (64 * s + c) (hpF (nm σ.1 s) (ht σ.1 s) c)))))
              refine ab_W.go (mm _) 1 (c' := (114, [.ref 84, .int (nI s), .int (nI c + nI 1)], [], (0, 0), h4.set 88 (.inl (0, 64 * 12, .inl (upd g (64 * s + c) (hpF (nm σ.1 s) (ht σ.1 s) c)))))) rfl ?_
              rw [nI_add c 1]
              refine ab_W.go (mm _) 1 (c' := (88, [.ref 84, .int (nI s), .int (nI (c + 1))], [], (0, 0), h4.set 88 (.inl (0, 64 * 12, .inl (upd g (64 * s + c) (hpF (nm σ.1 s) (ht σ.1 s) c)))))) rfl ?_
              refine ih _ (fun i hi => (set_ne (fun z => hi z.symm)).trans (k4 i hi)) ⟨_, set_at g1, fun v j hv hj hvs => ?_, fun j hj => ?_⟩
              · rw [upd_no _ _ (by omega)]
                exact g2 v j hv hj hvs
              · by_cases e : j = c
                · rw [e, upd_at]
                · rw [upd_no _ _ (by omega)]
                  exact g3 j (by omega)
          obtain ⟨gh, a1, a2⟩ := hH.kept (kk 88 (by decide) (by decide))
          refine ab_W.go (mm _) 2 (c' := (88, [.ref 84, .int (nI s), .int (nI 0)], [], (0, 0), h3)) rfl ?_
          exact loop 0 (Nat.zero_le _) h3 (fun _ _ => rfl) ⟨gh, a1, fun v j hv hj _ => a2 v j hv hj, fun j hj => absurd hj (Nat.not_lt_zero _)⟩
        obtain ⟨-, -, -, -, -, ⟨⟨gs, ms⟩, ⟨gw, m90⟩, -⟩, -⟩ := id hR
        have l89 := hA_lt ms
        refine ab_W.go (mm _) 2 (c' := (38, [.ref 84, .int (nI s), .retAddr 0], [.int (nI s), .ref 84], (0, 0), h)) rfl ?_
        refine ab_W.callV (mm _) (h0) rfl (k := 85) (av := [.ref 84, .int (nI s)]) (c' := (41, [.ref 84, .int (nI s), .retAddr 0], [], (0, 0), h)) rfl ?_
        refine sp_mlook _ h0 hH hs ms (fun f hf => ?_)
        have h01 : (hA h 89 f)[84]? = some (mObj (nI (hn σ.1)) sz op) := (hA_ne (by decide)).trans h0
        have n1' : (hA h 89 f)[86]? = some (.inl (1, 12, .inr (.inl gN))) := (hA_ne (by decide)).trans n1
        have nw : nowP (hA h 89 f) f := hA_at l89
        have w90 : (hA h 89 f)[90]? = some (.inl (0, 128, .inl gw)) := (hA_ne (by decide)).trans m90
        have kk1 : ∀ i, i ≠ 89 → (hA h 89 f)[i]? = h[i]? := fun i hi => hA_ne (fun z => hi z.symm)
        obtain ⟨h1, e1⟩ : ∃ h1, h1 = hA h 89 f := ⟨_, rfl⟩
        rw [← e1] at h01 n1' nw w90 kk1
        show ab_W _ _ _ (41, [.ref 84, .int (nI s), .retAddr 0], [], (0, 0), hA h 89 f)
        refine ab_W.hp (e1.symm) ?_
        show ab_W _ _ _ (41, [.ref 84, .int (nI s), .retAddr 0], [], (0, 0), h1)
        refine ab_W.go (mm _) 2 (c' := (43, [.ref 84, .int (nI s), .retAddr 0], [.ref 84, .ref 84], (0, 0), h1)) rfl ?_
        refine ab_W.o (mm _) (h01) rfl (c' := (46, [.ref 84, .int (nI s), .retAddr 0], [.ref 86, .ref 84], (0, 0), h1)) rfl ?_
        refine ab_W.go (mm _) 1 (c' := (47, [.ref 84, .int (nI s), .retAddr 0], [.int (nI s), .ref 86, .ref 84], (0, 0), h1)) rfl ?_
        refine ab_W.lald (mm _) (j := s) (n1') rfl (by omega) rfl rfl ?_
        show ab_W _ _ _ (48, [.ref 84, .int (nI s), .retAddr 0], [.long (gN s), .ref 84], (0, 0), h1)
        refine ab_W.topl (n2 s hs) ?_
        refine ab_W.callV (mm _) (h01) rfl (k := 88) (av := [.ref 84, .long (nm σ.1 s)]) (c' := (51, [.ref 84, .int (nI s), .retAddr 0], [], (0, 0), h1)) rfl ?_
        refine sp_mfill _ h01 nw w90 (fun h2 G nG eG s90 kk2 => ?_)
        have kk3 : ∀ i, i ≠ 89 → i ≠ 90 → h2[i]? = h[i]? := fun i i1 i2 => (kk2 i i1 i2).trans (kk1 i i1)
        have h02 := (kk3 84 (by decide) (by decide)).trans h0
        have n2' := (kk3 86 (by decide) (by decide)).trans n1
        have H2 := hH.kept (kk3 88 (by decide) (by decide))
        have hR2 : relM h2 σ := hR.scr ⟨G, nG⟩ s90 kk3
        have eH : ∀ c, c < 64 → G c = fl (nm σ.1 s) 6 1 (ht σ.1 s) c := fun c hc => (eG c hc).trans (fl_all hf c hc)
        have en : chF G (ht σ.1 s) 64 = nch (nm σ.1 s) (ht σ.1 s) := cn_congr (fun c hc => by rw [eH c hc])
        show ab_W _ _ _ (51, [.ref 84, .int (nI s), .retAddr 0], [], (0, 0), h2)
        refine ab_W.go (mm _) 2 (c' := (53, [.ref 84, .int (nI s), .retAddr 0], [.int (nI s), .ref 84], (0, 0), h2)) rfl ?_
        refine ab_W.callV (mm _) (h02) rfl (k := 89) (av := [.ref 84, .int (nI s)]) (c' := (56, [.ref 84, .int (nI s), .retAddr 0], [], (0, 0), h2)) rfl ?_
        refine sp_mchanged _ h02 H2 hs nG ?_
        show ab_W _ _ _ (56, [.ref 84, .int (nI s), .retAddr 0], [.int (nI (chF G (ht σ.1 s) 64))], (0, 0), h2)
        rw [en]
        have l64 : nch (nm σ.1 s) (ht σ.1 s) ≤ 64 := cn_le _ 64
        have eS : nch (nm σ.1 s) (ht σ.1 s) = 0 → ∀ c, c < 64 → G c = ht σ.1 s c := fun z c hc => (eH c hc).trans (Classical.not_not.mp (cn_zero z c hc))
        refine ab_W.ite (mm _) (p := (nI (nch (nm σ.1 s) (ht σ.1 s))) = 0) (c1 := (59, [.ref 84, .int (nI s), .retAddr 0], [], (0, 0), h2)) (c2 := (86, [.ref 84, .int (nI s), .retAddr 0], [], (0, 0), h2)) rfl (fun q2 => ?_) (fun q2 => ?_)
        · skip
          have q2 : nch (nm σ.1 s) (ht σ.1 s) = 0 := (nI_eq (by omega) (by omega)).mp (q2.trans nI_0.symm)
          have np : ¬ 0 < nch (nm σ.1 s) (ht σ.1 s) := by omega
          refine ab_W.go (mm _) 2 (c' := (61, [.ref 84, .int (nI s), .retAddr 0], [.ref 84, .ref 84], (0, 0), h2)) rfl ?_
          refine ab_W.o (mm _) (h02) rfl (c' := (64, [.ref 84, .int (nI s), .retAddr 0], [.ref 86, .ref 84], (0, 0), h2)) rfl ?_
          refine ab_W.go (mm _) 1 (c' := (65, [.ref 84, .int (nI s), .retAddr 0], [.int (nI s), .ref 86, .ref 84], (0, 0), h2)) rfl ?_
          refine ab_W.lald (mm _) (j := s) (n2') rfl (by omega) rfl rfl ?_
          show ab_W _ _ _ (66, [.ref 84, .int (nI s), .retAddr 0], [.long (gN s), .ref 84], (0, 0), h2)
          refine ab_W.topl (n2 s hs) ?_
          refine ab_W.callV (mm _) (h02) rfl (k := 92) (av := [.ref 84, .long (nm σ.1 s)]) (c' := (69, [.ref 84, .int (nI s), .retAddr 0], [], (0, 0), h2)) rfl ?_
          refine sp_mbest _ h02 nG (isP_ex q) (fun k hk => ?_)
          have hk' := hk.congr (eS q2)
          obtain ⟨⟨k1', k2', k3'⟩, -⟩ := id hk
          have ek := bst_eq hk'
          show ab_W _ _ _ (69, [.ref 84, .int (nI s), .retAddr 0], [.int (nI k)], (0, 0), h2)
          refine ab_W.go (mm _) 4 (c' := (73, [.ref 84, .int (nI s), .int (nI k)], [.ref 84, .int (nI k), .ref 84], (0, 0), h2)) rfl ?_
          refine ab_W.o (mm _) (h02) rfl (c' := (76, [.ref 84, .int (nI s), .int (nI k)], [.ref 89, .int (nI k), .ref 84], (0, 0), h2)) rfl ?_
          refine ab_W.go (mm _) 1 (c' := (77, [.ref 84, .int (nI s), .int (nI k)], [.int (nI k), .ref 89, .int (nI k), .ref 84], (0, 0), h2)) rfl ?_
          refine ab_W.call (mm _) (k := 72) (av := [.int (nI k)]) (c' := (80, [.ref 84, .int (nI s), .int (nI k)], [.ref 89, .int (nI k), .ref 84], (0, 0), h2)) rfl ?_
          refine mbeginOf _ k1' k2' ?_
          show ab_W _ _ _ (80, [.ref 84, .int (nI s), .int (nI k)], [.int (nI (beg k)), .ref 89, .int (nI k), .ref 84], (0, 0), h2)
          have bk := (sp_le k k2' k1').2.2.2
          refine ab_W.iald (mm _) (j := beg k) (nG) rfl (by omega) rfl rfl ?_
          show ab_W _ _ _ (81, [.ref 84, .int (nI s), .int (nI k)], [.int (G (beg k)), .int (nI k), .ref 84], (0, 0), h2)
          refine ab_W.go (mm _) 2 (c' := (83, [.ref 84, .int (nI s), .int (nI k)], [.int ((G (beg k)) + (nI 1)), .int (nI k), .ref 84], (0, 0), h2)) rfl ?_
          have l2 := hA_lt nG
          have hself : hA h2 89 G = h2 := hA_self nG
          refine ab_W.hp (hself.symm) ?_
          show ab_W _ _ _ (83, [.ref 84, .int (nI s), .int (nI k)], [.int ((G (beg k)) + (nI 1)), .int (nI k), .ref 84], (0, 0), hA h2 89 G)
          refine ab_W.callV (mm _) ((hA_ne (by decide)).trans h02) rfl (k := 84) (av := [.ref 84, .int (nI k), .int ((G (beg k)) + (nI 1))]) (c' := (86, [.ref 84, .int (nI s), .int (nI k)], [], (0, 0), hA h2 89 G)) rfl ?_
          refine sp_mlevel _ h02 l2 k1' k2' ?_
          refine fin _ _ _ (hA_at l2) (fun c hc => ?_) (s90.kept (hA_ne (by decide))) (fun i i1 i2 => (hA_ne (fun z => i1 z.symm)).trans (kk3 i i1 i2))
          have al : alk G k := (alk_congr k1' k2' (fun j hj => eS q2 j (inK_lt k1' k2' hj))).mpr (piece_alike q2 k1' k2' k3')
          rw [lev_rs al, show hpF (nm σ.1 s) (ht σ.1 s) = _ from ci_f np, ek]
          unfold rsF
          rw [eS q2 c hc]
        · skip
          have np : 0 < nch (nm σ.1 s) (ht σ.1 s) := by
            rcases Nat.eq_zero_or_pos (nch (nm σ.1 s) (ht σ.1 s)) with z | z
            · exact absurd (by rw [z]; exact nI_0) q2
            · exact z
          exact fin h2 G _ nG (fun c hc => by rw [show hpF (nm σ.1 s) (ht σ.1 s) = _ from ci_t np]; exact eH c hc) s90 kk3
