/-! THE REFERENCE: adding, hearing, comparing -/
theorem sp_isY (d : Nat) {h : ab_H} {hap sz op : Int32} {c : Ci} {s : Nat} (h0 : h[84]? = some (mObj hap sz op)) (hB : arrB h 85 12 (pr c)) (hs : s < 12) (hx : pr c s = true) {post : ab_P} (hp : post (some (.int (nI 1))) h) : mCC (d + 2) kSpanStampsModel_isStamp [.ref 84, .int (nI s)] h post := by
  refine sp_misStamp d h0 hB (fun v hv => ?_)
  rcases hv with ⟨a, -⟩ | ⟨-, rfl⟩
  · have e := stN_no a
    rw [stN_yes hs hx] at e
    cases e
  · exact hp
theorem sp_isN (d : Nat) {h : ab_H} {hap sz op x : Int32} {c : Ci} (h0 : h[84]? = some (mObj hap sz op)) (hB : arrB h 85 12 (pr c)) (hx : noS c x) {post : ab_P} (hp : post (some (.int (nI 0))) h) : mCC (d + 2) kSpanStampsModel_isStamp [.ref 84, .int x] h post := by
  refine sp_misStamp d h0 hB (fun v hv => ?_)
  rcases hv with ⟨-, rfl⟩ | ⟨⟨s, hs, rfl, hy⟩, -⟩
  · exact hp
  · have e := stN_no hx
    rw [stN_yes hs hy] at e
    cases e
theorem sp_mheard (d : Nat) {h : ab_H} {hap sz op : Int32} {H : Nat → Nat → Int32} {K : Nat → Int64} {s t : Nat} (h0 : h[84]? = some (mObj hap sz op)) (hH : arrH h 88 12 H) (hK : arrL h 87 12 K) (hs : s < 12) (ht' : t < 12) (hst : s ≠ t) {post : ab_P} (hp : ∀ h', arrH h' 88 12 (va_up H s (mxH (H s) (H t))) → arrL h' 87 12 (va_up K s (K s ||| K t)) → (∀ i, i ≠ 88 → i ≠ 87 → h'[i]? = h[i]?) → post (some (.int (nI (cn (fun j => H s j < H t j) 64)))) h') : mCC (d + 1) kSpanStampsModel_heard [.ref 84, .int (nI s), .int (nI t)] h post := by
  obtain ⟨gk, k1, k2⟩ := hK
  have loop : ∀ c, c ≤ 64 → ∀ h1, (∀ i, i ≠ 88 → h1[i]? = h[i]?) → (∃ g, h1[88]? = some (.inl (0, 64 * 12, .inl g)) ∧ (∀ v j, v < 12 → j < 64 → v ≠ s → g (64 * v + j) = H v j) ∧ (∀ j, j < c → g (64 * s + j) = mxI (H s j) (H t j)) ∧ (∀ j, c ≤ j → j < 64 → g (64 * s + j) = H s j)) → ab_W (ab_st (mT kSpanStampsModel_heard) mB mF (mR kSpanStampsModel_heard) none) (mCC d) post (5, [.ref 84, .int (nI s), .int (nI t), .int (nI (cn (fun j => H s j < H t j) c)), .int (nI c)], [], (0, 0), h1) := by
    refine down 64 ?_ ?_
    · intro h1 e1 ⟨g, g1, g2, g3, g4⟩
      have h0' := (e1 84 (by decide)).trans h0
      have k1' := (e1 87 (by decide)).trans k1
      refine ab_W.go (mm _) 2 (c' := (9, [.ref 84, .int (nI s), .int (nI t), .int (nI (cn (fun j => H s j < H t j) 64)), .int (nI 64)], [.int (nI 64), .int (nI 64)], (0, 0), h1)) rfl ?_
      refine ab_W.itT (mm _) (p := (nI 64) ≤ (nI 64)) (c1 := (72, [.ref 84, .int (nI s), .int (nI t), .int (nI (cn (fun j => H s j < H t j) 64)), .int (nI 64)], [], (0, 0), h1)) (c2 := (12, [.ref 84, .int (nI s), .int (nI t), .int (nI (cn (fun j => H s j < H t j) 64)), .int (nI 64)], [], (0, 0), h1)) rfl ((by decide)) ?_
      refine ab_W.go (mm _) 1 (c' := (73, [.ref 84, .int (nI s), .int (nI t), .int (nI (cn (fun j => H s j < H t j) 64)), .int (nI 64)], [.ref 84], (0, 0), h1)) rfl ?_
      refine ab_W.o (mm _) (h0') rfl (c' := (76, [.ref 84, .int (nI s), .int (nI t), .int (nI (cn (fun j => H s j < H t j) 64)), .int (nI 64)], [.ref 87], (0, 0), h1)) rfl ?_
      refine ab_W.go (mm _) 2 (c' := (78, [.ref 84, .int (nI s), .int (nI t), .int (nI (cn (fun j => H s j < H t j) 64)), .int (nI 64)], [.int (nI s), .ref 87, .int (nI s), .ref 87], (0, 0), h1)) rfl ?_
      refine ab_W.lald (mm _) (j := s) (k1') rfl (by omega) rfl rfl ?_
      show ab_W _ _ _ (79, [.ref 84, .int (nI s), .int (nI t), .int (nI (cn (fun j => H s j < H t j) 64)), .int (nI 64)], [.long (gk s), .int (nI s), .ref 87], (0, 0), h1)
      refine ab_W.topl (k2 s hs) ?_
      refine ab_W.go (mm _) 1 (c' := (80, [.ref 84, .int (nI s), .int (nI t), .int (nI (cn (fun j => H s j < H t j) 64)), .int (nI 64)], [.ref 84, .long (K s), .int (nI s), .ref 87], (0, 0), h1)) rfl ?_
      refine ab_W.o (mm _) (h0') rfl (c' := (83, [.ref 84, .int (nI s), .int (nI t), .int (nI (cn (fun j => H s j < H t j) 64)), .int (nI 64)], [.ref 87, .long (K s), .int (nI s), .ref 87], (0, 0), h1)) rfl ?_
      refine ab_W.go (mm _) 1 (c' := (84, [.ref 84, .int (nI s), .int (nI t), .int (nI (cn (fun j => H s j < H t j) 64)), .int (nI 64)], [.int (nI t), .ref 87, .long (K s), .int (nI s), .ref 87], (0, 0), h1)) rfl ?_
      refine ab_W.lald (mm _) (j := t) (k1') rfl (by omega) rfl rfl ?_
      show ab_W _ _ _ (85, [.ref 84, .int (nI s), .int (nI t), .int (nI (cn (fun j => H s j < H t j) 64)), .int (nI 64)], [.long (gk t), .long (K s), .int (nI s), .ref 87], (0, 0), h1)
      refine ab_W.topl (k2 t ht') ?_
      refine ab_W.go (mm _) 1 (c' := (86, [.ref 84, .int (nI s), .int (nI t), .int (nI (cn (fun j => H s j < H t j) 64)), .int (nI 64)], [.long ((K s) ||| (K t)), .int (nI s), .ref 87], (0, 0), h1)) rfl ?_
      refine ab_W.last (mm _) (j := s) (k1') rfl (by omega) rfl rfl ?_
      show ab_W _ _ _ (87, [.ref 84, .int (nI s), .int (nI t), .int (nI (cn (fun j => H s j < H t j) 64)), .int (nI 64)], [], (0, 0), h1.set 87 (.inl (1, 12, .inr (.inl (vp_updL gk s (K s ||| K t))))))
      refine ab_W.go (mm _) 1 (c' := (88, [.ref 84, .int (nI s), .int (nI t), .int (nI (cn (fun j => H s j < H t j) 64)), .int (nI 64)], [.int (nI (cn (fun j => H s j < H t j) 64))], (0, 0), h1.set 87 (.inl (1, 12, .inr (.inl (vp_updL gk s (K s ||| K t))))))) rfl ?_
      refine ab_W.retI (mm _) (rt := some .int) (v := nI (cn (fun j => H s j < H t j) 64)) rfl rfl ?_
      refine hp _ ⟨g, (set_ne (by decide)).trans g1, fun v j hv hj => ?_⟩ (arrL.put k1' k2) (fun i i1 i2 => (set_ne (fun z => i2 z.symm)).trans (e1 i i1))
      by_cases e : v = s
      · rw [e, va_up_self, g3 j hj]
        rfl
      · rw [va_up_ne _ _ e, g2 v j hv hj e]
    · intro c hc ih h1 e1 ⟨g, g1, g2, g3, g4⟩
      have h0' := (e1 84 (by decide)).trans h0
      refine ab_W.go (mm _) 2 (c' := (9, [.ref 84, .int (nI s), .int (nI t), .int (nI (cn (fun j => H s j < H t j) c)), .int (nI c)], [.int (nI 64), .int (nI c)], (0, 0), h1)) rfl ?_
      refine ab_W.itF (mm _) (p := (nI 64) ≤ (nI c)) (c1 := (72, [.ref 84, .int (nI s), .int (nI t), .int (nI (cn (fun j => H s j < H t j) c)), .int (nI c)], [], (0, 0), h1)) (c2 := (12, [.ref 84, .int (nI s), .int (nI t), .int (nI (cn (fun j => H s j < H t j) c)), .int (nI c)], [], (0, 0), h1)) rfl (fun z => absurd ((nI_leI (by omega) (by omega)).mp z) (by omega)) ?_
      refine ab_W.go (mm _) 1 (c' := (13, [.ref 84, .int (nI s), .int (nI t), .int (nI (cn (fun j => H s j < H t j) c)), .int (nI c)], [.ref 84], (0, 0), h1)) rfl ?_
      refine ab_W.o (mm _) (h0') rfl (c' := (16, [.ref 84, .int (nI s), .int (nI t), .int (nI (cn (fun j => H s j < H t j) c)), .int (nI c)], [.ref 88], (0, 0), h1)) rfl ?_
      refine ab_W.go (mm _) 3 (c' := (20, [.ref 84, .int (nI s), .int (nI t), .int (nI (cn (fun j => H s j < H t j) c)), .int (nI c)], [.int ((nI 64) * (nI t)), .ref 88], (0, 0), h1)) rfl ?_
      refine ab_W.topi (pk_mul 64 t) ?_
      refine ab_W.go (mm _) 2 (c' := (23, [.ref 84, .int (nI s), .int (nI t), .int (nI (cn (fun j => H s j < H t j) c)), .int (nI c)], [.int ((nI (64 * t)) + (nI c)), .ref 88], (0, 0), h1)) rfl ?_
      refine ab_W.topi (nI_add (64 * t) c) ?_
      refine ab_W.iald (mm _) (j := 64 * t + c) (g1) (by simp only [nI_add, pk_mul]) (by omega) rfl rfl ?_
      show ab_W _ _ _ (24, [.ref 84, .int (nI s), .int (nI t), .int (nI (cn (fun j => H s j < H t j) c)), .int (nI c)], [.int (g (64 * t + c))], (0, 0), h1)
      refine ab_W.topi (g2 t c ht' hc (fun z => hst z.symm)) ?_
      refine ab_W.go (mm _) 1 (c' := (25, [.ref 84, .int (nI s), .int (nI t), .int (nI (cn (fun j => H s j < H t j) c)), .int (nI c)], [.ref 84, .int (H t c)], (0, 0), h1)) rfl ?_
      refine ab_W.o (mm _) (h0') rfl (c' := (28, [.ref 84, .int (nI s), .int (nI t), .int (nI (cn (fun j => H s j < H t j) c)), .int (nI c)], [.ref 88, .int (H t c)], (0, 0), h1)) rfl ?_
      refine ab_W.go (mm _) 3 (c' := (32, [.ref 84, .int (nI s), .int (nI t), .int (nI (cn (fun j => H s j < H t j) c)), .int (nI c)], [.int ((nI 64) * (nI s)), .ref 88, .int (H t c)], (0, 0), h1)) rfl ?_
      refine ab_W.topi (pk_mul 64 s) ?_
      refine ab_W.go (mm _) 2 (c' := (35, [.ref 84, .int (nI s), .int (nI t), .int (nI (cn (fun j => H s j < H t j) c)), .int (nI c)], [.int ((nI (64 * s)) + (nI c)), .ref 88, .int (H t c)], (0, 0), h1)) rfl ?_
      refine ab_W.topi (nI_add (64 * s) c) ?_
      refine ab_W.iald (mm _) (j := 64 * s + c) (g1) (by simp only [nI_add, pk_mul]) (by omega) rfl rfl ?_
      show ab_W _ _ _ (36, [.ref 84, .int (nI s), .int (nI t), .int (nI (cn (fun j => H s j < H t j) c)), .int (nI c)], [.int (g (64 * s + c)), .int (H t c)], (0, 0), h1)
      refine ab_W.topi (g4 c (Nat.le_refl _) hc) ?_
      refine ab_W.ite (mm _) (p := (H t c) ≤ (H s c)) (c1 := (66, [.ref 84, .int (nI s), .int (nI t), .int (nI (cn (fun j => H s j < H t j) c)), .int (nI c)], [], (0, 0), h1)) (c2 := (39, [.ref 84, .int (nI s), .int (nI t), .int (nI (cn (fun j => H s j < H t j) c)), .int (nI c)], [], (0, 0), h1)) rfl (fun q => ?_) (fun q => ?_)
      · skip
        have q' : ¬ H s c < H t c := Int32.not_lt.mpr q
        rw [cn_f (p := fun j => H s j < H t j) q'] at ih
        refine ab_W.go (mm _) 1 (c' := (69, [.ref 84, .int (nI s), .int (nI t), .int (nI (cn (fun j => H s j < H t j) c)), .int (nI c + nI 1)], [], (0, 0), h1)) rfl ?_
        rw [nI_add c 1]
        refine ab_W.go (mm _) 1 (c' := (5, [.ref 84, .int (nI s), .int (nI t), .int (nI (cn (fun j => H s j < H t j) c)), .int (nI (c + 1))], [], (0, 0), h1)) rfl ?_
        refine ih h1 e1 ⟨g, g1, g2, fun j hj => ?_, fun j j1 j2 => g4 j (by omega) j2⟩
        rcases Nat.lt_or_ge j c with z | z
        · exact g3 j z
        · rw [show j = c by omega, g4 c (Nat.le_refl _) hc]
          exact (if_neg q').symm
      · skip
        have q' : H s c < H t c := Int32.not_le.mp q
        rw [cn_t (p := fun j => H s j < H t j) q'] at ih
        refine ab_W.go (mm _) 1 (c' := (40, [.ref 84, .int (nI s), .int (nI t), .int (nI (cn (fun j => H s j < H t j) c)), .int (nI c)], [.ref 84], (0, 0), h1)) rfl ?_
        refine ab_W.o (mm _) (h0') rfl (c' := (43, [.ref 84, .int (nI s), .int (nI t), .int (nI (cn (fun j => H s j < H t j) c)), .int (nI c)], [.ref 88], (0, 0), h1)) rfl ?_
        refine ab_W.go (mm _) 3 (c' := (47, [.ref 84, .int (nI s), .int (nI t), .int (nI (cn (fun j => H s j < H t j) c)), .int (nI c)], [.int ((nI 64) * (nI s)), .ref 88], (0, 0), h1)) rfl ?_
        refine ab_W.topi (pk_mul 64 s) ?_
        refine ab_W.go (mm _) 2 (c' := (50, [.ref 84, .int (nI s), .int (nI t), .int (nI (cn (fun j => H s j < H t j) c)), .int (nI c)], [.int ((nI (64 * s)) + (nI c)), .ref 88], (0, 0), h1)) rfl ?_
        refine ab_W.topi (nI_add (64 * s) c) ?_
        refine ab_W.go (mm _) 1 (c' := (51, [.ref 84, .int (nI s), .int (nI t), .int (nI (cn (fun j => H s j < H t j) c)), .int (nI c)], [.ref 84, .int (nI ((64 * s) + c)), .ref 88], (0, 0), h1)) rfl ?_
        refine ab_W.o (mm _) (h0') rfl (c' := (54, [.ref 84, .int (nI s), .int (nI t), .int (nI (cn (fun j => H s j < H t j) c)), .int (nI c)], [.ref 88, .int (nI ((64 * s) + c)), .ref 88], (0, 0), h1)) rfl ?_
        refine ab_W.go (mm _) 3 (c' := (58, [.ref 84, .int (nI s), .int (nI t), .int (nI (cn (fun j => H s j < H t j) c)), .int (nI c)], [.int ((nI 64) * (nI t)), .ref 88, .int (nI ((64 * s) + c)), .ref 88], (0, 0), h1)) rfl ?_
        refine ab_W.topi (pk_mul 64 t) ?_
        refine ab_W.go (mm _) 2 (c' := (61, [.ref 84, .int (nI s), .int (nI t), .int (nI (cn (fun j => H s j < H t j) c)), .int (nI c)], [.int ((nI (64 * t)) + (nI c)), .ref 88, .int (nI ((64 * s) + c)), .ref 88], (0, 0), h1)) rfl ?_
        refine ab_W.topi (nI_add (64 * t) c) ?_
        refine ab_W.iald (mm _) (j := 64 * t + c) (g1) (by simp only [nI_add, pk_mul]) (by omega) rfl rfl ?_
        show ab_W _ _ _ (62, [.ref 84, .int (nI s), .int (nI t), .int (nI (cn (fun j => H s j < H t j) c)), .int (nI c)], [.int (g (64 * t + c)), .int (nI ((64 * s) + c)), .ref 88], (0, 0), h1)
        refine ab_W.topi (g2 t c ht' hc (fun z => hst z.symm)) ?_
        refine ab_W.iast (mm _) (j := 64 * s + c) (g1) (by simp only [nI_add, pk_mul]) (by omega) rfl rfl ?_
        show ab_W _ _ _ (63, [.ref 84, .int (nI s), .int (nI t), .int (nI (cn (fun j => H s j < H t j) c)), .int (nI c)], [], (0, 0), h1.set 88 (.inl (0, 64 * 12, .inl (upd g (64 * s + c) (H t c)))))
        refine ab_W.go (mm _) 1 (c' := (66, [.ref 84, .int (nI s), .int (nI t), .int (nI (cn (fun j => H s j < H t j) c) + nI 1), .int (nI c)], [], (0, 0), h1.set 88 (.inl (0, 64 * 12, .inl (upd g (64 * s + c) (H t c)))))) rfl ?_
        rw [nI_add (cn (fun j => H s j < H t j) c) 1]
        refine ab_W.go (mm _) 1 (c' := (69, [.ref 84, .int (nI s), .int (nI t), .int (nI ((cn (fun j => H s j < H t j) c) + 1)), .int (nI c + nI 1)], [], (0, 0), h1.set 88 (.inl (0, 64 * 12, .inl (upd g (64 * s + c) (H t c)))))) rfl ?_
        rw [nI_add c 1]
        refine ab_W.go (mm _) 1 (c' := (5, [.ref 84, .int (nI s), .int (nI t), .int (nI ((cn (fun j => H s j < H t j) c) + 1)), .int (nI (c + 1))], [], (0, 0), h1.set 88 (.inl (0, 64 * 12, .inl (upd g (64 * s + c) (H t c)))))) rfl ?_
        refine ih _ (fun i hi => (set_ne (fun z => hi z.symm)).trans (e1 i hi)) ⟨_, set_at g1, fun v j hv hj hvs => ?_, fun j hj => ?_, fun j j1 j2 => ?_⟩
        · rw [upd_no _ _ (by omega)]
          exact g2 v j hv hj hvs
        · rcases Nat.lt_or_ge j c with z | z
          · rw [upd_no _ _ (by omega)]
            exact g3 j z
          · rw [show j = c by omega, upd_at]
            exact (if_pos q').symm
        · rw [upd_no _ _ (by omega)]
          exact g4 j (by omega) j2
  obtain ⟨g, g1, g2⟩ := hH
  refine ⟨rfl, ?_⟩
  show ab_W _ _ _ (0, [.ref 84, .int (nI s), .int (nI t), .retAddr 0, .retAddr 0], [], (0, 0), h)
  refine ab_W.go (mm _) 4 (c' := (5, [.ref 84, .int (nI s), .int (nI t), .int (nI 0), .int (nI 0)], [], (0, 0), h)) rfl ?_
  exact loop 0 (Nat.zero_le _) h (fun _ _ => rfl) ⟨g, g1, fun v j hv hj _ => g2 v j hv hj, fun j hj => absurd hj (Nat.not_lt_zero _), fun j _ hj => g2 s j hs hj⟩
theorem sp_morder (d : Nat) {h : ab_H} {hap sz op : Int32} {H : Nat → Nat → Int32} {s t : Nat} (h0 : h[84]? = some (mObj hap sz op)) (hH : arrH h 88 12 H) (hs : s < 12) (ht' : t < 12) {post : ab_P} (hp : post (some (.int (nI (ordN (H s) (H t))))) h) : mCC (d + 1) kSpanStampsModel_orderOf [.ref 84, .int (nI s), .int (nI t)] h post := by
  obtain ⟨g, g1, g2⟩ := hH
  have loop : ∀ c, c ≤ 64 → ∀ L G : Bool, (L = true ↔ ∃ j, j < c ∧ H s j < H t j) → (G = true ↔ ∃ j, j < c ∧ H t j < H s j) → ab_W (ab_st (mT kSpanStampsModel_orderOf) mB mF (mR kSpanStampsModel_orderOf) none) (mCC d) post (8, [.ref 84, .int (nI s), .int (nI t), .int (b2i L), .int (b2i G), .int (nI c)], [], (0, 0), h) := by
    refine down 64 ?_ ?_
    · intro L G hL hG
      refine ab_W.go (mm _) 2 (c' := (12, [.ref 84, .int (nI s), .int (nI t), .int (b2i L), .int (b2i G), .int (nI 64)], [.int (nI 64), .int (nI 64)], (0, 0), h)) rfl ?_
      refine ab_W.itT (mm _) (p := (nI 64) ≤ (nI 64)) (c1 := (97, [.ref 84, .int (nI s), .int (nI t), .int (b2i L), .int (b2i G), .int (nI 64)], [], (0, 0), h)) (c2 := (15, [.ref 84, .int (nI s), .int (nI t), .int (b2i L), .int (b2i G), .int (nI 64)], [], (0, 0), h)) rfl ((by decide)) ?_
      refine ab_W.go (mm _) 1 (c' := (98, [.ref 84, .int (nI s), .int (nI t), .int (b2i L), .int (b2i G), .int (nI 64)], [.int (b2i L)], (0, 0), h)) rfl ?_
      unfold ordN at hp
      cases L with
      | false =>
        rw [ci_f (fun z => by have := hL.mpr z; cases this)] at hp
        show ab_W _ _ _ (98, [.ref 84, .int (nI s), .int (nI t), .int (nI 0), .int (b2i G), .int (nI 64)], [.int (nI 0)], (0, 0), h)
        refine ab_W.itT (mm _) (p := (nI 0) = 0) (c1 := (114, [.ref 84, .int (nI s), .int (nI t), .int (nI 0), .int (b2i G), .int (nI 64)], [], (0, 0), h)) (c2 := (101, [.ref 84, .int (nI s), .int (nI t), .int (nI 0), .int (b2i G), .int (nI 64)], [], (0, 0), h)) rfl (nI_0) ?_
        refine ab_W.go (mm _) 1 (c' := (116, [.ref 84, .int (nI s), .int (nI t), .int (nI 0), .int (b2i G), .int (nI 64)], [.int (b2i G)], (0, 0), h)) rfl ?_
        cases G with
        | false =>
          rw [ci_f (fun z => by have := hG.mpr z; cases this)] at hp
          show ab_W _ _ _ (116, [.ref 84, .int (nI s), .int (nI t), .int (nI 0), .int (nI 0), .int (nI 64)], [.int (nI 0)], (0, 0), h)
          refine ab_W.itT (mm _) (p := (nI 0) = 0) (c1 := (123, [.ref 84, .int (nI s), .int (nI t), .int (nI 0), .int (nI 0), .int (nI 64)], [], (0, 0), h)) (c2 := (119, [.ref 84, .int (nI s), .int (nI t), .int (nI 0), .int (nI 0), .int (nI 64)], [], (0, 0), h)) rfl (nI_0) ?_
          refine ab_W.go (mm _) 1 (c' := (124, [.ref 84, .int (nI s), .int (nI t), .int (nI 0), .int (nI 0), .int (nI 64)], [.int (nI 0)], (0, 0), h)) rfl ?_
          refine ab_W.retI (mm _) (rt := some .int) (v := nI 0) rfl rfl ?_
          exact hp
        | true =>
          rw [ci_t (hG.mp rfl)] at hp
          show ab_W _ _ _ (116, [.ref 84, .int (nI s), .int (nI t), .int (nI 0), .int (nI 1), .int (nI 64)], [.int (nI 1)], (0, 0), h)
          refine ab_W.itF (mm _) (p := (nI 1) = 0) (c1 := (123, [.ref 84, .int (nI s), .int (nI t), .int (nI 0), .int (nI 1), .int (nI 64)], [], (0, 0), h)) (c2 := (119, [.ref 84, .int (nI s), .int (nI t), .int (nI 0), .int (nI 1), .int (nI 64)], [], (0, 0), h)) rfl (nI_ne01) ?_
          refine ab_W.go (mm _) 2 (c' := (124, [.ref 84, .int (nI s), .int (nI t), .int (nI 0), .int (nI 1), .int (nI 64)], [.int (nI 2)], (0, 0), h)) rfl ?_
          refine ab_W.retI (mm _) (rt := some .int) (v := nI 2) rfl rfl ?_
          exact hp
      | true =>
        rw [ci_t (hL.mp rfl)] at hp
        show ab_W _ _ _ (98, [.ref 84, .int (nI s), .int (nI t), .int (nI 1), .int (b2i G), .int (nI 64)], [.int (nI 1)], (0, 0), h)
        refine ab_W.itF (mm _) (p := (nI 1) = 0) (c1 := (114, [.ref 84, .int (nI s), .int (nI t), .int (nI 1), .int (b2i G), .int (nI 64)], [], (0, 0), h)) (c2 := (101, [.ref 84, .int (nI s), .int (nI t), .int (nI 1), .int (b2i G), .int (nI 64)], [], (0, 0), h)) rfl (nI_ne01) ?_
        refine ab_W.go (mm _) 1 (c' := (103, [.ref 84, .int (nI s), .int (nI t), .int (nI 1), .int (b2i G), .int (nI 64)], [.int (b2i G)], (0, 0), h)) rfl ?_
        cases G with
        | false =>
          rw [ci_f (fun z => by have := hG.mpr z; cases this)] at hp
          show ab_W _ _ _ (103, [.ref 84, .int (nI s), .int (nI t), .int (nI 1), .int (nI 0), .int (nI 64)], [.int (nI 0)], (0, 0), h)
          refine ab_W.itT (mm _) (p := (nI 0) = 0) (c1 := (110, [.ref 84, .int (nI s), .int (nI t), .int (nI 1), .int (nI 0), .int (nI 64)], [], (0, 0), h)) (c2 := (106, [.ref 84, .int (nI s), .int (nI t), .int (nI 1), .int (nI 0), .int (nI 64)], [], (0, 0), h)) rfl (nI_0) ?_
          refine ab_W.go (mm _) 2 (c' := (124, [.ref 84, .int (nI s), .int (nI t), .int (nI 1), .int (nI 0), .int (nI 64)], [.int (nI 1)], (0, 0), h)) rfl ?_
          refine ab_W.retI (mm _) (rt := some .int) (v := nI 1) rfl rfl ?_
          exact hp
        | true =>
          rw [ci_t (hG.mp rfl)] at hp
          show ab_W _ _ _ (103, [.ref 84, .int (nI s), .int (nI t), .int (nI 1), .int (nI 1), .int (nI 64)], [.int (nI 1)], (0, 0), h)
          refine ab_W.itF (mm _) (p := (nI 1) = 0) (c1 := (110, [.ref 84, .int (nI s), .int (nI t), .int (nI 1), .int (nI 1), .int (nI 64)], [], (0, 0), h)) (c2 := (106, [.ref 84, .int (nI s), .int (nI t), .int (nI 1), .int (nI 1), .int (nI 64)], [], (0, 0), h)) rfl (nI_ne01) ?_
          refine ab_W.go (mm _) 2 (c' := (124, [.ref 84, .int (nI s), .int (nI t), .int (nI 1), .int (nI 1), .int (nI 64)], [.int (nI 3)], (0, 0), h)) rfl ?_
          refine ab_W.retI (mm _) (rt := some .int) (v := nI 3) rfl rfl ?_
          exact hp
    · intro c hc ih L G hL hG
      have low : ∀ D : Bool, (D = true ↔ (L = true ∨ H s c < H t c)) → ab_W (ab_st (mT kSpanStampsModel_orderOf) mB mF (mR kSpanStampsModel_orderOf) none) (mCC d) post (52, [.ref 84, .int (nI s), .int (nI t), .int (b2i D), .int (b2i G), .int (nI c)], [], (0, 0), h) := by
        intro D hD
        have hD2 := ex_s hL D hD
        refine ab_W.go (mm _) 1 (c' := (54, [.ref 84, .int (nI s), .int (nI t), .int (b2i D), .int (b2i G), .int (nI c)], [.int (b2i G)], (0, 0), h)) rfl ?_
        cases G with
        | true =>
          show ab_W _ _ _ (54, [.ref 84, .int (nI s), .int (nI t), .int (b2i D), .int (nI 1), .int (nI c)], [.int (nI 1)], (0, 0), h)
          refine ab_W.itF (mm _) (p := (nI 1) = 0) (c1 := (57, [.ref 84, .int (nI s), .int (nI t), .int (b2i D), .int (nI 1), .int (nI c)], [], (0, 0), h)) (c2 := (84, [.ref 84, .int (nI s), .int (nI t), .int (b2i D), .int (nI 1), .int (nI c)], [], (0, 0), h)) rfl (nI_ne01) ?_
          refine ab_W.go (mm _) 4 (c' := (94, [.ref 84, .int (nI s), .int (nI t), .int (b2i D), .int (nI 1), .int (nI c + nI 1)], [], (0, 0), h)) rfl ?_
          rw [nI_add c 1]
          refine ab_W.go (mm _) 1 (c' := (8, [.ref 84, .int (nI s), .int (nI t), .int (b2i D), .int (nI 1), .int (nI (c + 1))], [], (0, 0), h)) rfl ?_
          exact ih D true hD2 (ex_s hG true ⟨fun _ => Or.inl rfl, fun _ => rfl⟩)
        | false =>
          show ab_W _ _ _ (54, [.ref 84, .int (nI s), .int (nI t), .int (b2i D), .int (nI 0), .int (nI c)], [.int (nI 0)], (0, 0), h)
          refine ab_W.itT (mm _) (p := (nI 0) = 0) (c1 := (57, [.ref 84, .int (nI s), .int (nI t), .int (b2i D), .int (nI 0), .int (nI c)], [], (0, 0), h)) (c2 := (84, [.ref 84, .int (nI s), .int (nI t), .int (b2i D), .int (nI 0), .int (nI c)], [], (0, 0), h)) rfl (nI_0) ?_
          refine ab_W.go (mm _) 1 (c' := (58, [.ref 84, .int (nI s), .int (nI t), .int (b2i D), .int (nI 0), .int (nI c)], [.ref 84], (0, 0), h)) rfl ?_
          refine ab_W.o (mm _) (h0) rfl (c' := (61, [.ref 84, .int (nI s), .int (nI t), .int (b2i D), .int (nI 0), .int (nI c)], [.ref 88], (0, 0), h)) rfl ?_
          refine ab_W.go (mm _) 3 (c' := (65, [.ref 84, .int (nI s), .int (nI t), .int (b2i D), .int (nI 0), .int (nI c)], [.int ((nI 64) * (nI s)), .ref 88], (0, 0), h)) rfl ?_
          refine ab_W.topi (pk_mul 64 s) ?_
          refine ab_W.go (mm _) 2 (c' := (68, [.ref 84, .int (nI s), .int (nI t), .int (b2i D), .int (nI 0), .int (nI c)], [.int ((nI (64 * s)) + (nI c)), .ref 88], (0, 0), h)) rfl ?_
          refine ab_W.topi (nI_add (64 * s) c) ?_
          refine ab_W.iald (mm _) (j := 64 * s + c) (g1) (by simp only [nI_add, pk_mul]) (by omega) rfl rfl ?_
          show ab_W _ _ _ (69, [.ref 84, .int (nI s), .int (nI t), .int (b2i D), .int (nI 0), .int (nI c)], [.int (g (64 * s + c))], (0, 0), h)
          refine ab_W.topi (g2 s c hs hc) ?_
          refine ab_W.go (mm _) 1 (c' := (70, [.ref 84, .int (nI s), .int (nI t), .int (b2i D), .int (nI 0), .int (nI c)], [.ref 84, .int (H s c)], (0, 0), h)) rfl ?_
          refine ab_W.o (mm _) (h0) rfl (c' := (73, [.ref 84, .int (nI s), .int (nI t), .int (b2i D), .int (nI 0), .int (nI c)], [.ref 88, .int (H s c)], (0, 0), h)) rfl ?_
          refine ab_W.go (mm _) 3 (c' := (77, [.ref 84, .int (nI s), .int (nI t), .int (b2i D), .int (nI 0), .int (nI c)], [.int ((nI 64) * (nI t)), .ref 88, .int (H s c)], (0, 0), h)) rfl ?_
          refine ab_W.topi (pk_mul 64 t) ?_
          refine ab_W.go (mm _) 2 (c' := (80, [.ref 84, .int (nI s), .int (nI t), .int (b2i D), .int (nI 0), .int (nI c)], [.int ((nI (64 * t)) + (nI c)), .ref 88, .int (H s c)], (0, 0), h)) rfl ?_
          refine ab_W.topi (nI_add (64 * t) c) ?_
          refine ab_W.iald (mm _) (j := 64 * t + c) (g1) (by simp only [nI_add, pk_mul]) (by omega) rfl rfl ?_
          show ab_W _ _ _ (81, [.ref 84, .int (nI s), .int (nI t), .int (b2i D), .int (nI 0), .int (nI c)], [.int (g (64 * t + c)), .int (H s c)], (0, 0), h)
          refine ab_W.topi (g2 t c ht' hc) ?_
          refine ab_W.ite (mm _) (p := (H s c) ≤ (H t c)) (c1 := (88, [.ref 84, .int (nI s), .int (nI t), .int (b2i D), .int (nI 0), .int (nI c)], [], (0, 0), h)) (c2 := (84, [.ref 84, .int (nI s), .int (nI t), .int (b2i D), .int (nI 0), .int (nI c)], [], (0, 0), h)) rfl (fun q => ?_) (fun q => ?_)
          · skip
            refine ab_W.go (mm _) 3 (c' := (94, [.ref 84, .int (nI s), .int (nI t), .int (b2i D), .int (nI 0), .int (nI c + nI 1)], [], (0, 0), h)) rfl ?_
            rw [nI_add c 1]
            refine ab_W.go (mm _) 1 (c' := (8, [.ref 84, .int (nI s), .int (nI t), .int (b2i D), .int (nI 0), .int (nI (c + 1))], [], (0, 0), h)) rfl ?_
            exact ih D false hD2 (ex_s hG false ⟨fun z => (by cases z), fun z => z.elim (fun y => by cases y) (fun y => absurd y (Int32.not_lt.mpr q))⟩)
          · skip
            refine ab_W.go (mm _) 4 (c' := (94, [.ref 84, .int (nI s), .int (nI t), .int (b2i D), .int (nI 1), .int (nI c + nI 1)], [], (0, 0), h)) rfl ?_
            rw [nI_add c 1]
            refine ab_W.go (mm _) 1 (c' := (8, [.ref 84, .int (nI s), .int (nI t), .int (b2i D), .int (nI 1), .int (nI (c + 1))], [], (0, 0), h)) rfl ?_
            exact ih D true hD2 (ex_s hG true ⟨fun _ => Or.inr (Int32.not_le.mp q), fun _ => rfl⟩)
      refine ab_W.go (mm _) 2 (c' := (12, [.ref 84, .int (nI s), .int (nI t), .int (b2i L), .int (b2i G), .int (nI c)], [.int (nI 64), .int (nI c)], (0, 0), h)) rfl ?_
      refine ab_W.itF (mm _) (p := (nI 64) ≤ (nI c)) (c1 := (97, [.ref 84, .int (nI s), .int (nI t), .int (b2i L), .int (b2i G), .int (nI c)], [], (0, 0), h)) (c2 := (15, [.ref 84, .int (nI s), .int (nI t), .int (b2i L), .int (b2i G), .int (nI c)], [], (0, 0), h)) rfl (fun z => absurd ((nI_leI (by omega) (by omega)).mp z) (by omega)) ?_
      refine ab_W.go (mm _) 1 (c' := (16, [.ref 84, .int (nI s), .int (nI t), .int (b2i L), .int (b2i G), .int (nI c)], [.int (b2i L)], (0, 0), h)) rfl ?_
      cases L with
      | true =>
        show ab_W _ _ _ (16, [.ref 84, .int (nI s), .int (nI t), .int (nI 1), .int (b2i G), .int (nI c)], [.int (nI 1)], (0, 0), h)
        refine ab_W.itF (mm _) (p := (nI 1) = 0) (c1 := (19, [.ref 84, .int (nI s), .int (nI t), .int (nI 1), .int (b2i G), .int (nI c)], [], (0, 0), h)) (c2 := (46, [.ref 84, .int (nI s), .int (nI t), .int (nI 1), .int (b2i G), .int (nI c)], [], (0, 0), h)) rfl (nI_ne01) ?_
        refine ab_W.go (mm _) 3 (c' := (52, [.ref 84, .int (nI s), .int (nI t), .int (nI 1), .int (b2i G), .int (nI c)], [], (0, 0), h)) rfl ?_
        exact low true ⟨fun _ => Or.inl rfl, fun _ => rfl⟩
      | false =>
        show ab_W _ _ _ (16, [.ref 84, .int (nI s), .int (nI t), .int (nI 0), .int (b2i G), .int (nI c)], [.int (nI 0)], (0, 0), h)
        refine ab_W.itT (mm _) (p := (nI 0) = 0) (c1 := (19, [.ref 84, .int (nI s), .int (nI t), .int (nI 0), .int (b2i G), .int (nI c)], [], (0, 0), h)) (c2 := (46, [.ref 84, .int (nI s), .int (nI t), .int (nI 0), .int (b2i G), .int (nI c)], [], (0, 0), h)) rfl (nI_0) ?_
        refine ab_W.go (mm _) 1 (c' := (20, [.ref 84, .int (nI s), .int (nI t), .int (nI 0), .int (b2i G), .int (nI c)], [.ref 84], (0, 0), h)) rfl ?_
        refine ab_W.o (mm _) (h0) rfl (c' := (23, [.ref 84, .int (nI s), .int (nI t), .int (nI 0), .int (b2i G), .int (nI c)], [.ref 88], (0, 0), h)) rfl ?_
        refine ab_W.go (mm _) 3 (c' := (27, [.ref 84, .int (nI s), .int (nI t), .int (nI 0), .int (b2i G), .int (nI c)], [.int ((nI 64) * (nI s)), .ref 88], (0, 0), h)) rfl ?_
        refine ab_W.topi (pk_mul 64 s) ?_
        refine ab_W.go (mm _) 2 (c' := (30, [.ref 84, .int (nI s), .int (nI t), .int (nI 0), .int (b2i G), .int (nI c)], [.int ((nI (64 * s)) + (nI c)), .ref 88], (0, 0), h)) rfl ?_
        refine ab_W.topi (nI_add (64 * s) c) ?_
        refine ab_W.iald (mm _) (j := 64 * s + c) (g1) (by simp only [nI_add, pk_mul]) (by omega) rfl rfl ?_
        show ab_W _ _ _ (31, [.ref 84, .int (nI s), .int (nI t), .int (nI 0), .int (b2i G), .int (nI c)], [.int (g (64 * s + c))], (0, 0), h)
        refine ab_W.topi (g2 s c hs hc) ?_
        refine ab_W.go (mm _) 1 (c' := (32, [.ref 84, .int (nI s), .int (nI t), .int (nI 0), .int (b2i G), .int (nI c)], [.ref 84, .int (H s c)], (0, 0), h)) rfl ?_
        refine ab_W.o (mm _) (h0) rfl (c' := (35, [.ref 84, .int (nI s), .int (nI t), .int (nI 0), .int (b2i G), .int (nI c)], [.ref 88, .int (H s c)], (0, 0), h)) rfl ?_
        refine ab_W.go (mm _) 3 (c' := (39, [.ref 84, .int (nI s), .int (nI t), .int (nI 0), .int (b2i G), .int (nI c)], [.int ((nI 64) * (nI t)), .ref 88, .int (H s c)], (0, 0), h)) rfl ?_
        refine ab_W.topi (pk_mul 64 t) ?_
        refine ab_W.go (mm _) 2 (c' := (42, [.ref 84, .int (nI s), .int (nI t), .int (nI 0), .int (b2i G), .int (nI c)], [.int ((nI (64 * t)) + (nI c)), .ref 88, .int (H s c)], (0, 0), h)) rfl ?_
        refine ab_W.topi (nI_add (64 * t) c) ?_
        refine ab_W.iald (mm _) (j := 64 * t + c) (g1) (by simp only [nI_add, pk_mul]) (by omega) rfl rfl ?_
        show ab_W _ _ _ (43, [.ref 84, .int (nI s), .int (nI t), .int (nI 0), .int (b2i G), .int (nI c)], [.int (g (64 * t + c)), .int (H s c)], (0, 0), h)
        refine ab_W.topi (g2 t c ht' hc) ?_
        refine ab_W.ite (mm _) (p := (H t c) ≤ (H s c)) (c1 := (50, [.ref 84, .int (nI s), .int (nI t), .int (nI 0), .int (b2i G), .int (nI c)], [], (0, 0), h)) (c2 := (46, [.ref 84, .int (nI s), .int (nI t), .int (nI 0), .int (b2i G), .int (nI c)], [], (0, 0), h)) rfl (fun q => ?_) (fun q => ?_)
        · skip
          refine ab_W.go (mm _) 2 (c' := (52, [.ref 84, .int (nI s), .int (nI t), .int (nI 0), .int (b2i G), .int (nI c)], [], (0, 0), h)) rfl ?_
          exact low false ⟨fun z => (by cases z), fun z => z.elim (fun y => by cases y) (fun y => absurd y (Int32.not_lt.mpr q))⟩
        · skip
          refine ab_W.go (mm _) 3 (c' := (52, [.ref 84, .int (nI s), .int (nI t), .int (nI 1), .int (b2i G), .int (nI c)], [], (0, 0), h)) rfl ?_
          exact low true ⟨fun _ => Or.inr (Int32.not_le.mp q), fun _ => rfl⟩
  refine ⟨rfl, ?_⟩
  show ab_W _ _ _ (0, [.ref 84, .int (nI s), .int (nI t), .retAddr 0, .retAddr 0, .retAddr 0], [], (0, 0), h)
  refine ab_W.go (mm _) 6 (c' := (8, [.ref 84, .int (nI s), .int (nI t), .int (nI 0), .int (nI 0), .int (nI 0)], [], (0, 0), h)) rfl ?_
  exact loop 0 (Nat.zero_le _) false false ⟨fun z => (by cases z), fun ⟨j, z, _⟩ => absurd z (Nat.not_lt_zero _)⟩ ⟨fun z => (by cases z), fun ⟨j, z, _⟩ => absurd z (Nat.not_lt_zero _)⟩
theorem sp_madd (d : Nat) {h : ab_H} {hap sz op : Int32} {c : Ci} {s t : Nat} (h0 : h[84]? = some (mObj hap sz op)) (hB : arrB h 85 12 (pr c)) (hN : arrL h 86 12 (nm c)) (hK : arrL h 87 12 (kn c)) (hH : arrH h 88 12 (ht c)) (hs : s < 12) (hx : pr c s = true) (hf : free1 c t) {post : ab_P} (hp : ∀ h', arrB h' 85 12 (va_up (pr c) t true) → arrL h' 86 12 (va_up (nm c) t (lN 0)) → arrL h' 87 12 (va_up (kn c) t (kn c s)) → arrH h' 88 12 (va_up (ht c) t (ht c s)) → (∀ i, i < 85 ∨ 88 < i → h'[i]? = h[i]?) → post (some (.int (nI t))) h') : mCC (d + 2) kSpanStampsModel_add [.ref 84, .int (nI s)] h post := by
  have hne : s ≠ t := fun z => by rw [z, hf.2.1] at hx; cases hx
  obtain ⟨gB, b1, b2⟩ := id hB
  obtain ⟨gN, n1, n2⟩ := id hN
  obtain ⟨gK, k1, k2⟩ := id hK
  have ht' := hf.1
  refine ⟨rfl, ?_⟩
  show ab_W _ _ _ (0, [.ref 84, .int (nI s), .retAddr 0], [], (0, 0), h)
  refine ab_W.go (mm _) 1 (c' := (1, [.ref 84, .int (nI s), .retAddr 0], [.ref 84], (0, 0), h)) rfl ?_
  refine ab_W.callV (mm _) (h0) rfl (k := 69) (av := [.ref 84]) (c' := (4, [.ref 84, .int (nI s), .retAddr 0], [], (0, 0), h)) rfl ?_
  refine sp_mfree _ h0 hB (fun v hv => ?_)
  have ev : v = nI t := by
    rcases hv with ⟨t', f', rfl⟩ | ⟨al, -⟩
    · rw [free1_one f' hf]
    · have := al t hf.1
      rw [hf.2.1] at this
      cases this
  subst ev
  show ab_W _ _ _ (4, [.ref 84, .int (nI s), .retAddr 0], [.int (nI t)], (0, 0), h)
  refine ab_W.go (mm _) 2 (c' := (6, [.ref 84, .int (nI s), .int (nI t)], [.int (nI t)], (0, 0), h)) rfl ?_
  refine ab_W.itF (mm _) (p := (nI t) < 0) (c1 := (41, [.ref 84, .int (nI s), .int (nI t)], [], (0, 0), h)) (c2 := (9, [.ref 84, .int (nI s), .int (nI t)], [], (0, 0), h)) rfl (nI_pos (by omega)) ?_
  refine ab_W.go (mm _) 1 (c' := (10, [.ref 84, .int (nI s), .int (nI t)], [.ref 84], (0, 0), h)) rfl ?_
  refine ab_W.o (mm _) (h0) rfl (c' := (13, [.ref 84, .int (nI s), .int (nI t)], [.ref 85], (0, 0), h)) rfl ?_
  refine ab_W.go (mm _) 2 (c' := (15, [.ref 84, .int (nI s), .int (nI t)], [.int (nI 1), .int (nI t), .ref 85], (0, 0), h)) rfl ?_
  refine ab_W.bast (mm _) (j := t) (b1) rfl (by omega) rfl (by decide) rfl ?_
  show ab_W _ _ _ (16, [.ref 84, .int (nI s), .int (nI t)], [], (0, 0), h.set 85 (.inl (2, 12, .inl (upd gB t (nI 1)))))
  obtain ⟨h1, e1⟩ : ∃ h1, h1 = h.set 85 (.inl (2, 12, .inl (upd gB t (nI 1)))) := ⟨_, rfl⟩
  have q1 : ∀ i, i ≠ 85 → h1[i]? = h[i]? := fun i hi => by rw [e1]; exact set_ne (fun z => hi z.symm)
  have B1 : arrB h1 85 12 (va_up (pr c) t true) := by rw [e1]; exact arrB.put (v := true) b1 b2
  refine ab_W.hp (e1.symm) ?_
  show ab_W _ _ _ (16, [.ref 84, .int (nI s), .int (nI t)], [], (0, 0), h1)
  refine ab_W.go (mm _) 1 (c' := (17, [.ref 84, .int (nI s), .int (nI t)], [.ref 84], (0, 0), h1)) rfl ?_
  refine ab_W.o (mm _) ((q1 84 (by decide)).trans h0) rfl (c' := (20, [.ref 84, .int (nI s), .int (nI t)], [.ref 86], (0, 0), h1)) rfl ?_
  refine ab_W.go (mm _) 2 (c' := (22, [.ref 84, .int (nI s), .int (nI t)], [.long (lN 0), .int (nI t), .ref 86], (0, 0), h1)) rfl ?_
  refine ab_W.last (mm _) (j := t) ((q1 86 (by decide)).trans n1) rfl (by omega) rfl rfl ?_
  show ab_W _ _ _ (23, [.ref 84, .int (nI s), .int (nI t)], [], (0, 0), h1.set 86 (.inl (1, 12, .inr (.inl (vp_updL gN t (lN 0))))))
  obtain ⟨h2, e2⟩ : ∃ h2, h2 = h1.set 86 (.inl (1, 12, .inr (.inl (vp_updL gN t (lN 0))))) := ⟨_, rfl⟩
  have q2 : ∀ i, i ≠ 86 → h2[i]? = h1[i]? := fun i hi => by rw [e2]; exact set_ne (fun z => hi z.symm)
  have N2 : arrL h2 86 12 (va_up (nm c) t (lN 0)) := by rw [e2]; exact arrL.put ((q1 86 (by decide)).trans n1) n2
  have r2 : ∀ i, i ≠ 85 → i ≠ 86 → h2[i]? = h[i]? := fun i i1 i2 => (q2 i i2).trans (q1 i i1)
  refine ab_W.hp (e2.symm) ?_
  show ab_W _ _ _ (23, [.ref 84, .int (nI s), .int (nI t)], [], (0, 0), h2)
  refine ab_W.go (mm _) 1 (c' := (24, [.ref 84, .int (nI s), .int (nI t)], [.ref 84], (0, 0), h2)) rfl ?_
  refine ab_W.o (mm _) ((r2 84 (by decide) (by decide)).trans h0) rfl (c' := (27, [.ref 84, .int (nI s), .int (nI t)], [.ref 87], (0, 0), h2)) rfl ?_
  refine ab_W.go (mm _) 2 (c' := (29, [.ref 84, .int (nI s), .int (nI t)], [.ref 84, .int (nI t), .ref 87], (0, 0), h2)) rfl ?_
  refine ab_W.o (mm _) ((r2 84 (by decide) (by decide)).trans h0) rfl (c' := (32, [.ref 84, .int (nI s), .int (nI t)], [.ref 87, .int (nI t), .ref 87], (0, 0), h2)) rfl ?_
  refine ab_W.go (mm _) 1 (c' := (33, [.ref 84, .int (nI s), .int (nI t)], [.int (nI s), .ref 87, .int (nI t), .ref 87], (0, 0), h2)) rfl ?_
  refine ab_W.lald (mm _) (j := s) ((r2 87 (by decide) (by decide)).trans k1) rfl (by omega) rfl rfl ?_
  show ab_W _ _ _ (34, [.ref 84, .int (nI s), .int (nI t)], [.long (gK s), .int (nI t), .ref 87], (0, 0), h2)
  refine ab_W.topl (k2 s hs) ?_
  refine ab_W.last (mm _) (j := t) ((r2 87 (by decide) (by decide)).trans k1) rfl (by omega) rfl rfl ?_
  show ab_W _ _ _ (35, [.ref 84, .int (nI s), .int (nI t)], [], (0, 0), h2.set 87 (.inl (1, 12, .inr (.inl (vp_updL gK t (kn c s))))))
  obtain ⟨h3, e3⟩ : ∃ h3, h3 = h2.set 87 (.inl (1, 12, .inr (.inl (vp_updL gK t (kn c s))))) := ⟨_, rfl⟩
  have q3 : ∀ i, i ≠ 87 → h3[i]? = h2[i]? := fun i hi => by rw [e3]; exact set_ne (fun z => hi z.symm)
  have K3 : arrL h3 87 12 (va_up (kn c) t (kn c s)) := by rw [e3]; exact arrL.put ((r2 87 (by decide) (by decide)).trans k1) k2
  refine ab_W.hp (e3.symm) ?_
  show ab_W _ _ _ (35, [.ref 84, .int (nI s), .int (nI t)], [], (0, 0), h3)
  have r3 : ∀ i, i ≠ 85 → i ≠ 86 → i ≠ 87 → h3[i]? = h[i]? := fun i i1 i2 i3 => (q3 i i3).trans (r2 i i1 i2)
  have h03 := (r3 84 (by decide) (by decide) (by decide)).trans h0
  refine ab_W.go (mm _) 3 (c' := (38, [.ref 84, .int (nI s), .int (nI t)], [.int (nI t), .int (nI s), .ref 84], (0, 0), h3)) rfl ?_
  refine ab_W.callV (mm _) (h03) rfl (k := 76) (av := [.ref 84, .int (nI s), .int (nI t)]) (c' := (41, [.ref 84, .int (nI s), .int (nI t)], [], (0, 0), h3)) rfl ?_
  refine sp_mcopy _ h03 (hH.kept (r3 88 (by decide) (by decide) (by decide))) hs ht' hne (fun h4 H4 q4 => ?_)
  show ab_W _ _ _ (41, [.ref 84, .int (nI s), .int (nI t)], [], (0, 0), h4)
  refine ab_W.go (mm _) 1 (c' := (42, [.ref 84, .int (nI s), .int (nI t)], [.int (nI t)], (0, 0), h4)) rfl ?_
  refine ab_W.retI (mm _) (rt := some .int) (v := nI t) rfl rfl ?_
  exact hp _ ((B1.kept ((q3 85 (by decide)).trans (q2 85 (by decide)))).kept (q4 85 (by decide))) ((N2.kept (q3 86 (by decide))).kept (q4 86 (by decide))) (K3.kept (q4 87 (by decide))) H4 (fun i hi => (q4 i (by omega)).trans (r3 i (by omega) (by omega) (by omega)))
theorem sp_maddN (d : Nat) {h : ab_H} {hap sz op x : Int32} {c : Ci} (h0 : h[84]? = some (mObj hap sz op)) (hB : arrB h 85 12 (pr c)) (hf : ∀ s, s < 12 → pr c s = true) {post : ab_P} (hp : post (some (.int (-(nI 6)))) h) : mCC (d + 2) kSpanStampsModel_add [.ref 84, .int x] h post := by
  refine ⟨rfl, ?_⟩
  show ab_W _ _ _ (0, [.ref 84, .int x, .retAddr 0], [], (0, 0), h)
  refine ab_W.go (mm _) 1 (c' := (1, [.ref 84, .int x, .retAddr 0], [.ref 84], (0, 0), h)) rfl ?_
  refine ab_W.callV (mm _) (h0) rfl (k := 69) (av := [.ref 84]) (c' := (4, [.ref 84, .int x, .retAddr 0], [], (0, 0), h)) rfl ?_
  refine sp_mfree _ h0 hB (fun v hv => ?_)
  have ev : v = -(nI 6) := by
    rcases hv with ⟨t', f', rfl⟩ | ⟨-, e⟩
    · have := hf t' f'.1
      rw [f'.2.1] at this
      cases this
    · exact e
  subst ev
  show ab_W _ _ _ (4, [.ref 84, .int x, .retAddr 0], [.int (-(nI 6))], (0, 0), h)
  refine ab_W.go (mm _) 2 (c' := (6, [.ref 84, .int x, .int (-(nI 6))], [.int (-(nI 6))], (0, 0), h)) rfl ?_
  refine ab_W.itT (mm _) (p := (-(nI 6)) < 0) (c1 := (41, [.ref 84, .int x, .int (-(nI 6))], [], (0, 0), h)) (c2 := (9, [.ref 84, .int x, .int (-(nI 6))], [], (0, 0), h)) rfl ((by decide)) ?_
  refine ab_W.go (mm _) 1 (c' := (42, [.ref 84, .int x, .int (-(nI 6))], [.int (-(nI 6))], (0, 0), h)) rfl ?_
  refine ab_W.retI (mm _) (rt := some .int) (v := -(nI 6)) rfl rfl ?_
  exact hp
