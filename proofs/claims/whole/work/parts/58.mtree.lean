/-! THE REFERENCE: trees -/
abbrev ltW (d : Nat) (s : Nat) (post : ab_P) (x2 x3 x4 x5 : Value) (h : ab_H) : Prop := ab_W (ab_st (mT kSpanStampsModel_layTree) mB mF (mR kSpanStampsModel_layTree) none) (mCC (d + 5)) post (21, [.ref 84, .int (nI s), x2, x3, x4, x5], [], (0, 0), h)
theorem layT_step (d : Nat) {f : Nat → Int32} {s : Nat} {post : ab_P} {h : ab_H} {hap : Int32} {k : Nat} {L : List Int32} {S : List (Nat × Int32)} {x2 x3 x4 x5 : Value} {b : Int32} (h1 : 1 ≤ k) (hk : k < 128) (hN : nowP h f) (hl : layP h hap L (S ++ [(k, b)])) (hL : L.length + 1 < 256) (hS : S.length + 2 ≤ 16)
    (c0 : alk f k → ∀ h' y2 y3 y4 y5, layP h' hap (L ++ [mn f k - b]) S → lkept h' h → ltW d s post y2 y3 y4 y5 h')
    (c1 : ¬ alk f k → ∀ h' y2 y3 y4 y5, layP h' hap (L ++ [nI 1000] ++ [mn f k - b]) (S ++ [(2 * k + 1, mn f k)] ++ [(2 * k, mn f k)]) → lkept h' h → ltW d s post y2 y3 y4 y5 h') : ltW d s post x2 x3 x4 x5 h := by
  obtain ⟨z0, zT, zW⟩ := hl
  rw [len1] at z0
  obtain ⟨w1, g2, g3, a2, a3, a4, a5⟩ := zW.pop
  refine ab_W.go (mm _) 1 (c' := (22, [.ref 84, .int (nI s), x2, x3, x4, x5], [.ref 84], (0, 0), h)) rfl ?_
  refine ab_W.o (mm _) (z0) rfl (c' := (25, [.ref 84, .int (nI s), x2, x3, x4, x5], [.int (nI (S.length + 1))], (0, 0), h)) rfl ?_
  refine ab_W.itF (mm _) (p := (nI (S.length + 1)) ≤ 0) (c1 := (120, [.ref 84, .int (nI s), x2, x3, x4, x5], [], (0, 0), h)) (c2 := (28, [.ref 84, .int (nI s), x2, x3, x4, x5], [], (0, 0), h)) rfl (nI_nle (by omega) (by omega)) ?_
  refine ab_W.go (mm _) 2 (c' := (30, [.ref 84, .int (nI s), x2, x3, x4, x5], [.ref 84, .ref 84], (0, 0), h)) rfl ?_
  refine ab_W.o (mm _) (z0) rfl (c' := (33, [.ref 84, .int (nI s), x2, x3, x4, x5], [.int (nI (S.length + 1)), .ref 84], (0, 0), h)) rfl ?_
  refine ab_W.go (mm _) 2 (c' := (35, [.ref 84, .int (nI s), x2, x3, x4, x5], [.int ((nI (S.length + 1)) - (nI 1)), .ref 84], (0, 0), h)) rfl ?_
  refine ab_W.topi (nI_pred S.length) ?_
  refine ab_W.o (mm _) (z0) rfl (c' := (38, [.ref 84, .int (nI s), x2, x3, x4, x5], [], (0, 0), h.set 84 (mObj hap (nI L.length) (nI S.length)))) rfl ?_
  obtain ⟨h1', e1⟩ : ∃ h1', h1' = h.set 84 (mObj hap (nI L.length) (nI S.length)) := ⟨_, rfl⟩
  have k1 : ∀ i, i ≠ 84 → h1'[i]? = h[i]? := fun i hi => by rw [e1]; exact set_ne (fun z => hi z.symm)
  have z1 : h1'[84]? = some (mObj hap (nI L.length) (nI S.length)) := by rw [e1]; exact set_at z0
  have zT1 := zT.kept (k1 91 (by decide))
  have w1' := w1.kept (k1 92 (by decide)) (k1 93 (by decide))
  have n1 : nowP h1' f := (k1 89 (by decide)).trans hN
  refine ab_W.hp (e1.symm) ?_
  show ab_W _ _ _ (38, [.ref 84, .int (nI s), x2, x3, x4, x5], [], (0, 0), h1')
  refine ab_W.go (mm _) 1 (c' := (39, [.ref 84, .int (nI s), x2, x3, x4, x5], [.ref 84], (0, 0), h1')) rfl ?_
  refine ab_W.o (mm _) (z1) rfl (c' := (42, [.ref 84, .int (nI s), x2, x3, x4, x5], [.ref 92], (0, 0), h1')) rfl ?_
  refine ab_W.go (mm _) 1 (c' := (43, [.ref 84, .int (nI s), x2, x3, x4, x5], [.ref 84, .ref 92], (0, 0), h1')) rfl ?_
  refine ab_W.o (mm _) (z1) rfl (c' := (46, [.ref 84, .int (nI s), x2, x3, x4, x5], [.int (nI S.length), .ref 92], (0, 0), h1')) rfl ?_
  refine ab_W.iald (mm _) (j := S.length) ((k1 92 (by decide)).trans a2) rfl (by omega) rfl rfl ?_
  show ab_W _ _ _ (47, [.ref 84, .int (nI s), x2, x3, x4, x5], [.int (g2 S.length)], (0, 0), h1')
  refine ab_W.topi (a4) ?_
  refine ab_W.go (mm _) 2 (c' := (49, [.ref 84, .int (nI s), .int (nI k), x3, x4, x5], [.ref 84], (0, 0), h1')) rfl ?_
  refine ab_W.o (mm _) (z1) rfl (c' := (52, [.ref 84, .int (nI s), .int (nI k), x3, x4, x5], [.ref 93], (0, 0), h1')) rfl ?_
  refine ab_W.go (mm _) 1 (c' := (53, [.ref 84, .int (nI s), .int (nI k), x3, x4, x5], [.ref 84, .ref 93], (0, 0), h1')) rfl ?_
  refine ab_W.o (mm _) (z1) rfl (c' := (56, [.ref 84, .int (nI s), .int (nI k), x3, x4, x5], [.int (nI S.length), .ref 93], (0, 0), h1')) rfl ?_
  refine ab_W.iald (mm _) (j := S.length) ((k1 93 (by decide)).trans a3) rfl (by omega) rfl rfl ?_
  show ab_W _ _ _ (57, [.ref 84, .int (nI s), .int (nI k), x3, x4, x5], [.int (g3 S.length)], (0, 0), h1')
  refine ab_W.topi (a5) ?_
  refine ab_W.go (mm _) 3 (c' := (60, [.ref 84, .int (nI s), .int (nI k), .int b, x4, x5], [.int (nI k), .ref 84], (0, 0), h1')) rfl ?_
  refine ab_W.callV (mm _) (z1) rfl (k := 81) (av := [.ref 84, .int (nI k)]) (c' := (63, [.ref 84, .int (nI s), .int (nI k), .int b, x4, x5], [], (0, 0), h1')) rfl ?_
  refine sp_mmn _ z1 n1 h1 hk ?_
  show ab_W _ _ _ (63, [.ref 84, .int (nI s), .int (nI k), .int b, x4, x5], [.int (mn f k)], (0, 0), h1')
  refine ab_W.go (mm _) 3 (c' := (67, [.ref 84, .int (nI s), .int (nI k), .int b, .int (mn f k), x5], [.int (nI k), .ref 84], (0, 0), h1')) rfl ?_
  refine ab_W.callV (mm _) (z1) rfl (k := 83) (av := [.ref 84, .int (nI k)]) (c' := (70, [.ref 84, .int (nI s), .int (nI k), .int b, .int (mn f k), x5], [], (0, 0), h1')) rfl ?_
  refine sp_malike _ z1 n1 h1 hk (fun v hv => ?_)
  rcases hv with ⟨q, rfl⟩ | ⟨q, rfl⟩
  · skip
    show ab_W _ _ _ (70, [.ref 84, .int (nI s), .int (nI k), .int b, .int (mn f k), x5], [.int (nI 1)], (0, 0), h1')
    refine ab_W.go (mm _) 2 (c' := (74, [.ref 84, .int (nI s), .int (nI k), .int b, .int (mn f k), .int (nI 1)], [.int (nI 1)], (0, 0), h1')) rfl ?_
    refine ab_W.itF (mm _) (p := (nI 1) = 0) (c1 := (77, [.ref 84, .int (nI s), .int (nI k), .int b, .int (mn f k), .int (nI 1)], [], (0, 0), h1')) (c2 := (84, [.ref 84, .int (nI s), .int (nI k), .int b, .int (mn f k), .int (nI 1)], [], (0, 0), h1')) rfl (nI_ne01) ?_
    refine ab_W.go (mm _) 4 (c' := (89, [.ref 84, .int (nI s), .int (nI k), .int b, .int (mn f k), .int (nI 1)], [.int ((mn f k) - b), .ref 84], (0, 0), h1')) rfl ?_
    refine ab_W.callV (mm _) (z1) rfl (k := 104) (av := [.ref 84, .int ((mn f k) - b)]) (c' := (92, [.ref 84, .int (nI s), .int (nI k), .int b, .int (mn f k), .int (nI 1)], [], (0, 0), h1')) rfl ?_
    refine sp_mtell _ z1 zT1 (by omega) (fun h2 z2 zT2 kk2 => ?_)
    show ab_W _ _ _ (92, [.ref 84, .int (nI s), .int (nI k), .int b, .int (mn f k), .int (nI 1)], [], (0, 0), h2)
    refine ab_W.go (mm _) 1 (c' := (94, [.ref 84, .int (nI s), .int (nI k), .int b, .int (mn f k), .int (nI 1)], [.int (nI 1)], (0, 0), h2)) rfl ?_
    refine ab_W.itF (mm _) (p := (nI 1) = 0) (c1 := (97, [.ref 84, .int (nI s), .int (nI k), .int b, .int (mn f k), .int (nI 1)], [], (0, 0), h2)) (c2 := (117, [.ref 84, .int (nI s), .int (nI k), .int b, .int (mn f k), .int (nI 1)], [], (0, 0), h2)) rfl (nI_ne01) ?_
    refine ab_W.go (mm _) 1 (c' := (21, [.ref 84, .int (nI s), .int (nI k), .int b, .int (mn f k), .int (nI 1)], [], (0, 0), h2)) rfl ?_
    exact c0 q h2 _ _ _ _ ⟨z2, zT2, w1'.kept (kk2 92 (by decide) (by decide)) (kk2 93 (by decide) (by decide))⟩ (fun i i1 i2 i3 i4 => (kk2 i i1 i2).trans (k1 i i1))
  · skip
    show ab_W _ _ _ (70, [.ref 84, .int (nI s), .int (nI k), .int b, .int (mn f k), x5], [.int (nI 0)], (0, 0), h1')
    refine ab_W.go (mm _) 2 (c' := (74, [.ref 84, .int (nI s), .int (nI k), .int b, .int (mn f k), .int (nI 0)], [.int (nI 0)], (0, 0), h1')) rfl ?_
    refine ab_W.itT (mm _) (p := (nI 0) = 0) (c1 := (77, [.ref 84, .int (nI s), .int (nI k), .int b, .int (mn f k), .int (nI 0)], [], (0, 0), h1')) (c2 := (84, [.ref 84, .int (nI s), .int (nI k), .int b, .int (mn f k), .int (nI 0)], [], (0, 0), h1')) rfl (nI_0) ?_
    refine ab_W.go (mm _) 2 (c' := (81, [.ref 84, .int (nI s), .int (nI k), .int b, .int (mn f k), .int (nI 0)], [.int (nI 1000), .ref 84], (0, 0), h1')) rfl ?_
    refine ab_W.callV (mm _) (z1) rfl (k := 104) (av := [.ref 84, .int (nI 1000)]) (c' := (84, [.ref 84, .int (nI s), .int (nI k), .int b, .int (mn f k), .int (nI 0)], [], (0, 0), h1')) rfl ?_
    refine sp_mtell _ z1 zT1 (by omega) (fun h2 z2 zT2 kk2 => ?_)
    show ab_W _ _ _ (84, [.ref 84, .int (nI s), .int (nI k), .int b, .int (mn f k), .int (nI 0)], [], (0, 0), h2)
    refine ab_W.go (mm _) 4 (c' := (89, [.ref 84, .int (nI s), .int (nI k), .int b, .int (mn f k), .int (nI 0)], [.int ((mn f k) - b), .ref 84], (0, 0), h2)) rfl ?_
    refine ab_W.callV (mm _) (z2) rfl (k := 104) (av := [.ref 84, .int ((mn f k) - b)]) (c' := (92, [.ref 84, .int (nI s), .int (nI k), .int b, .int (mn f k), .int (nI 0)], [], (0, 0), h2)) rfl ?_
    refine sp_mtell _ z2 zT2 (by rw [len1]; omega) (fun h3 z3 zT3 kk3 => ?_)
    have w3 := (w1'.kept (kk2 92 (by decide) (by decide)) (kk2 93 (by decide) (by decide))).kept (kk3 92 (by decide) (by decide)) (kk3 93 (by decide) (by decide))
    show ab_W _ _ _ (92, [.ref 84, .int (nI s), .int (nI k), .int b, .int (mn f k), .int (nI 0)], [], (0, 0), h3)
    refine ab_W.go (mm _) 1 (c' := (94, [.ref 84, .int (nI s), .int (nI k), .int b, .int (mn f k), .int (nI 0)], [.int (nI 0)], (0, 0), h3)) rfl ?_
    refine ab_W.itT (mm _) (p := (nI 0) = 0) (c1 := (97, [.ref 84, .int (nI s), .int (nI k), .int b, .int (mn f k), .int (nI 0)], [], (0, 0), h3)) (c2 := (117, [.ref 84, .int (nI s), .int (nI k), .int b, .int (mn f k), .int (nI 0)], [], (0, 0), h3)) rfl (nI_0) ?_
    refine ab_W.go (mm _) 4 (c' := (101, [.ref 84, .int (nI s), .int (nI k), .int b, .int (mn f k), .int (nI 0)], [.int ((nI 2) * (nI k)), .ref 84], (0, 0), h3)) rfl ?_
    refine ab_W.topi (pk_mul 2 k) ?_
    refine ab_W.go (mm _) 2 (c' := (103, [.ref 84, .int (nI s), .int (nI k), .int b, .int (mn f k), .int (nI 0)], [.int ((nI (2 * k)) + (nI 1)), .ref 84], (0, 0), h3)) rfl ?_
    refine ab_W.topi (nI_add (2 * k) 1) ?_
    refine ab_W.go (mm _) 1 (c' := (105, [.ref 84, .int (nI s), .int (nI k), .int b, .int (mn f k), .int (nI 0)], [.int (mn f k), .int (nI ((2 * k) + 1)), .ref 84], (0, 0), h3)) rfl ?_
    refine ab_W.callV (mm _) (z3) rfl (k := 105) (av := [.ref 84, .int (nI ((2 * k) + 1)), .int (mn f k)]) (c' := (108, [.ref 84, .int (nI s), .int (nI k), .int b, .int (mn f k), .int (nI 0)], [], (0, 0), h3)) rfl ?_
    refine sp_mawait _ z3 w3 (by omega) (fun h4 z4 w4 kk4 => ?_)
    show ab_W _ _ _ (108, [.ref 84, .int (nI s), .int (nI k), .int b, .int (mn f k), .int (nI 0)], [], (0, 0), h4)
    refine ab_W.go (mm _) 4 (c' := (112, [.ref 84, .int (nI s), .int (nI k), .int b, .int (mn f k), .int (nI 0)], [.int ((nI 2) * (nI k)), .ref 84], (0, 0), h4)) rfl ?_
    refine ab_W.topi (pk_mul 2 k) ?_
    refine ab_W.go (mm _) 1 (c' := (114, [.ref 84, .int (nI s), .int (nI k), .int b, .int (mn f k), .int (nI 0)], [.int (mn f k), .int (nI (2 * k)), .ref 84], (0, 0), h4)) rfl ?_
    refine ab_W.callV (mm _) (z4) rfl (k := 105) (av := [.ref 84, .int (nI (2 * k)), .int (mn f k)]) (c' := (117, [.ref 84, .int (nI s), .int (nI k), .int b, .int (mn f k), .int (nI 0)], [], (0, 0), h4)) rfl ?_
    refine sp_mawait _ z4 w4 (by rw [len1]; omega) (fun h5 z5 w5 kk5 => ?_)
    show ab_W _ _ _ (117, [.ref 84, .int (nI s), .int (nI k), .int b, .int (mn f k), .int (nI 0)], [], (0, 0), h5)
    refine ab_W.go (mm _) 1 (c' := (21, [.ref 84, .int (nI s), .int (nI k), .int b, .int (mn f k), .int (nI 0)], [], (0, 0), h5)) rfl ?_
    exact c1 q h5 _ _ _ _ ⟨z5, (zT3.kept (kk4 91 (by decide) (by decide) (by decide))).kept (kk5 91 (by decide) (by decide) (by decide)), w5⟩ (fun i i1 i2 i3 i4 => (kk5 i i1 i3 i4).trans ((kk4 i i1 i3 i4).trans ((kk3 i i1 i2).trans ((kk2 i i1 i2).trans (k1 i i1)))))
theorem layT_all (d : Nat) {f : Nat → Int32} {s : Nat} {post : ab_P} {hap : Int32} : ∀ (n k : Nat), 1 ≤ k → k < 128 → dep k + n = 6 → ∀ (h : ab_H) (L : List Int32) (S : List (Nat × Int32)) (x2 x3 x4 x5 : Value) (b : Int32), nowP h f → layP h hap L (S ++ [(k, b)]) → L.length + (hT f n k b).length + 1 ≤ 256 → S.length + n + 2 ≤ 16 → (∀ h' y2 y3 y4 y5, layP h' hap (L ++ hT f n k b) S → lkept h' h → ltW d s post y2 y3 y4 y5 h') → ltW d s post x2 x3 x4 x5 h := by
  intro n
  induction n with
  | zero =>
    intro k h1 hk hd h L S x2 x3 x4 x5 b hN hl hL hS hc
    have e : hT f 0 k b = [mn f k - b] := rfl
    rw [e] at hc hL
    exact layT_step d h1 hk hN hl (by simp at hL; omega) (by omega) (fun _ => hc) (fun z => absurd (alk_leaf h1 hk (by omega)) z)
  | succ n ih =>
    intro k h1 hk hd h L S x2 x3 x4 x5 b hN hl hL hS hc
    have hk64 := dep_lt h1 hk hd
    obtain ⟨e1, e2, -⟩ := sp_half k hk64 h1
    by_cases q : alk f k
    · have e : hT f (n + 1) k b = [mn f k - b] := ci_t q
      rw [e] at hc hL
      exact layT_step d h1 hk hN hl (by simp at hL; omega) (by omega) (fun _ => hc) (fun z => absurd q z)
    · have e : hT f (n + 1) k b = nI 1000 :: (mn f k - b) :: (hT f n (2 * k) (mn f k) ++ hT f n (2 * k + 1) (mn f k)) := ci_f q
      rw [e] at hc hL
      rw [List.length_cons, List.length_cons, List.length_append] at hL
      refine layT_step d h1 hk hN hl (by omega) (by omega) (fun z => absurd z q) (fun _ h2 y2 y3 y4 y5 l2 kk2 => ?_)
      have n2 : nowP h2 f := (kk2 89 (by decide) (by decide) (by decide) (by decide)).trans hN
      refine ih (2 * k) (by omega) (by omega) (by omega) h2 _ _ y2 y3 y4 y5 _ n2 l2 (by rw [len1, len1]; omega) (by rw [len1]; omega) (fun h3 y2 y3 y4 y5 l3 kk3 => ?_)
      have n3 : nowP h3 f := (kk3 89 (by decide) (by decide) (by decide) (by decide)).trans n2
      refine ih (2 * k + 1) (by omega) (by omega) (by omega) h3 _ _ y2 y3 y4 y5 _ n3 l3 (by rw [List.length_append, len1, len1]; omega) (by omega) (fun h4 y2 y3 y4 y5 l4 kk4 => ?_)
      refine hc h4 y2 y3 y4 y5 ?_ (kk4.trans (kk3.trans kk2))
      rw [show L ++ nI 1000 :: (mn f k - b) :: (hT f n (2 * k) (mn f k) ++ hT f n (2 * k + 1) (mn f k)) = L ++ [nI 1000] ++ [mn f k - b] ++ hT f n (2 * k) (mn f k) ++ hT f n (2 * k + 1) (mn f k) by simp]
      exact l4
theorem sp_mlayTree (d : Nat) {h : ab_H} {hap sz op : Int32} {H : Nat → Nat → Int32} {s : Nat} (h0 : h[84]? = some (mObj hap sz op)) (hH : arrH h 88 12 H) (hs : s < 12) (s1 : arrS h 89 64) (s3 : arrS h 91 256) (s4 : arrS h 92 16) (s5 : arrS h 93 16) {post : ab_P} (hp : ∀ h' f, (∀ c, c < 64 → f c = H s c) → nowP h' f → layP h' hap (hT f 6 1 0) [] → (∀ i, i ≠ 84 → i ≠ 89 → i ≠ 91 → i ≠ 92 → i ≠ 93 → h'[i]? = h[i]?) → post none h') : mCC (d + 6) kSpanStampsModel_layTree [.ref 84, .int (nI s)] h post := by
  obtain ⟨g0, ms⟩ := id s1
  have l89 := hA_lt ms
  refine ⟨rfl, ?_⟩
  show ab_W _ _ _ (0, [.ref 84, .int (nI s), .retAddr 0, .retAddr 0, .retAddr 0, .retAddr 0], [], (0, 0), h)
  refine ab_W.go (mm _) 2 (c' := (2, [.ref 84, .int (nI s), .retAddr 0, .retAddr 0, .retAddr 0, .retAddr 0], [.int (nI s), .ref 84], (0, 0), h)) rfl ?_
  refine ab_W.callV (mm _) (h0) rfl (k := 85) (av := [.ref 84, .int (nI s)]) (c' := (5, [.ref 84, .int (nI s), .retAddr 0, .retAddr 0, .retAddr 0, .retAddr 0], [], (0, 0), h)) rfl ?_
  refine sp_mlook _ h0 hH hs ms (fun f hf => ?_)
  have hw : (hA h 89 f)[84]? = some (mObj hap sz op) := (hA_ne (by decide)).trans h0
  have nw : nowP (hA h 89 f) f := hA_at l89
  have kk0 : ∀ i, i ≠ 89 → (hA h 89 f)[i]? = h[i]? := fun i hi => hA_ne (fun z => hi z.symm)
  obtain ⟨hq, eq⟩ : ∃ hq, hq = hA h 89 f := ⟨_, rfl⟩
  rw [← eq] at hw nw kk0
  show ab_W _ _ _ (5, [.ref 84, .int (nI s), .retAddr 0, .retAddr 0, .retAddr 0, .retAddr 0], [], (0, 0), hA h 89 f)
  refine ab_W.hp (eq.symm) ?_
  show ab_W _ _ _ (5, [.ref 84, .int (nI s), .retAddr 0, .retAddr 0, .retAddr 0, .retAddr 0], [], (0, 0), hq)
  refine ab_W.go (mm _) 2 (c' := (7, [.ref 84, .int (nI s), .retAddr 0, .retAddr 0, .retAddr 0, .retAddr 0], [.int (nI 0), .ref 84], (0, 0), hq)) rfl ?_
  refine ab_W.o (mm _) (hw) rfl (c' := (10, [.ref 84, .int (nI s), .retAddr 0, .retAddr 0, .retAddr 0, .retAddr 0], [], (0, 0), hq.set 84 (mObj hap (nI 0) op))) rfl ?_
  obtain ⟨h1, e1⟩ : ∃ h1, h1 = hq.set 84 (mObj hap (nI 0) op) := ⟨_, rfl⟩
  have k1 : ∀ i, i ≠ 84 → h1[i]? = hq[i]? := fun i hi => by rw [e1]; exact set_ne (fun z => hi z.symm)
  have z1 : h1[84]? = some (mObj hap (nI 0) op) := by rw [e1]; exact set_at hw
  refine ab_W.hp (e1.symm) ?_
  show ab_W _ _ _ (10, [.ref 84, .int (nI s), .retAddr 0, .retAddr 0, .retAddr 0, .retAddr 0], [], (0, 0), h1)
  refine ab_W.go (mm _) 2 (c' := (12, [.ref 84, .int (nI s), .retAddr 0, .retAddr 0, .retAddr 0, .retAddr 0], [.int (nI 0), .ref 84], (0, 0), h1)) rfl ?_
  refine ab_W.o (mm _) (z1) rfl (c' := (15, [.ref 84, .int (nI s), .retAddr 0, .retAddr 0, .retAddr 0, .retAddr 0], [], (0, 0), h1.set 84 (mObj hap (nI 0) (nI 0)))) rfl ?_
  obtain ⟨h2, e2⟩ : ∃ h2, h2 = h1.set 84 (mObj hap (nI 0) (nI 0)) := ⟨_, rfl⟩
  have k2 : ∀ i, i ≠ 84 → h2[i]? = hq[i]? := fun i hi => by rw [e2]; exact (set_ne (fun z => hi z.symm)).trans (k1 i hi)
  have z2 : h2[84]? = some (mObj hap (nI ([] : List Int32).length) (nI ([] : List (Nat × Int32)).length)) := by rw [e2]; exact set_at z1
  refine ab_W.hp (e2.symm) ?_
  show ab_W _ _ _ (15, [.ref 84, .int (nI s), .retAddr 0, .retAddr 0, .retAddr 0, .retAddr 0], [], (0, 0), h2)
  have k2' : ∀ i, i ≠ 84 → i ≠ 89 → h2[i]? = h[i]? := fun i i1 i2 => (k2 i i1).trans (kk0 i i2)
  have t2 : toldP h2 [] := by
    obtain ⟨g, g1⟩ := s3
    exact ⟨g, (k2' 91 (by decide) (by decide)).trans g1, fun i hi => absurd hi (Nat.not_lt_zero _)⟩
  have w2 : waitP h2 [] := by
    obtain ⟨g, g1⟩ := s4
    obtain ⟨g', g1'⟩ := s5
    exact ⟨g, g', (k2' 92 (by decide) (by decide)).trans g1, (k2' 93 (by decide) (by decide)).trans g1', fun i k b hi => by simp at hi⟩
  refine ab_W.go (mm _) 3 (c' := (18, [.ref 84, .int (nI s), .retAddr 0, .retAddr 0, .retAddr 0, .retAddr 0], [.int (nI 0), .int (nI 1), .ref 84], (0, 0), h2)) rfl ?_
  refine ab_W.callV (mm _) (z2) rfl (k := 105) (av := [.ref 84, .int (nI 1), .int (nI 0)]) (c' := (21, [.ref 84, .int (nI s), .retAddr 0, .retAddr 0, .retAddr 0, .retAddr 0], [], (0, 0), h2)) rfl ?_
  refine sp_mawait _ z2 w2 (by decide) (fun h3 z3 w3 kk3 => ?_)
  have n3 : nowP h3 f := (kk3 89 (by decide) (by decide) (by decide)).trans ((k2 89 (by decide)).trans nw)
  refine layT_all d 6 1 (by decide) (by decide) (by decide) h3 [] [] _ _ _ _ _ n3 ⟨z3, t2.kept (kk3 91 (by decide) (by decide) (by decide)), w3⟩ ?_ (by decide) (fun h4 y2 y3 y4 y5 l4 kk4 => ?_)
  · have := hT_len f 6 1 (nI 0)
    have e : 3 * (2 : Nat) ^ 6 = 192 := by decide
    rw [e] at this
    show 0 + _ + 1 ≤ 256
    omega
  · have z4 : h4[84]? = some (mObj hap (nI (hT f 6 1 (nI 0)).length) (nI 0)) := l4.1
    refine ab_W.go (mm _) 1 (c' := (22, [.ref 84, .int (nI s), y2, y3, y4, y5], [.ref 84], (0, 0), h4)) rfl ?_
    refine ab_W.o (mm _) (z4) rfl (c' := (25, [.ref 84, .int (nI s), y2, y3, y4, y5], [.int (nI 0)], (0, 0), h4)) rfl ?_
    refine ab_W.itT (mm _) (p := (nI 0) ≤ 0) (c1 := (120, [.ref 84, .int (nI s), y2, y3, y4, y5], [], (0, 0), h4)) (c2 := (28, [.ref 84, .int (nI s), y2, y3, y4, y5], [], (0, 0), h4)) rfl ((by decide)) ?_
    refine ab_W.ret (mm _) (v := none) rfl ?_
    refine hp h4 f hf ((kk4 89 (by decide) (by decide) (by decide) (by decide)).trans n3) ?_ (fun i i1 i2 i3 i4 i5 => (kk4 i i1 i3 i4 i5).trans ((kk3 i i1 i4 i5).trans (k2' i i1 i2)))
    rw [← nI_0]
    exact l4
theorem hT_cong2 {f g : Nat → Int32} : ∀ (n k : Nat), 1 ≤ k → k < 128 → dep k + n = 6 → ∀ b, (∀ c, c < 64 → f c = g c) → hT f n k b = hT g n k b := by
  intro n
  induction n with
  | zero =>
    intro k h1 hk hd b h
    show [mn f k - b] = [mn g k - b]
    rw [mn_congr h1 hk (fun c hc => h c (inK_lt h1 hk hc))]
  | succ n ih =>
    intro k h1 hk hd b h
    have hk64 := dep_lt h1 hk hd
    obtain ⟨e1, e2, -⟩ := sp_half k hk64 h1
    have em := mn_congr h1 hk (fun c hc => h c (inK_lt h1 hk hc))
    have ea := alk_congr h1 hk (fun c hc => h c (inK_lt h1 hk hc))
    by_cases q : alk f k
    · rw [show hT f (n + 1) k b = _ from ci_t q, show hT g (n + 1) k b = _ from ci_t (ea.mp q), em]
    · rw [show hT f (n + 1) k b = _ from ci_f q, show hT g (n + 1) k b = _ from ci_f (fun z => q (ea.mpr z)), em, ih (2 * k) (by omega) (by omega) (by omega) _ h, ih (2 * k + 1) (by omega) (by omega) (by omega) _ h]
