/-! THE OTHER CALLS OF THE CLASS -/
theorem ab_W.swd {F : ab_S → ab_R} {C : ab_C} {post : ab_P} {c : ab_S} (hC : ab_mono C) {x : Int32} {lo hi : Int} {d : Nat} {ts : List Nat} {lv r : List Value} {b : Nat × Nat} {h : ab_H} (e : F c = ab_sw x lo hi (d :: ts) fun t => ab_nx t lv r b h) (hx : x.toInt < lo ∨ hi < x.toInt) (w : ab_W F C post (d, lv, r, b, h)) : ab_W F C post c := by
  refine ab_W.fold hC ?_
  rw [e]
  show ab_rs _ _ _ _ (if x.toInt < lo ∨ hi < x.toInt then ab_nx d lv r b h else _)
  rw [if_pos hx]
  exact w
theorem sw_lo {x : Int32} {hi : Int} (h : x < 0) : x.toInt < 0 ∨ hi < x.toInt := Or.inl (Int32.lt_iff_toInt_lt.mp h)
theorem sw_hi {x : Int32} {n : Nat} {hi : Int} (h : nI n ≤ x) (hn : hi < (nI n).toInt) : x.toInt < 0 ∨ hi < x.toInt := Or.inr (Int.lt_of_lt_of_le hn (Int32.le_iff_toInt_le.mp h))
theorem nI_geN {x : Int32} {n j : Nat} (h : nI n ≤ x) (hn : n < 2 ^ 31) (hj : j < n) : ¬ x = nI j := by
  intro z
  rw [z] at h
  have := (nI_leI hn (by omega)).mp h
  omega
theorem nI_le0 {x : Int32} {n : Nat} (h : nI n ≤ x) (hn : n < 2 ^ 31) : ¬ x < 0 := by
  intro z
  have a := Int32.lt_iff_toInt_lt.mp z
  have b := Int32.le_iff_toInt_le.mp h
  have c : ¬ nI n < 0 := nI_pos hn
  exact c (Int32.lt_iff_toInt_lt.mpr (Int.lt_of_le_of_lt b a))
theorem nI_lt0 {x : Int32} {j : Nat} (h : x < 0) (hj : j < 2 ^ 31) : ¬ x = nI j := by
  intro z
  rw [z] at h
  exact nI_pos hj h
theorem bt_one : ∀ i, i < 64 → ∀ j, j < 64 → bt (lN 1 <<< ((nI i).toInt64 &&& 63)) j = decide (j = i) := by decide +kernel
theorem and_one {K : Int64} {i : Nat} (hi : i < 64) : (K &&& (lN 1 <<< ((nI i).toInt64 &&& 63))) = lN 0 ↔ bt K i = false := by
  rw [bt_cut]
  refine ⟨fun h => ?_, fun h j hj hb => ?_⟩
  · cases hb : bt K i with
    | false => rfl
    | true =>
      have := h i hi hb
      rw [bt_one i hi i hi] at this
      simp at this
  · rw [bt_one i hi j hj]
    by_cases e : j = i
    · rw [e, h] at hb
      cases hb
    · exact decide_eq_false e
theorem isP_ex {N : Int64} (h : ¬ N = lN 0) : ∃ k, 1 ≤ k ∧ k < 128 ∧ isP N k := by
  obtain ⟨c, c1, c2, -⟩ := low_ex h
  have a6 := anc_ok 6 (by decide) c c1
  have hl : lies N (anc c 6) := (lies_iff a6.1 a6.2.1).mpr fun j hj => by
    have e := (sp_leaf _ a6.2.1 (by have := (anc_rng 6 (by decide) c c1).1; omega)).2
    have e2 : j = c := by
      have := hj.1
      have := hj.2
      omega
    rw [e2]
    exact c2
  obtain ⟨i, ⟨i1, i2⟩, i3⟩ := pk_least (fun i => i ≤ 6 ∧ lies N (anc c i)) ⟨6, Nat.le_refl _, hl⟩
  have ai := anc_ok i i1 c c1
  exact ⟨_, ai.1, ai.2.1, isP_anc c1 i1 i2 (fun j hj z => i3 j hj ⟨by omega, z⟩)⟩
theorem LK.congr {N : Int64} {f g : Nat → Int32} {y1 y2 y3 y4 y5 : Int32} {G : Nat → Int32} (hfg : ∀ c, c < 64 → f c = g c) (h : LK N f y1 y2 y3 y4 y5 G) : LK N g y1 y2 y3 y4 y5 G := by
  have ec : chF (fl N 6 1 f) f 64 = chF (fl N 6 1 g) g 64 := cn_congr (fun c hc => by rw [fl_all hfg c hc, hfg c hc])
  unfold LK at h ⊢
  rw [ec] at h
  rcases h with ⟨q, e1, e2, e3, e4, e5, e6⟩ | ⟨q, k, hk, e1, e2, e3, e4, e5, e6⟩
  · exact Or.inl ⟨q, e1, e2, e3, e4, e5, fun c hc => (e6 c hc).trans (fl_all hfg c hc)⟩
  · refine Or.inr ⟨q, k, hk.congr hfg, e1, e2, by rw [e3, cst_congr hfg hk.1.1 hk.1.2.1], e4, e5, fun c hc => ?_⟩
    rw [e6 c hc]
    unfold rsF
    rw [hfg c hc]
theorem hT_congr {f g : Nat → Int32} (hfg : ∀ c, c < 64 → f c = g c) : ∀ n k, 1 ≤ k → k < 128 → dep k + n = 6 → ∀ b, hT f n k b = hT g n k b := by
  intro n
  induction n with
  | zero =>
    intro k h1 hk _ b
    unfold hT
    rw [mn_congr h1 hk (fun j hj => hfg j (inK_lt h1 hk hj))]
  | succ n ih =>
    intro k h1 hk hd b
    have hk' : k < 64 := Nat.lt_of_not_le fun z => by have := (sp_deep k hk h1).mpr z; omega
    obtain ⟨e1, e2, -⟩ := sp_half k hk' h1
    unfold hT
    rw [mn_congr h1 hk (fun j hj => hfg j (inK_lt h1 hk hj)), ih (2 * k) (by omega) (by omega) (by omega), ih (2 * k + 1) (by omega) (by omega) (by omega)]
    have ea : alk f k = alk g k := propext (alk_congr h1 hk (fun j hj => hfg j (inK_lt h1 hk hj)))
    rw [ea]
theorem relC.row {h h' : ab_H} {σ : Sg} {L : List Int32} (hR : relC h σ) (hr : rowP h' 30 L) (hk : ∀ i, i ≠ 30 → i ≠ 31 → h'[i]? = h[i]?) : relC h' σ := by
  obtain ⟨r0, rc, ⟨q, r2, r3⟩, ⟨x1, x2, x3, x4, x5, r4⟩, ⟨g, r5⟩, -, -, r8, r9⟩ := hR
  obtain ⟨l1, g2, l2, -⟩ := hr
  exact ⟨(hk _ (by omega) (by omega)).trans r0, rc.kept (fun i _ _ => hk i (by omega) (by omega)), ⟨q, (hk _ (by omega) (by omega)).trans r2, r3⟩, ⟨x1, x2, x3, x4, x5, (hk _ (by omega) (by omega)).trans r4⟩, ⟨g, (hk _ (by omega) (by omega)).trans r5⟩, ⟨_, l1⟩, ⟨g2, l2⟩, r8.kept (fun i _ _ => hk i (by omega) (by omega)), r9.kept (fun i _ _ => hk i (by omega) (by omega))⟩
theorem relC.fore {h : ab_H} {σ : Sg} {y1 y2 y3 y4 y5 : Int32} {G : Nat → Int32} (hR : relC h σ) : relC (hX h 28 29 y1 y2 y3 y4 y5 G) σ := by
  obtain ⟨r0, rc, ⟨q, r2, r3⟩, ⟨x1, x2, x3, x4, x5, r4⟩, ⟨g, r5⟩, ⟨z, r6⟩, ⟨g2, r7⟩, r8, r9⟩ := hR
  have hk : ∀ i, i ≠ 28 → i ≠ 29 → (hX h 28 29 y1 y2 y3 y4 y5 G)[i]? = h[i]? := fun i i1 i2 => hX_ne (fun z => i1 z.symm) (fun z => i2 z.symm)
  exact ⟨(hk _ (by omega) (by omega)).trans r0, rc.kept (fun i _ _ => hk i (by omega) (by omega)), ⟨q, (hk _ (by omega) (by omega)).trans r2, r3⟩, ⟨y1, y2, y3, y4, y5, hX_o (hA_lt r4) (by decide)⟩, ⟨G, hX_oh (hA_lt r5)⟩, ⟨z, (hk _ (by omega) (by omega)).trans r6⟩, ⟨g2, (hk _ (by omega) (by omega)).trans r7⟩, r8.kept (fun i _ _ => hk i (by omega) (by omega)), r9.kept (fun i _ _ => hk i (by omega) (by omega))⟩
theorem sp_height (d : Nat) {h : ab_H} {σ : Sg} {x : Int32} {y : Int32} (hR : relC h σ) {post : ab_P} (hp : okC h post (heightO σ.1 y (stN σ.1 x)) (σ)) : mCC (d + 3) kSpanStamps_height [.ref 0, .int x, .int y] h post := by
  have r0 := hR.1
  have rc := hR.2.1
  rcases stamp_or σ.1 x with hx | ⟨s, hs, rfl, hx⟩
  · rw [stN_no hx] at hp
    refine ⟨rfl, ?_⟩
    show ab_W _ _ _ (0, [.ref 0, .int x, .int y, .retAddr 0], [], (0, 0), h)
    refine ab_W.go (mm _) 1 (c' := (1, [.ref 0, .int x, .int y, .retAddr 0], [.ref 0], (0, 0), h)) rfl ?_
    refine ab_W.o (mm _) (r0) rfl (c' := (4, [.ref 0, .int x, .int y, .retAddr 0], [.ref 1], (0, 0), h)) rfl ?_
    refine ab_W.go (mm _) 1 (c' := (5, [.ref 0, .int x, .int y, .retAddr 0], [.int x, .ref 1], (0, 0), h)) rfl ?_
    refine ab_W.callV (mm _) (rc.1) rfl (k := 1) (av := [.ref 1, .int x]) (c' := (8, [.ref 0, .int x, .int y, .retAddr 0], [], (0, 0), h)) rfl ?_
    refine sp_findN _ rc hx ?_
    show ab_W _ _ _ (8, [.ref 0, .int x, .int y, .retAddr 0], [.null], (0, 0), h)
    refine ab_W.go (mm _) 2 (c' := (10, [.ref 0, .int x, .int y, .null], [.null], (0, 0), h)) rfl ?_
    refine ab_W.go (mm _) 1 (c' := (13, [.ref 0, .int x, .int y, .null], [], (0, 0), h)) rfl ?_
    refine ab_W.go (mm _) 1 (c' := (14, [.ref 0, .int x, .int y, .null], [.int (-(nI 1))], (0, 0), h)) rfl ?_
    refine ab_W.retI (mm _) (rt := some .int) (v := -(nI 1)) rfl rfl ?_
    exact hp h hR (fun _ _ => rfl)
  · rw [stN_yes hs hx] at hp
    have e := (rc.2.2 s hs).1
    refine ⟨rfl, ?_⟩
    show ab_W _ _ _ (0, [.ref 0, .int (nI s), .int y, .retAddr 0], [], (0, 0), h)
    refine ab_W.go (mm _) 1 (c' := (1, [.ref 0, .int (nI s), .int y, .retAddr 0], [.ref 0], (0, 0), h)) rfl ?_
    refine ab_W.o (mm _) (r0) rfl (c' := (4, [.ref 0, .int (nI s), .int y, .retAddr 0], [.ref 1], (0, 0), h)) rfl ?_
    refine ab_W.go (mm _) 1 (c' := (5, [.ref 0, .int (nI s), .int y, .retAddr 0], [.int (nI s), .ref 1], (0, 0), h)) rfl ?_
    refine ab_W.callV (mm _) (rc.1) rfl (k := 1) (av := [.ref 1, .int (nI s)]) (c' := (8, [.ref 0, .int (nI s), .int y, .retAddr 0], [], (0, 0), h)) rfl ?_
    refine sp_find _ rc hs hx ?_
    show ab_W _ _ _ (8, [.ref 0, .int (nI s), .int y, .retAddr 0], [.ref (1 + 2 + 2 * s)], (0, 0), h)
    refine ab_W.go (mm _) 2 (c' := (10, [.ref 0, .int (nI s), .int y, .ref (1 + 2 + 2 * s)], [.ref (1 + 2 + 2 * s)], (0, 0), h)) rfl ?_
    refine ab_W.go (mm _) 1 (c' := (15, [.ref 0, .int (nI s), .int y, .ref (1 + 2 + 2 * s)], [], (0, 0), h)) rfl ?_
    refine ab_W.go (mm _) 1 (c' := (16, [.ref 0, .int (nI s), .int y, .ref (1 + 2 + 2 * s)], [.int y], (0, 0), h)) rfl ?_
    rcases pk_ix y (n := 64) (by decide) with q | q | ⟨j, j1, rfl⟩
    · rw [show heightO σ.1 y (some s) = _ from ci_t (Or.inl q)] at hp
      refine ab_W.itT (mm _) (p := y < 0) (c1 := (25, [.ref 0, .int (nI s), .int y, .ref (1 + 2 + 2 * s)], [], (0, 0), h)) (c2 := (19, [.ref 0, .int (nI s), .int y, .ref (1 + 2 + 2 * s)], [], (0, 0), h)) rfl (q) ?_
      refine ab_W.go (mm _) 1 (c' := (27, [.ref 0, .int (nI s), .int y, .ref (1 + 2 + 2 * s)], [.int (-(nI 2))], (0, 0), h)) rfl ?_
      refine ab_W.retI (mm _) (rt := some .int) (v := -(nI 2)) rfl rfl ?_
      exact hp h hR (fun _ _ => rfl)
    · rw [show heightO σ.1 y (some s) = _ from ci_t (Or.inr q)] at hp
      refine ab_W.itF (mm _) (p := y < 0) (c1 := (25, [.ref 0, .int (nI s), .int y, .ref (1 + 2 + 2 * s)], [], (0, 0), h)) (c2 := (19, [.ref 0, .int (nI s), .int y, .ref (1 + 2 + 2 * s)], [], (0, 0), h)) rfl (nI_le0 q (by decide)) ?_
      refine ab_W.go (mm _) 2 (c' := (22, [.ref 0, .int (nI s), .int y, .ref (1 + 2 + 2 * s)], [.int (nI 64), .int y], (0, 0), h)) rfl ?_
      refine ab_W.itF (mm _) (p := y < (nI 64)) (c1 := (28, [.ref 0, .int (nI s), .int y, .ref (1 + 2 + 2 * s)], [], (0, 0), h)) (c2 := (25, [.ref 0, .int (nI s), .int y, .ref (1 + 2 + 2 * s)], [], (0, 0), h)) rfl (fun z => Int32.not_le.mpr z q) ?_
      refine ab_W.go (mm _) 1 (c' := (27, [.ref 0, .int (nI s), .int y, .ref (1 + 2 + 2 * s)], [.int (-(nI 2))], (0, 0), h)) rfl ?_
      refine ab_W.retI (mm _) (rt := some .int) (v := -(nI 2)) rfl rfl ?_
      exact hp h hR (fun _ _ => rfl)
    · rw [show heightO σ.1 (nI j) (some s) = _ from ci_f (fun z => z.elim (nI_pos (by omega)) (fun z => absurd ((nI_leI (by omega) (by omega)).mp z) (by omega))), nI_clamp (by omega)] at hp
      refine ab_W.itF (mm _) (p := (nI j) < 0) (c1 := (25, [.ref 0, .int (nI s), .int (nI j), .ref (1 + 2 + 2 * s)], [], (0, 0), h)) (c2 := (19, [.ref 0, .int (nI s), .int (nI j), .ref (1 + 2 + 2 * s)], [], (0, 0), h)) rfl (nI_pos (by omega)) ?_
      refine ab_W.go (mm _) 2 (c' := (22, [.ref 0, .int (nI s), .int (nI j), .ref (1 + 2 + 2 * s)], [.int (nI 64), .int (nI j)], (0, 0), h)) rfl ?_
      refine ab_W.itT (mm _) (p := (nI j) < (nI 64)) (c1 := (28, [.ref 0, .int (nI s), .int (nI j), .ref (1 + 2 + 2 * s)], [], (0, 0), h)) (c2 := (25, [.ref 0, .int (nI s), .int (nI j), .ref (1 + 2 + 2 * s)], [], (0, 0), h)) rfl (nI_lt j1 (by omega)) ?_
      refine ab_W.go (mm _) 1 (c' := (29, [.ref 0, .int (nI s), .int (nI j), .ref (1 + 2 + 2 * s)], [.ref (1 + 2 + 2 * s)], (0, 0), h)) rfl ?_
      refine ab_W.o (mm _) (e) rfl (c' := (32, [.ref 0, .int (nI s), .int (nI j), .ref (1 + 2 + 2 * s)], [.ref (1 + 2 + 2 * s + 1)], (0, 0), h)) rfl ?_
      refine ab_W.go (mm _) 1 (c' := (33, [.ref 0, .int (nI s), .int (nI j), .ref (1 + 2 + 2 * s)], [.int (nI j), .ref (1 + 2 + 2 * s + 1)], (0, 0), h)) rfl ?_
      obtain ⟨-, g, f2, f3⟩ := rc.2.2 s hs
      refine ab_W.iald (mm _) (j := j) (f2) rfl (by omega) rfl rfl ?_
      show ab_W _ _ _ (34, [.ref 0, .int (nI s), .int (nI j), .ref (1 + 2 + 2 * s)], [.int (g j)], (0, 0), h)
      rw [f3 j j1]
      refine ab_W.retI (mm _) (rt := some .int) (v := ht σ.1 s j) rfl rfl ?_
      exact hp h hR (fun _ _ => rfl)
theorem sp_knows (d : Nat) {h : ab_H} {σ : Sg} {x : Int32} {y : Int32} (hR : relC h σ) (hn60 : hn σ.1 ≤ 60) {post : ab_P} (hp : okC h post (knowsO σ.1 y (stN σ.1 x)) (σ)) : mCC (d + 3) kSpanStamps_knows [.ref 0, .int x, .int y] h post := by
  have r0 := hR.1
  have rc := hR.2.1
  rcases stamp_or σ.1 x with hx | ⟨s, hs, rfl, hx⟩
  · rw [stN_no hx] at hp
    refine ⟨rfl, ?_⟩
    show ab_W _ _ _ (0, [.ref 0, .int x, .int y, .retAddr 0], [], (0, 0), h)
    refine ab_W.go (mm _) 1 (c' := (1, [.ref 0, .int x, .int y, .retAddr 0], [.ref 0], (0, 0), h)) rfl ?_
    refine ab_W.o (mm _) (r0) rfl (c' := (4, [.ref 0, .int x, .int y, .retAddr 0], [.ref 1], (0, 0), h)) rfl ?_
    refine ab_W.go (mm _) 1 (c' := (5, [.ref 0, .int x, .int y, .retAddr 0], [.int x, .ref 1], (0, 0), h)) rfl ?_
    refine ab_W.callV (mm _) (rc.1) rfl (k := 1) (av := [.ref 1, .int x]) (c' := (8, [.ref 0, .int x, .int y, .retAddr 0], [], (0, 0), h)) rfl ?_
    refine sp_findN _ rc hx ?_
    show ab_W _ _ _ (8, [.ref 0, .int x, .int y, .retAddr 0], [.null], (0, 0), h)
    refine ab_W.go (mm _) 2 (c' := (10, [.ref 0, .int x, .int y, .null], [.null], (0, 0), h)) rfl ?_
    refine ab_W.go (mm _) 1 (c' := (13, [.ref 0, .int x, .int y, .null], [], (0, 0), h)) rfl ?_
    refine ab_W.go (mm _) 1 (c' := (14, [.ref 0, .int x, .int y, .null], [.int (-(nI 1))], (0, 0), h)) rfl ?_
    refine ab_W.retI (mm _) (rt := some .int) (v := -(nI 1)) rfl rfl ?_
    exact hp h hR (fun _ _ => rfl)
  · rw [stN_yes hs hx] at hp
    have e := (rc.2.2 s hs).1
    refine ⟨rfl, ?_⟩
    show ab_W _ _ _ (0, [.ref 0, .int (nI s), .int y, .retAddr 0], [], (0, 0), h)
    refine ab_W.go (mm _) 1 (c' := (1, [.ref 0, .int (nI s), .int y, .retAddr 0], [.ref 0], (0, 0), h)) rfl ?_
    refine ab_W.o (mm _) (r0) rfl (c' := (4, [.ref 0, .int (nI s), .int y, .retAddr 0], [.ref 1], (0, 0), h)) rfl ?_
    refine ab_W.go (mm _) 1 (c' := (5, [.ref 0, .int (nI s), .int y, .retAddr 0], [.int (nI s), .ref 1], (0, 0), h)) rfl ?_
    refine ab_W.callV (mm _) (rc.1) rfl (k := 1) (av := [.ref 1, .int (nI s)]) (c' := (8, [.ref 0, .int (nI s), .int y, .retAddr 0], [], (0, 0), h)) rfl ?_
    refine sp_find _ rc hs hx ?_
    show ab_W _ _ _ (8, [.ref 0, .int (nI s), .int y, .retAddr 0], [.ref (1 + 2 + 2 * s)], (0, 0), h)
    refine ab_W.go (mm _) 2 (c' := (10, [.ref 0, .int (nI s), .int y, .ref (1 + 2 + 2 * s)], [.ref (1 + 2 + 2 * s)], (0, 0), h)) rfl ?_
    refine ab_W.go (mm _) 1 (c' := (15, [.ref 0, .int (nI s), .int y, .ref (1 + 2 + 2 * s)], [], (0, 0), h)) rfl ?_
    refine ab_W.go (mm _) 2 (c' := (17, [.ref 0, .int (nI s), .int y, .ref (1 + 2 + 2 * s)], [.int (-(nI 1)), .int y], (0, 0), h)) rfl ?_
    refine ab_W.ite (mm _) (p := y = (-(nI 1))) (c1 := (20, [.ref 0, .int (nI s), .int y, .ref (1 + 2 + 2 * s)], [], (0, 0), h)) (c2 := (28, [.ref 0, .int (nI s), .int y, .ref (1 + 2 + 2 * s)], [], (0, 0), h)) rfl (fun q => ?_) (fun q => ?_)
    · skip
      rw [show knowsO σ.1 y (some s) = _ from ci_t q] at hp
      refine ab_W.go (mm _) 1 (c' := (21, [.ref 0, .int (nI s), .int y, .ref (1 + 2 + 2 * s)], [.ref (1 + 2 + 2 * s)], (0, 0), h)) rfl ?_
      refine ab_W.o (mm _) (e) rfl (c' := (24, [.ref 0, .int (nI s), .int y, .ref (1 + 2 + 2 * s)], [.long (kn σ.1 s)], (0, 0), h)) rfl ?_
      refine ab_W.call (mm _) (k := 122) (av := [.long (kn σ.1 s)]) (c' := (27, [.ref 0, .int (nI s), .int y, .ref (1 + 2 + 2 * s)], [], (0, 0), h)) rfl ?_
      refine bit_count _ ?_
      show ab_W _ _ _ (27, [.ref 0, .int (nI s), .int y, .ref (1 + 2 + 2 * s)], [.int (nI (cnt (kn σ.1 s) 64))], (0, 0), h)
      refine ab_W.retI (mm _) (rt := some .int) (v := nI (cnt (kn σ.1 s) 64)) rfl rfl ?_
      exact hp h hR (fun _ _ => rfl)
    · skip
      refine ab_W.go (mm _) 1 (c' := (29, [.ref 0, .int (nI s), .int y, .ref (1 + 2 + 2 * s)], [.int y], (0, 0), h)) rfl ?_
      rcases pk_ix y (n := hn σ.1) (by omega) with q1 | q1 | ⟨j, j1, rfl⟩
      · rw [show knowsO σ.1 y (some s) = _ from (ci_f q).trans (ci_t (Or.inl q1))] at hp
        refine ab_W.itT (mm _) (p := y < 0) (c1 := (43, [.ref 0, .int (nI s), .int y, .ref (1 + 2 + 2 * s)], [], (0, 0), h)) (c2 := (32, [.ref 0, .int (nI s), .int y, .ref (1 + 2 + 2 * s)], [], (0, 0), h)) rfl (q1) ?_
        refine ab_W.go (mm _) 1 (c' := (45, [.ref 0, .int (nI s), .int y, .ref (1 + 2 + 2 * s)], [.int (-(nI 2))], (0, 0), h)) rfl ?_
        refine ab_W.retI (mm _) (rt := some .int) (v := -(nI 2)) rfl rfl ?_
        exact hp h hR (fun _ _ => rfl)
      · rw [show knowsO σ.1 y (some s) = _ from (ci_f q).trans (ci_t (Or.inr q1))] at hp
        refine ab_W.itF (mm _) (p := y < 0) (c1 := (43, [.ref 0, .int (nI s), .int y, .ref (1 + 2 + 2 * s)], [], (0, 0), h)) (c2 := (32, [.ref 0, .int (nI s), .int y, .ref (1 + 2 + 2 * s)], [], (0, 0), h)) rfl (nI_le0 q1 (by omega)) ?_
        refine ab_W.go (mm _) 2 (c' := (34, [.ref 0, .int (nI s), .int y, .ref (1 + 2 + 2 * s)], [.ref 0, .int y], (0, 0), h)) rfl ?_
        refine ab_W.o (mm _) (r0) rfl (c' := (37, [.ref 0, .int (nI s), .int y, .ref (1 + 2 + 2 * s)], [.ref 1, .int y], (0, 0), h)) rfl ?_
        refine ab_W.o (mm _) (rc.1) rfl (c' := (40, [.ref 0, .int (nI s), .int y, .ref (1 + 2 + 2 * s)], [.int (nI (hn σ.1)), .int y], (0, 0), h)) rfl ?_
        refine ab_W.itF (mm _) (p := y < (nI (hn σ.1))) (c1 := (46, [.ref 0, .int (nI s), .int y, .ref (1 + 2 + 2 * s)], [], (0, 0), h)) (c2 := (43, [.ref 0, .int (nI s), .int y, .ref (1 + 2 + 2 * s)], [], (0, 0), h)) rfl (fun z => Int32.not_le.mpr z q1) ?_
        refine ab_W.go (mm _) 1 (c' := (45, [.ref 0, .int (nI s), .int y, .ref (1 + 2 + 2 * s)], [.int (-(nI 2))], (0, 0), h)) rfl ?_
        refine ab_W.retI (mm _) (rt := some .int) (v := -(nI 2)) rfl rfl ?_
        exact hp h hR (fun _ _ => rfl)
      · rw [show knowsO σ.1 (nI j) (some s) = _ from (ci_f q).trans (ci_f (fun z => z.elim (nI_pos (by omega)) (fun z => absurd ((nI_leI (by omega) (by omega)).mp z) (by omega)))), nI_clamp (by omega)] at hp
        refine ab_W.itF (mm _) (p := (nI j) < 0) (c1 := (43, [.ref 0, .int (nI s), .int (nI j), .ref (1 + 2 + 2 * s)], [], (0, 0), h)) (c2 := (32, [.ref 0, .int (nI s), .int (nI j), .ref (1 + 2 + 2 * s)], [], (0, 0), h)) rfl (nI_pos (by omega)) ?_
        refine ab_W.go (mm _) 2 (c' := (34, [.ref 0, .int (nI s), .int (nI j), .ref (1 + 2 + 2 * s)], [.ref 0, .int (nI j)], (0, 0), h)) rfl ?_
        refine ab_W.o (mm _) (r0) rfl (c' := (37, [.ref 0, .int (nI s), .int (nI j), .ref (1 + 2 + 2 * s)], [.ref 1, .int (nI j)], (0, 0), h)) rfl ?_
        refine ab_W.o (mm _) (rc.1) rfl (c' := (40, [.ref 0, .int (nI s), .int (nI j), .ref (1 + 2 + 2 * s)], [.int (nI (hn σ.1)), .int (nI j)], (0, 0), h)) rfl ?_
        refine ab_W.itT (mm _) (p := (nI j) < (nI (hn σ.1))) (c1 := (46, [.ref 0, .int (nI s), .int (nI j), .ref (1 + 2 + 2 * s)], [], (0, 0), h)) (c2 := (43, [.ref 0, .int (nI s), .int (nI j), .ref (1 + 2 + 2 * s)], [], (0, 0), h)) rfl (nI_lt j1 (by omega)) ?_
        refine ab_W.go (mm _) 1 (c' := (47, [.ref 0, .int (nI s), .int (nI j), .ref (1 + 2 + 2 * s)], [.ref (1 + 2 + 2 * s)], (0, 0), h)) rfl ?_
        refine ab_W.o (mm _) (e) rfl (c' := (50, [.ref 0, .int (nI s), .int (nI j), .ref (1 + 2 + 2 * s)], [.long (kn σ.1 s)], (0, 0), h)) rfl ?_
        refine ab_W.go (mm _) 6 (c' := (56, [.ref 0, .int (nI s), .int (nI j), .ref (1 + 2 + 2 * s)], [.int (lg_cmp ((kn σ.1 s) &&& ((lN 1) <<< ((nI j).toInt64 &&& 63))) (lN 0))], (0, 0), h)) rfl ?_
        refine ab_W.ite (mm _) (p := (lg_cmp ((kn σ.1 s) &&& ((lN 1) <<< ((nI j).toInt64 &&& 63))) (lN 0)) = 0) (c1 := (63, [.ref 0, .int (nI s), .int (nI j), .ref (1 + 2 + 2 * s)], [], (0, 0), h)) (c2 := (59, [.ref 0, .int (nI s), .int (nI j), .ref (1 + 2 + 2 * s)], [], (0, 0), h)) rfl (fun q2 => ?_) (fun q2 => ?_)
        · skip
          have q2 := (and_one (by omega)).mp ((lg_cmp0 _ _).mp q2)
          rw [q2] at hp
          refine ab_W.go (mm _) 1 (c' := (64, [.ref 0, .int (nI s), .int (nI j), .ref (1 + 2 + 2 * s)], [.int (nI 0)], (0, 0), h)) rfl ?_
          refine ab_W.retI (mm _) (rt := some .int) (v := nI 0) rfl rfl ?_
          exact hp h hR (fun _ _ => rfl)
        · skip
          have q2 : bt (kn σ.1 s) j = true := by
            cases hb : bt (kn σ.1 s) j with
            | true => rfl
            | false => exact absurd ((lg_cmp0 _ _).mpr ((and_one (by omega)).mpr hb)) q2
          rw [q2] at hp
          refine ab_W.go (mm _) 2 (c' := (64, [.ref 0, .int (nI s), .int (nI j), .ref (1 + 2 + 2 * s)], [.int (nI 1)], (0, 0), h)) rfl ?_
          refine ab_W.retI (mm _) (rt := some .int) (v := nI 1) rfl rfl ?_
          exact hp h hR (fun _ _ => rfl)
theorem sp_name (d : Nat) {h : ab_H} {σ : Sg} {x : Int32} {y : Int32} (hR : relC h σ) {post : ab_P} (hp : okC h post (nameO σ.1 y (stN σ.1 x)) (σ)) : mCC (d + 13) kSpanStamps_name [.ref 0, .int x, .int y] h post := by
  have r0 := hR.1
  have rc := hR.2.1
  rcases stamp_or σ.1 x with hx | ⟨s, hs, rfl, hx⟩
  · rw [stN_no hx] at hp
    refine ⟨rfl, ?_⟩
    show ab_W _ _ _ (0, [.ref 0, .int x, .int y, .retAddr 0], [], (0, 0), h)
    refine ab_W.go (mm _) 1 (c' := (1, [.ref 0, .int x, .int y, .retAddr 0], [.ref 0], (0, 0), h)) rfl ?_
    refine ab_W.o (mm _) (r0) rfl (c' := (4, [.ref 0, .int x, .int y, .retAddr 0], [.ref 1], (0, 0), h)) rfl ?_
    refine ab_W.go (mm _) 1 (c' := (5, [.ref 0, .int x, .int y, .retAddr 0], [.int x, .ref 1], (0, 0), h)) rfl ?_
    refine ab_W.callV (mm _) (rc.1) rfl (k := 1) (av := [.ref 1, .int x]) (c' := (8, [.ref 0, .int x, .int y, .retAddr 0], [], (0, 0), h)) rfl ?_
    refine sp_findN _ rc hx ?_
    show ab_W _ _ _ (8, [.ref 0, .int x, .int y, .retAddr 0], [.null], (0, 0), h)
    refine ab_W.go (mm _) 2 (c' := (10, [.ref 0, .int x, .int y, .null], [.null], (0, 0), h)) rfl ?_
    refine ab_W.go (mm _) 1 (c' := (13, [.ref 0, .int x, .int y, .null], [], (0, 0), h)) rfl ?_
    refine ab_W.go (mm _) 1 (c' := (14, [.ref 0, .int x, .int y, .null], [.int (-(nI 1))], (0, 0), h)) rfl ?_
    refine ab_W.retI (mm _) (rt := some .int) (v := -(nI 1)) rfl rfl ?_
    exact hp h hR (fun _ _ => rfl)
  · rw [stN_yes hs hx] at hp
    have e := (rc.2.2 s hs).1
    refine ⟨rfl, ?_⟩
    show ab_W _ _ _ (0, [.ref 0, .int (nI s), .int y, .retAddr 0], [], (0, 0), h)
    refine ab_W.go (mm _) 1 (c' := (1, [.ref 0, .int (nI s), .int y, .retAddr 0], [.ref 0], (0, 0), h)) rfl ?_
    refine ab_W.o (mm _) (r0) rfl (c' := (4, [.ref 0, .int (nI s), .int y, .retAddr 0], [.ref 1], (0, 0), h)) rfl ?_
    refine ab_W.go (mm _) 1 (c' := (5, [.ref 0, .int (nI s), .int y, .retAddr 0], [.int (nI s), .ref 1], (0, 0), h)) rfl ?_
    refine ab_W.callV (mm _) (rc.1) rfl (k := 1) (av := [.ref 1, .int (nI s)]) (c' := (8, [.ref 0, .int (nI s), .int y, .retAddr 0], [], (0, 0), h)) rfl ?_
    refine sp_find _ rc hs hx ?_
    show ab_W _ _ _ (8, [.ref 0, .int (nI s), .int y, .retAddr 0], [.ref (1 + 2 + 2 * s)], (0, 0), h)
    refine ab_W.go (mm _) 2 (c' := (10, [.ref 0, .int (nI s), .int y, .ref (1 + 2 + 2 * s)], [.ref (1 + 2 + 2 * s)], (0, 0), h)) rfl ?_
    refine ab_W.go (mm _) 1 (c' := (15, [.ref 0, .int (nI s), .int y, .ref (1 + 2 + 2 * s)], [], (0, 0), h)) rfl ?_
    refine ab_W.go (mm _) 2 (c' := (17, [.ref 0, .int (nI s), .int y, .ref (1 + 2 + 2 * s)], [.int (-(nI 1)), .int y], (0, 0), h)) rfl ?_
    refine ab_W.ite (mm _) (p := (-(nI 1)) ≤ y) (c1 := (23, [.ref 0, .int (nI s), .int y, .ref (1 + 2 + 2 * s)], [], (0, 0), h)) (c2 := (20, [.ref 0, .int (nI s), .int y, .ref (1 + 2 + 2 * s)], [], (0, 0), h)) rfl (fun q => ?_) (fun q => ?_)
    · skip
      rw [show nameO σ.1 y (some s) = _ from ci_f (fun z => Int32.not_le.mpr z q)] at hp
      obtain ⟨-, g, f2, f3⟩ := rc.2.2 s hs
      obtain ⟨-, -, -, -, -, ⟨z, r6⟩, ⟨g2, r7⟩, -, -⟩ := id hR
      refine ab_W.go (mm _) 1 (c' := (24, [.ref 0, .int (nI s), .int y, .ref (1 + 2 + 2 * s)], [.ref 0], (0, 0), h)) rfl ?_
      refine ab_W.o (mm _) (r0) rfl (c' := (27, [.ref 0, .int (nI s), .int y, .ref (1 + 2 + 2 * s)], [.ref 30], (0, 0), h)) rfl ?_
      refine ab_W.go (mm _) 1 (c' := (28, [.ref 0, .int (nI s), .int y, .ref (1 + 2 + 2 * s)], [.int (nI 0), .ref 30], (0, 0), h)) rfl ?_
      refine ab_W.o (mm _) (r6) rfl (c' := (31, [.ref 0, .int (nI s), .int y, .ref (1 + 2 + 2 * s)], [], (0, 0), h.set 30 (.inr (2, [.ref 31, .int (nI 0)])))) rfl ?_
      obtain ⟨h1, e1⟩ : ∃ h1, h1 = h.set 30 (.inr (2, [.ref 31, .int (nI 0)])) := ⟨_, rfl⟩
      refine ab_W.hp (e1.symm) ?_
      show ab_W _ _ _ (31, [.ref 0, .int (nI s), .int y, .ref (1 + 2 + 2 * s)], [], (0, 0), h1)
      have k1 : ∀ i, i ≠ 30 → h1[i]? = h[i]? := fun i hi => by rw [e1]; exact set_ne (fun z => hi z.symm)
      have r1 : rowP h1 30 [] := ⟨by rw [e1]; exact set_at r6, g2, (k1 _ (by decide)).trans r7, fun i hi => absurd hi (Nat.not_lt_zero _)⟩
      have r0' := (k1 0 (by decide)).trans r0
      have e := (k1 _ (by omega)).trans e
      refine ab_W.go (mm _) 1 (c' := (32, [.ref 0, .int (nI s), .int y, .ref (1 + 2 + 2 * s)], [.ref 0], (0, 0), h1)) rfl ?_
      refine ab_W.o (mm _) (r0') rfl (c' := (35, [.ref 0, .int (nI s), .int y, .ref (1 + 2 + 2 * s)], [.ref 30], (0, 0), h1)) rfl ?_
      refine ab_W.go (mm _) 1 (c' := (36, [.ref 0, .int (nI s), .int y, .ref (1 + 2 + 2 * s)], [.ref (1 + 2 + 2 * s), .ref 30], (0, 0), h1)) rfl ?_
      refine ab_W.o (mm _) (e) rfl (c' := (39, [.ref 0, .int (nI s), .int y, .ref (1 + 2 + 2 * s)], [.long (nm σ.1 s), .ref 30], (0, 0), h1)) rfl ?_
      refine ab_W.go (mm _) 2 (c' := (41, [.ref 0, .int (nI s), .int y, .ref (1 + 2 + 2 * s)], [.int (nI 0), .int (nI 0), .long (nm σ.1 s), .ref 30], (0, 0), h1)) rfl ?_
      refine ab_W.call (mm _) (k := 61) (av := [.ref 30, .long (nm σ.1 s), .int (nI 0), .int (nI 0)]) (c' := (44, [.ref 0, .int (nI s), .int y, .ref (1 + 2 + 2 * s)], [], (0, 0), h1)) rfl ?_
      refine sp_wName 6 1 (by decide) (by decide) (by decide) _ (by omega) h1 [] r1 (by have := nT_len (nm σ.1 s) 6 1; simp only [List.length_nil]; omega) (fun h2 r2 k2 => ?_)
      have r2 : rowP h2 30 (nT (nm σ.1 s) 6 1) := r2
      show ab_W _ _ _ (44, [.ref 0, .int (nI s), .int y, .ref (1 + 2 + 2 * s)], [], (0, 0), h2)
      refine ab_W.go (mm _) 1 (c' := (45, [.ref 0, .int (nI s), .int y, .ref (1 + 2 + 2 * s)], [.ref 0], (0, 0), h2)) rfl ?_
      refine ab_W.o (mm _) ((k2 0 (by decide) (by decide)).trans r0') rfl (c' := (48, [.ref 0, .int (nI s), .int y, .ref (1 + 2 + 2 * s)], [.ref 30], (0, 0), h2)) rfl ?_
      refine ab_W.go (mm _) 1 (c' := (49, [.ref 0, .int (nI s), .int y, .ref (1 + 2 + 2 * s)], [.int y, .ref 30], (0, 0), h2)) rfl ?_
      refine ab_W.callV (mm _) (r2.1) rfl (k := 21) (av := [.ref 30, .int y]) (c' := (52, [.ref 0, .int (nI s), .int y, .ref (1 + 2 + 2 * s)], [], (0, 0), h2)) rfl ?_
      refine sp_tell _ r2 (by have := nT_len (nm σ.1 s) 6 1; omega) ?_
      show ab_W _ _ _ (52, [.ref 0, .int (nI s), .int y, .ref (1 + 2 + 2 * s)], [.int (tlF (nT (nm σ.1 s) 6 1) y)], (0, 0), h2)
      refine ab_W.retI (mm _) (rt := some .int) (v := tlF (nT (nm σ.1 s) 6 1) y) rfl rfl ?_
      exact hp _ (hR.row r2 (fun i i1 i2 => (k2 i i1 i2).trans (k1 i i1))) (fun i hi => (k2 i (by omega) (by omega)).trans (k1 i (by omega)))
    · skip
      rw [show nameO σ.1 y (some s) = _ from ci_t (Int32.not_le.mp q)] at hp
      refine ab_W.go (mm _) 1 (c' := (22, [.ref 0, .int (nI s), .int y, .ref (1 + 2 + 2 * s)], [.int (-(nI 2))], (0, 0), h)) rfl ?_
      refine ab_W.retI (mm _) (rt := some .int) (v := -(nI 2)) rfl rfl ?_
      exact hp h hR (fun _ _ => rfl)
theorem sp_tree (d : Nat) {h : ab_H} {σ : Sg} {x : Int32} {y : Int32} (hR : relC h σ) {post : ab_P} (hp : okC h post (treeO σ.1 y (stN σ.1 x)) (σ)) : mCC (d + 13) kSpanStamps_tree [.ref 0, .int x, .int y] h post := by
  have r0 := hR.1
  have rc := hR.2.1
  rcases stamp_or σ.1 x with hx | ⟨s, hs, rfl, hx⟩
  · rw [stN_no hx] at hp
    refine ⟨rfl, ?_⟩
    show ab_W _ _ _ (0, [.ref 0, .int x, .int y, .retAddr 0], [], (0, 0), h)
    refine ab_W.go (mm _) 1 (c' := (1, [.ref 0, .int x, .int y, .retAddr 0], [.ref 0], (0, 0), h)) rfl ?_
    refine ab_W.o (mm _) (r0) rfl (c' := (4, [.ref 0, .int x, .int y, .retAddr 0], [.ref 1], (0, 0), h)) rfl ?_
    refine ab_W.go (mm _) 1 (c' := (5, [.ref 0, .int x, .int y, .retAddr 0], [.int x, .ref 1], (0, 0), h)) rfl ?_
    refine ab_W.callV (mm _) (rc.1) rfl (k := 1) (av := [.ref 1, .int x]) (c' := (8, [.ref 0, .int x, .int y, .retAddr 0], [], (0, 0), h)) rfl ?_
    refine sp_findN _ rc hx ?_
    show ab_W _ _ _ (8, [.ref 0, .int x, .int y, .retAddr 0], [.null], (0, 0), h)
    refine ab_W.go (mm _) 2 (c' := (10, [.ref 0, .int x, .int y, .null], [.null], (0, 0), h)) rfl ?_
    refine ab_W.go (mm _) 1 (c' := (13, [.ref 0, .int x, .int y, .null], [], (0, 0), h)) rfl ?_
    refine ab_W.go (mm _) 1 (c' := (14, [.ref 0, .int x, .int y, .null], [.int (-(nI 1))], (0, 0), h)) rfl ?_
    refine ab_W.retI (mm _) (rt := some .int) (v := -(nI 1)) rfl rfl ?_
    exact hp h hR (fun _ _ => rfl)
  · rw [stN_yes hs hx] at hp
    have e := (rc.2.2 s hs).1
    refine ⟨rfl, ?_⟩
    show ab_W _ _ _ (0, [.ref 0, .int (nI s), .int y, .retAddr 0], [], (0, 0), h)
    refine ab_W.go (mm _) 1 (c' := (1, [.ref 0, .int (nI s), .int y, .retAddr 0], [.ref 0], (0, 0), h)) rfl ?_
    refine ab_W.o (mm _) (r0) rfl (c' := (4, [.ref 0, .int (nI s), .int y, .retAddr 0], [.ref 1], (0, 0), h)) rfl ?_
    refine ab_W.go (mm _) 1 (c' := (5, [.ref 0, .int (nI s), .int y, .retAddr 0], [.int (nI s), .ref 1], (0, 0), h)) rfl ?_
    refine ab_W.callV (mm _) (rc.1) rfl (k := 1) (av := [.ref 1, .int (nI s)]) (c' := (8, [.ref 0, .int (nI s), .int y, .retAddr 0], [], (0, 0), h)) rfl ?_
    refine sp_find _ rc hs hx ?_
    show ab_W _ _ _ (8, [.ref 0, .int (nI s), .int y, .retAddr 0], [.ref (1 + 2 + 2 * s)], (0, 0), h)
    refine ab_W.go (mm _) 2 (c' := (10, [.ref 0, .int (nI s), .int y, .ref (1 + 2 + 2 * s)], [.ref (1 + 2 + 2 * s)], (0, 0), h)) rfl ?_
    refine ab_W.go (mm _) 1 (c' := (15, [.ref 0, .int (nI s), .int y, .ref (1 + 2 + 2 * s)], [], (0, 0), h)) rfl ?_
    refine ab_W.go (mm _) 2 (c' := (17, [.ref 0, .int (nI s), .int y, .ref (1 + 2 + 2 * s)], [.int (-(nI 1)), .int y], (0, 0), h)) rfl ?_
    refine ab_W.ite (mm _) (p := (-(nI 1)) ≤ y) (c1 := (23, [.ref 0, .int (nI s), .int y, .ref (1 + 2 + 2 * s)], [], (0, 0), h)) (c2 := (20, [.ref 0, .int (nI s), .int y, .ref (1 + 2 + 2 * s)], [], (0, 0), h)) rfl (fun q => ?_) (fun q => ?_)
    · skip
      rw [show treeO σ.1 y (some s) = _ from ci_f (fun z => Int32.not_le.mpr z q)] at hp
      obtain ⟨-, g, f2, f3⟩ := rc.2.2 s hs
      obtain ⟨-, -, -, -, -, ⟨z, r6⟩, ⟨g2, r7⟩, -, -⟩ := id hR
      refine ab_W.go (mm _) 1 (c' := (24, [.ref 0, .int (nI s), .int y, .ref (1 + 2 + 2 * s)], [.ref 0], (0, 0), h)) rfl ?_
      refine ab_W.o (mm _) (r0) rfl (c' := (27, [.ref 0, .int (nI s), .int y, .ref (1 + 2 + 2 * s)], [.ref 30], (0, 0), h)) rfl ?_
      refine ab_W.go (mm _) 1 (c' := (28, [.ref 0, .int (nI s), .int y, .ref (1 + 2 + 2 * s)], [.int (nI 0), .ref 30], (0, 0), h)) rfl ?_
      refine ab_W.o (mm _) (r6) rfl (c' := (31, [.ref 0, .int (nI s), .int y, .ref (1 + 2 + 2 * s)], [], (0, 0), h.set 30 (.inr (2, [.ref 31, .int (nI 0)])))) rfl ?_
      obtain ⟨h1, e1⟩ : ∃ h1, h1 = h.set 30 (.inr (2, [.ref 31, .int (nI 0)])) := ⟨_, rfl⟩
      refine ab_W.hp (e1.symm) ?_
      show ab_W _ _ _ (31, [.ref 0, .int (nI s), .int y, .ref (1 + 2 + 2 * s)], [], (0, 0), h1)
      have k1 : ∀ i, i ≠ 30 → h1[i]? = h[i]? := fun i hi => by rw [e1]; exact set_ne (fun z => hi z.symm)
      have r1 : rowP h1 30 [] := ⟨by rw [e1]; exact set_at r6, g2, (k1 _ (by decide)).trans r7, fun i hi => absurd hi (Nat.not_lt_zero _)⟩
      have r0' := (k1 0 (by decide)).trans r0
      have e := (k1 _ (by omega)).trans e
      refine ab_W.go (mm _) 1 (c' := (32, [.ref 0, .int (nI s), .int y, .ref (1 + 2 + 2 * s)], [.ref 0], (0, 0), h1)) rfl ?_
      refine ab_W.o (mm _) (r0') rfl (c' := (35, [.ref 0, .int (nI s), .int y, .ref (1 + 2 + 2 * s)], [.ref 30], (0, 0), h1)) rfl ?_
      refine ab_W.go (mm _) 1 (c' := (36, [.ref 0, .int (nI s), .int y, .ref (1 + 2 + 2 * s)], [.ref (1 + 2 + 2 * s), .ref 30], (0, 0), h1)) rfl ?_
      refine ab_W.o (mm _) (e) rfl (c' := (39, [.ref 0, .int (nI s), .int y, .ref (1 + 2 + 2 * s)], [.ref (1 + 2 + 2 * s + 1), .ref 30], (0, 0), h1)) rfl ?_
      refine ab_W.go (mm _) 3 (c' := (42, [.ref 0, .int (nI s), .int y, .ref (1 + 2 + 2 * s)], [.int (nI 0), .int (nI 0), .int (nI 0), .ref (1 + 2 + 2 * s + 1), .ref 30], (0, 0), h1)) rfl ?_
      refine ab_W.call (mm _) (k := 62) (av := [.ref 30, .ref (1 + 2 + 2 * s + 1), .int (nI 0), .int (nI 0), .int (nI 0)]) (c' := (45, [.ref 0, .int (nI s), .int y, .ref (1 + 2 + 2 * s)], [], (0, 0), h1)) rfl ?_
      refine sp_wHeights (by omega) (by omega) 6 1 (by decide) (by decide) (by decide) _ (by omega) h1 [] (nI 0) r1 ((k1 _ (by omega)).trans f2) (by have := hT_len g 6 1 (nI 0); simp only [List.length_nil]; omega) (fun h2 r2 k2 => ?_)
      have r2 : rowP h2 30 (hT g 6 1 (nI 0)) := r2
      rw [hT_congr f3 6 1 (by decide) (by decide) (by decide)] at r2
      show ab_W _ _ _ (45, [.ref 0, .int (nI s), .int y, .ref (1 + 2 + 2 * s)], [], (0, 0), h2)
      refine ab_W.go (mm _) 1 (c' := (46, [.ref 0, .int (nI s), .int y, .ref (1 + 2 + 2 * s)], [.ref 0], (0, 0), h2)) rfl ?_
      refine ab_W.o (mm _) ((k2 0 (by decide) (by decide)).trans r0') rfl (c' := (49, [.ref 0, .int (nI s), .int y, .ref (1 + 2 + 2 * s)], [.ref 30], (0, 0), h2)) rfl ?_
      refine ab_W.go (mm _) 1 (c' := (50, [.ref 0, .int (nI s), .int y, .ref (1 + 2 + 2 * s)], [.int y, .ref 30], (0, 0), h2)) rfl ?_
      refine ab_W.callV (mm _) (r2.1) rfl (k := 21) (av := [.ref 30, .int y]) (c' := (53, [.ref 0, .int (nI s), .int y, .ref (1 + 2 + 2 * s)], [], (0, 0), h2)) rfl ?_
      refine sp_tell _ r2 (by have := hT_len (ht σ.1 s) 6 1 (nI 0); omega) ?_
      show ab_W _ _ _ (53, [.ref 0, .int (nI s), .int y, .ref (1 + 2 + 2 * s)], [.int (tlF (hT (ht σ.1 s) 6 1 (nI 0)) y)], (0, 0), h2)
      refine ab_W.retI (mm _) (rt := some .int) (v := tlF (hT (ht σ.1 s) 6 1 (nI 0)) y) rfl rfl ?_
      exact hp _ (hR.row r2 (fun i i1 i2 => (k2 i i1 i2).trans (k1 i i1))) (fun i hi => (k2 i (by omega) (by omega)).trans (k1 i (by omega)))
    · skip
      rw [show treeO σ.1 y (some s) = _ from ci_t (Int32.not_le.mp q)] at hp
      refine ab_W.go (mm _) 1 (c' := (22, [.ref 0, .int (nI s), .int y, .ref (1 + 2 + 2 * s)], [.int (-(nI 2))], (0, 0), h)) rfl ?_
      refine ab_W.retI (mm _) (rt := some .int) (v := -(nI 2)) rfl rfl ?_
      exact hp h hR (fun _ _ => rfl)
