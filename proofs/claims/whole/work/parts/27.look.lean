/-! Forecast.lookAt -/
theorem ab_W.copy64 {F : ab_S → ab_R} {C : ab_C} {post : ab_P} {c : ab_S} (hC : ab_mono C) {h : ab_H} {a0 a nx : Nat} {f g : Nat → Int32} {lv r : List Value} {b : Nat × Nat} (h0 : h[a0]? = some (.inl (0, 64, .inl f))) (h1 : h[a]? = some (.inl (0, 64, .inl g)))
    (e : F c = ab_ai h a0 fun t0 n0 f => ab_ai h a fun t1 n1 g => ab_gd (Nat.ble (ab_ws r) 8 && (Nat.beq t0 0 && (Nat.beq t1 0 && (!(decide (nI 0 < 0)) && (!(decide (nI 0 < 0)) && (!(decide (nI 64 < 0)) && (Nat.ble ((nI 0).toNatClampNeg + (nI 64).toNatClampNeg) n0 && Nat.ble ((nI 0).toNatClampNeg + (nI 64).toNatClampNeg) n1))))))) (ab_nx nx lv r b (h.set a (.inl (t1, n1, .inl (va_cpy f g (nI 0).toNatClampNeg (nI 0).toNatClampNeg (nI 64).toNatClampNeg))))))
    (hr : Nat.ble (ab_ws r) 8 = true) (w : ab_W F C post (nx, lv, r, b, hA h a (va_cpy f g 0 0 64))) : ab_W F C post c := by
  refine ab_W.fold hC ?_
  rw [e]
  unfold ab_ai
  rw [h0, h1]
  dsimp only
  rw [hr]
  exact w
theorem ab_W.callV {F : ab_S → ab_R} {C : ab_C} {post : ab_P} {c : ab_S} (hC : ab_mono C) {h : ab_H} {a ci : Nat} {fs : List Value} {f : Nat → List Value → ab_R} {c' : ab_S} {k : Nat} {av : List Value} (hh : h[a]? = some (.inr (ci, fs))) (e : F c = ab_o h a f) (e2 : f ci fs = some (.inr (.inl (k, av, c')))) (w : C k av c'.2.2.2.2 (fun v h' => ab_W F C post (c'.1, c'.2.1, v.toList ++ c'.2.2.1, c'.2.2.2.1, h'))) : ab_W F C post c := by
  refine ab_W.fold hC ?_
  rw [e]
  unfold ab_o
  rw [hh]
  show ab_rs _ _ _ _ (f ci fs)
  rw [e2]
  exact w
def hX (h : ab_H) (o oh : Nat) (y1 y2 y3 y4 y5 : Int32) (G : Nat → Int32) : ab_H := hA (hF h o oh y1 y2 y3 y4 y5) oh G
section HX
variable {h : ab_H} {o oh : Nat} {y1 y2 y3 y4 y5 z1 z2 z3 z4 z5 : Int32} {G : Nat → Int32}
theorem hX_o (hlen : o < h.length) (hne : o ≠ oh) : (hX h o oh y1 y2 y3 y4 y5 G)[o]? = some (.inr (1, [.ref oh, .int y1, .int y2, .int y3, .int y4, .int y5])) := (hA_ne (fun z => hne z.symm)).trans (hF_at hlen)
theorem hX_oh (hlen : oh < h.length) : (hX h o oh y1 y2 y3 y4 y5 G)[oh]? = some (.inl (0, 64, .inl G)) := hA_at (by rw [hF_len]; exact hlen)
theorem hX_ne {b : Nat} (h1 : o ≠ b) (h2 : oh ≠ b) : (hX h o oh y1 y2 y3 y4 y5 G)[b]? = h[b]? := (hA_ne h2).trans (hF_ne h1)
theorem hX_put (hne : o ≠ oh) : (hX h o oh y1 y2 y3 y4 y5 G).set o (.inr (1, [.ref oh, .int z1, .int z2, .int z3, .int z4, .int z5])) = hX h o oh z1 z2 z3 z4 z5 G := by
  show ((hF h o oh y1 y2 y3 y4 y5).set oh _).set o _ = _
  rw [List.set_comm _ _ (fun z => hne z.symm), hF_hF]
  rfl
theorem hX_len : (hX h o oh y1 y2 y3 y4 y5 G).length = h.length := by
  unfold hX
  rw [hA_len, hF_len]
end HX
/-- what a forecast holds behind lookAt -/
def LK (N : Int64) (f : Nat → Int32) (y1 y2 y3 y4 y5 : Int32) (G : Nat → Int32) : Prop :=
  (0 < chF (fl N 6 1 f) f 64 ∧ y1 = nI 1 ∧ y2 = nI (chF (fl N 6 1 f) f 64) ∧ y3 = -(nI 6) ∧ y4 = -(nI 6) ∧ y5 = -(nI 6) ∧ ∀ c, c < 64 → G c = fl N 6 1 f c) ∨
  (chF (fl N 6 1 f) f 64 = 0 ∧ ∃ k, Best N f k ∧ y1 = nI 0 ∧ y2 = nI (siz k) ∧ y3 = nI (cst f k) ∧ y4 = nI (beg k) ∧ y5 = nI (dep k) ∧ ∀ c, c < 64 → G c = rsF f (beg k) (beg k + siz k) c)
theorem cn_congr {p q : Nat → Prop} : ∀ {n : Nat}, (∀ i, i < n → (p i ↔ q i)) → cn p n = cn q n := by
  intro n
  induction n with
  | zero => intro _; rfl
  | succ n ih =>
    intro h
    have e := ih (fun i hi => h i (by omega))
    by_cases hp : p n
    · rw [cn_t hp, cn_t ((h n (by omega)).mp hp), e]
    · rw [cn_f hp, cn_f (fun z => hp ((h n (by omega)).mpr z)), e]
theorem cn_zero {p : Nat → Prop} : ∀ {n : Nat}, cn p n = 0 → ∀ i, i < n → ¬ p i := by
  intro n
  induction n with
  | zero => intro _ i hi; omega
  | succ n ih =>
    intro h i hi hp
    by_cases hn : p n
    · rw [cn_t hn] at h; omega
    · rw [cn_f hn] at h
      rcases Nat.lt_or_ge i n with z | z
      · exact ih h i z hp
      · rw [show i = n by omega] at hp
        exact hn hp
theorem alD_congr {f g : Nat → Int32} (h : ∀ c, c < 64 → f c = g c) {c δ : Nat} (hc : c < 64) (hδ : δ ≤ 6) : ∀ n, n ≤ δ → alD f c δ n = alD g c δ n := by
  intro n
  induction n with
  | zero => intro _; rfl
  | succ n ih =>
    intro hn
    obtain ⟨a1, a2, a3, a4, a5⟩ := anc_ok (δ - (n + 1)) (by omega) c hc
    have ha := alk_congr a1 a2 (f := f) (g := g) (fun j hj => h j (inK_lt a1 a2 hj))
    by_cases q : alk f (anc c (δ - (n + 1)))
    · rw [show alD f c δ (n + 1) = _ from ci_t q, show alD g c δ (n + 1) = _ from ci_t (ha.mp q)]
    · rw [show alD f c δ (n + 1) = _ from ci_f q, show alD g c δ (n + 1) = _ from ci_f (fun z => q (ha.mpr z))]
      exact ih (by omega)
theorem cst_congr {f g : Nat → Int32} (h : ∀ c, c < 64 → f c = g c) {k : Nat} (h1 : 1 ≤ k) (hk : k < 128) : cst f k = cst g k := by
  obtain ⟨s1, s2, s3, s4⟩ := sp_le k hk h1
  unfold cst wid
  rw [alD_congr h s4 s1 (dep k) (Nat.le_refl _)]
theorem Best.congr {N : Int64} {f g : Nat → Int32} (h : ∀ c, c < 64 → f c = g c) {k : Nat} (hb : Best N f k) : Best N g k := by
  obtain ⟨⟨k1, k2, k3⟩, hb⟩ := hb
  refine ⟨⟨k1, k2, k3⟩, fun l l1 l2 l3 => ?_⟩
  rw [← cst_congr h k1 k2, ← cst_congr h l1 l2]
  exact hb l l1 l2 l3
theorem cpy64 {f g : Nat → Int32} {c : Nat} (hc : c < 64) : va_cpy f g 0 0 64 c = f c := by
  unfold va_cpy
  rw [if_pos (by omega)]
  congr 1
  omega
theorem sp_lookAt (d : Nat) {h : ab_H} {o oh a ah : Nat} {p x1 x2 x3 x4 x5 : Int32} {N K : Int64} {f g : Nat → Int32} (hs : h[a]? = some (.inr (3, [.int p, .long N, .long K, .ref ah]))) (hf : h[ah]? = some (.inl (0, 64, .inl f))) (ho : h[o]? = some (.inr (1, [.ref oh, .int x1, .int x2, .int x3, .int x4, .int x5]))) (hg : h[oh]? = some (.inl (0, 64, .inl g)))
    (n1 : o ≠ oh) (n2 : oh ≠ a) (n3 : oh ≠ ah) (n4 : o ≠ a) (n5 : o ≠ ah) (hN : ∃ k, 1 ≤ k ∧ k < 128 ∧ isP N k) {post : ab_P} (hp : ∀ y1 y2 y3 y4 y5 G, LK N f y1 y2 y3 y4 y5 G → post none (hX h o oh y1 y2 y3 y4 y5 G)) : mCC (d + 11) kForecast_lookAt [.ref o, .ref a] h post := by
  have lo := hA_lt ho
  have loh := hA_lt hg
  refine ⟨rfl, ?_⟩
  show ab_W _ _ _ (0, [.ref o, .ref a], [], (0, 0), h)
  refine ab_W.go (mm _) 1 (c' := (1, [.ref o, .ref a], [.ref a], (0, 0), h)) rfl ?_
  refine ab_W.o (mm _) (hs) rfl (c' := (4, [.ref o, .ref a], [.ref ah], (0, 0), h)) rfl ?_
  refine ab_W.go (mm _) 2 (c' := (6, [.ref o, .ref a], [.ref o, .int (nI 0), .ref ah], (0, 0), h)) rfl ?_
  refine ab_W.o (mm _) (ho) rfl (c' := (9, [.ref o, .ref a], [.ref oh, .int (nI 0), .ref ah], (0, 0), h)) rfl ?_
  refine ab_W.go (mm _) 2 (c' := (12, [.ref o, .ref a], [.int (nI 64), .int (nI 0), .ref oh, .int (nI 0), .ref ah], (0, 0), h)) rfl ?_
  refine ab_W.copy64 (mm _) hf hg rfl rfl ?_
  generalize hf' : va_cpy f g 0 0 64 = f'
  have ef : ∀ c, c < 64 → f' c = f c := fun c hc => by rw [← hf']; exact cpy64 hc
  have ho1 : (hA h oh f')[o]? = some (.inr (1, [.ref oh, .int x1, .int x2, .int x3, .int x4, .int x5])) := (hA_ne (fun z => n1 z.symm)).trans ho
  have lo1 : o < (hA h oh f').length := by rw [hA_len]; exact lo
  show ab_W _ _ _ (15, [.ref o, .ref a], [], (0, 0), hA h oh f')
  refine ab_W.go (mm _) 2 (c' := (18, [.ref o, .ref a], [.int (-(nI 6)), .ref o], (0, 0), hA h oh f')) rfl ?_
  refine ab_W.o (mm _) (ho1) rfl (c' := (21, [.ref o, .ref a], [], (0, 0), hF (hA h oh f') o oh x1 x2 (-(nI 6)) x4 x5)) rfl ?_
  refine ab_W.go (mm _) 2 (c' := (24, [.ref o, .ref a], [.int (-(nI 6)), .ref o], (0, 0), hF (hA h oh f') o oh x1 x2 (-(nI 6)) x4 x5)) rfl ?_
  refine ab_W.o (mm _) (hF_at lo1) rfl (c' := (27, [.ref o, .ref a], [], (0, 0), (hF (hA h oh f') o oh x1 x2 (-(nI 6)) x4 x5).set o (.inr (1, [.ref oh, .int x1, .int x2, .int (-(nI 6)), .int (-(nI 6)), .int x5])))) rfl ?_
  refine ab_W.hp (hF_hF) ?_
  show ab_W _ _ _ (27, [.ref o, .ref a], [], (0, 0), hF (hA h oh f') o oh x1 x2 (-(nI 6)) (-(nI 6)) x5)
  refine ab_W.go (mm _) 2 (c' := (30, [.ref o, .ref a], [.int (-(nI 6)), .ref o], (0, 0), hF (hA h oh f') o oh x1 x2 (-(nI 6)) (-(nI 6)) x5)) rfl ?_
  refine ab_W.o (mm _) (hF_at lo1) rfl (c' := (33, [.ref o, .ref a], [], (0, 0), (hF (hA h oh f') o oh x1 x2 (-(nI 6)) (-(nI 6)) x5).set o (.inr (1, [.ref oh, .int x1, .int x2, .int (-(nI 6)), .int (-(nI 6)), .int (-(nI 6))])))) rfl ?_
  refine ab_W.hp (hF_hF.trans (hF_hA n1)) ?_
  show ab_W _ _ _ (33, [.ref o, .ref a], [], (0, 0), hX h o oh x1 x2 (-(nI 6)) (-(nI 6)) (-(nI 6)) f')
  refine ab_W.go (mm _) 1 (c' := (34, [.ref o, .ref a], [.ref o], (0, 0), hX h o oh x1 x2 (-(nI 6)) (-(nI 6)) (-(nI 6)) f')) rfl ?_
  refine ab_W.o (mm _) (hX_o lo n1) rfl (c' := (37, [.ref o, .ref a], [.ref oh], (0, 0), hX h o oh x1 x2 (-(nI 6)) (-(nI 6)) (-(nI 6)) f')) rfl ?_
  refine ab_W.go (mm _) 1 (c' := (38, [.ref o, .ref a], [.ref a, .ref oh], (0, 0), hX h o oh x1 x2 (-(nI 6)) (-(nI 6)) (-(nI 6)) f')) rfl ?_
  refine ab_W.o (mm _) ((hX_ne n4 n2).trans hs) rfl (c' := (41, [.ref o, .ref a], [.long N, .ref oh], (0, 0), hX h o oh x1 x2 (-(nI 6)) (-(nI 6)) (-(nI 6)) f')) rfl ?_
  refine ab_W.go (mm _) 2 (c' := (43, [.ref o, .ref a], [.int (nI 0), .int (nI 0), .long N, .ref oh], (0, 0), hX h o oh x1 x2 (-(nI 6)) (-(nI 6)) (-(nI 6)) f')) rfl ?_
  refine ab_W.call (mm _) (k := 14) (av := [.ref oh, .long N, .int (nI 0), .int (nI 0)]) (c' := (46, [.ref o, .ref a], [], (0, 0), hX h o oh x1 x2 (-(nI 6)) (-(nI 6)) (-(nI 6)) f')) rfl ?_
  refine sp_fill (by rw [hF_len]; exact loh) 6 1 (by decide) (by decide) (by decide) (d + 10) (by omega) f' ?_
  show ab_W _ _ _ (46, [.ref o, .ref a], [], (0, 0), hX h o oh x1 x2 (-(nI 6)) (-(nI 6)) (-(nI 6)) (fl N 6 1 f'))
  generalize hF0 : fl N 6 1 f' = F0
  have eF : ∀ c, c < 64 → F0 c = fl N 6 1 f c := fun c hc => by rw [← hF0]; exact fl_all ef c hc
  have ech : chF F0 f 64 = chF (fl N 6 1 f) f 64 := cn_congr (fun c hc => by rw [eF c hc])
  show ab_W _ _ _ (46, [.ref o, .ref a], [], (0, 0), hX h o oh x1 x2 (-(nI 6)) (-(nI 6)) (-(nI 6)) F0)
  refine ab_W.go (mm _) 3 (c' := (49, [.ref o, .ref a], [.ref a, .ref o, .ref o], (0, 0), hX h o oh x1 x2 (-(nI 6)) (-(nI 6)) (-(nI 6)) F0)) rfl ?_
  refine ab_W.o (mm _) ((hX_ne n4 n2).trans hs) rfl (c' := (52, [.ref o, .ref a], [.ref ah, .ref o, .ref o], (0, 0), hX h o oh x1 x2 (-(nI 6)) (-(nI 6)) (-(nI 6)) F0)) rfl ?_
  refine ab_W.callV (mm _) (hX_o lo n1) rfl (k := 16) (av := [.ref o, .ref ah]) (c' := (55, [.ref o, .ref a], [.ref o], (0, 0), hX h o oh x1 x2 (-(nI 6)) (-(nI 6)) (-(nI 6)) F0)) rfl ?_
  refine sp_countChanges (d + 9) (hX_o lo n1) (hX_oh loh) ((hX_ne n5 n3).trans hf) ?_
  show ab_W _ _ _ (55, [.ref o, .ref a], [.int (nI (chF F0 f 64)), .ref o], (0, 0), hX h o oh x1 x2 (-(nI 6)) (-(nI 6)) (-(nI 6)) F0)
  rw [ech]
  have hch : chF (fl N 6 1 f) f 64 ≤ 64 := cn_le _ _
  generalize hm : chF (fl N 6 1 f) f 64 = m at hch
  show ab_W _ _ _ (55, [.ref o, .ref a], [.int (nI m), .ref o], (0, 0), hX h o oh x1 x2 (-(nI 6)) (-(nI 6)) (-(nI 6)) F0)
  refine ab_W.o (mm _) (hX_o lo n1) rfl (c' := (58, [.ref o, .ref a], [], (0, 0), (hX h o oh x1 x2 (-(nI 6)) (-(nI 6)) (-(nI 6)) F0).set o (.inr (1, [.ref oh, .int x1, .int (nI m), .int (-(nI 6)), .int (-(nI 6)), .int (-(nI 6))])))) rfl ?_
  refine ab_W.hp (hX_put n1) ?_
  show ab_W _ _ _ (58, [.ref o, .ref a], [], (0, 0), hX h o oh x1 (nI m) (-(nI 6)) (-(nI 6)) (-(nI 6)) F0)
  refine ab_W.go (mm _) 2 (c' := (60, [.ref o, .ref a], [.ref o, .ref o], (0, 0), hX h o oh x1 (nI m) (-(nI 6)) (-(nI 6)) (-(nI 6)) F0)) rfl ?_
  refine ab_W.o (mm _) (hX_o lo n1) rfl (c' := (63, [.ref o, .ref a], [.int (nI m), .ref o], (0, 0), hX h o oh x1 (nI m) (-(nI 6)) (-(nI 6)) (-(nI 6)) F0)) rfl ?_
  refine ab_W.ite (mm _) (p := (nI m) ≤ 0) (c1 := (70, [.ref o, .ref a], [.ref o], (0, 0), hX h o oh x1 (nI m) (-(nI 6)) (-(nI 6)) (-(nI 6)) F0)) (c2 := (66, [.ref o, .ref a], [.ref o], (0, 0), hX h o oh x1 (nI m) (-(nI 6)) (-(nI 6)) (-(nI 6)) F0)) rfl (fun q => ?_) (fun q => ?_)
  · skip
    have q : m = 0 := by
      have := (nI_leI (a := m) (b := 0) (by omega) (by omega)).mp q
      omega
    have eu : ∀ c, c < 64 → F0 c = f c := by
      intro c hc
      rw [eF c hc]
      exact Classical.byContradiction fun z => cn_zero (show cn _ 64 = 0 from hm.trans q) c hc z
    refine ab_W.go (mm _) 1 (c' := (71, [.ref o, .ref a], [.int (nI 0), .ref o], (0, 0), hX h o oh x1 (nI m) (-(nI 6)) (-(nI 6)) (-(nI 6)) F0)) rfl ?_
    refine ab_W.o (mm _) (hX_o lo n1) rfl (c' := (74, [.ref o, .ref a], [], (0, 0), (hX h o oh x1 (nI m) (-(nI 6)) (-(nI 6)) (-(nI 6)) F0).set o (.inr (1, [.ref oh, .int (nI 0), .int (nI m), .int (-(nI 6)), .int (-(nI 6)), .int (-(nI 6))])))) rfl ?_
    refine ab_W.hp (hX_put n1) ?_
    show ab_W _ _ _ (74, [.ref o, .ref a], [], (0, 0), hX h o oh (nI 0) (nI m) (-(nI 6)) (-(nI 6)) (-(nI 6)) F0)
    refine ab_W.go (mm _) 1 (c' := (75, [.ref o, .ref a], [.ref o], (0, 0), hX h o oh (nI 0) (nI m) (-(nI 6)) (-(nI 6)) (-(nI 6)) F0)) rfl ?_
    refine ab_W.o (mm _) (hX_o lo n1) rfl (c' := (78, [.ref o, .ref a], [.int (nI 0)], (0, 0), hX h o oh (nI 0) (nI m) (-(nI 6)) (-(nI 6)) (-(nI 6)) F0)) rfl ?_
    refine ab_W.itT (mm _) (p := (nI 0) = 0) (c1 := (81, [.ref o, .ref a], [], (0, 0), hX h o oh (nI 0) (nI m) (-(nI 6)) (-(nI 6)) (-(nI 6)) F0)) (c2 := (93, [.ref o, .ref a], [], (0, 0), hX h o oh (nI 0) (nI m) (-(nI 6)) (-(nI 6)) (-(nI 6)) F0)) rfl (nI_0) ?_
    refine ab_W.go (mm _) 2 (c' := (83, [.ref o, .ref a], [.ref a, .ref o], (0, 0), hX h o oh (nI 0) (nI m) (-(nI 6)) (-(nI 6)) (-(nI 6)) F0)) rfl ?_
    refine ab_W.o (mm _) ((hX_ne n4 n2).trans hs) rfl (c' := (86, [.ref o, .ref a], [.long N, .ref o], (0, 0), hX h o oh (nI 0) (nI m) (-(nI 6)) (-(nI 6)) (-(nI 6)) F0)) rfl ?_
    refine ab_W.callV (mm _) (hX_o lo n1) rfl (k := 17) (av := [.ref o, .long N]) (c' := (89, [.ref o, .ref a], [], (0, 0), hX h o oh (nI 0) (nI m) (-(nI 6)) (-(nI 6)) (-(nI 6)) F0)) rfl ?_
    show mCC _ 17 _ (hX h o oh (nI 0) (nI m) (-(nI 6)) (-(nI 6)) (-(nI 6)) F0) _
    unfold hX
    rw [← hF_hA n1]
    refine sp_choosePiece (d + 5) (by rw [hA_len]; exact lo) n1 (hA_at loh) hN (fun k hB => ?_)
    have hBf := hB.congr eu
    obtain ⟨⟨k1, k2, k3⟩, -⟩ := id hB
    show ab_W _ _ _ (89, [.ref o, .ref a], [], (0, 0), hF (hA h oh F0) o oh (nI 0) (nI m) (nI (cst F0 k)) (nI (beg k)) (nI (dep k)))
    refine ab_W.hp (hF_hA n1) ?_
    show ab_W _ _ _ (89, [.ref o, .ref a], [], (0, 0), hX h o oh (nI 0) (nI m) (nI (cst F0 k)) (nI (beg k)) (nI (dep k)) F0)
    refine ab_W.go (mm _) 1 (c' := (90, [.ref o, .ref a], [.ref o], (0, 0), hX h o oh (nI 0) (nI m) (nI (cst F0 k)) (nI (beg k)) (nI (dep k)) F0)) rfl ?_
    refine ab_W.callV (mm _) (hX_o lo n1) rfl (k := 18) (av := [.ref o]) (c' := (93, [.ref o, .ref a], [], (0, 0), hX h o oh (nI 0) (nI m) (nI (cst F0 k)) (nI (beg k)) (nI (dep k)) F0)) rfl ?_
    refine sp_raisePiece (d + 8) lo loh n1 k1 k2 ?_
    show ab_W _ _ _ (93, [.ref o, .ref a], [], (0, 0), hX h o oh (nI 0) (nI (siz k)) (nI (cst F0 k)) (nI (beg k)) (nI (dep k)) (rsF F0 (beg k) (beg k + siz k)))
    refine ab_W.ret (mm _) (v := none) rfl ?_
    refine hp _ _ _ _ _ _ (Or.inr ⟨hm.trans q, k, hBf, rfl, rfl, by rw [cst_congr eu k1 k2], rfl, rfl, fun c hc => ?_⟩)
    unfold rsF
    rw [eu c hc]
  · skip
    have q : 0 < m := by
      rcases Nat.eq_zero_or_pos m with z | z
      · exact absurd (by rw [z]; decide) q
      · exact z
    refine ab_W.go (mm _) 2 (c' := (71, [.ref o, .ref a], [.int (nI 1), .ref o], (0, 0), hX h o oh x1 (nI m) (-(nI 6)) (-(nI 6)) (-(nI 6)) F0)) rfl ?_
    refine ab_W.o (mm _) (hX_o lo n1) rfl (c' := (74, [.ref o, .ref a], [], (0, 0), (hX h o oh x1 (nI m) (-(nI 6)) (-(nI 6)) (-(nI 6)) F0).set o (.inr (1, [.ref oh, .int (nI 1), .int (nI m), .int (-(nI 6)), .int (-(nI 6)), .int (-(nI 6))])))) rfl ?_
    refine ab_W.hp (hX_put n1) ?_
    show ab_W _ _ _ (74, [.ref o, .ref a], [], (0, 0), hX h o oh (nI 1) (nI m) (-(nI 6)) (-(nI 6)) (-(nI 6)) F0)
    refine ab_W.go (mm _) 1 (c' := (75, [.ref o, .ref a], [.ref o], (0, 0), hX h o oh (nI 1) (nI m) (-(nI 6)) (-(nI 6)) (-(nI 6)) F0)) rfl ?_
    refine ab_W.o (mm _) (hX_o lo n1) rfl (c' := (78, [.ref o, .ref a], [.int (nI 1)], (0, 0), hX h o oh (nI 1) (nI m) (-(nI 6)) (-(nI 6)) (-(nI 6)) F0)) rfl ?_
    refine ab_W.itF (mm _) (p := (nI 1) = 0) (c1 := (81, [.ref o, .ref a], [], (0, 0), hX h o oh (nI 1) (nI m) (-(nI 6)) (-(nI 6)) (-(nI 6)) F0)) (c2 := (93, [.ref o, .ref a], [], (0, 0), hX h o oh (nI 1) (nI m) (-(nI 6)) (-(nI 6)) (-(nI 6)) F0)) rfl (nI_ne01) ?_
    refine ab_W.ret (mm _) (v := none) rfl ?_
    exact hp _ _ _ _ _ _ (Or.inl ⟨by rw [hm]; exact q, rfl, by rw [hm], rfl, rfl, rfl, eF⟩)
