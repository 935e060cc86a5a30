/-! stamps of the class -/
def b2i (b : Bool) : Int32 := match b with
  | true => nI 1
  | false => nI 0
theorem b2i_0 {b : Bool} : b2i b = 0 ↔ b = false := by cases b <;> decide
theorem b2i_ft (b : Bool) : ab_ft 1 (.int (b2i b)) = true := by cases b <;> decide
/-- a stamp's two cells -/
def st_P (h : ab_H) (a : Nat) (p : Bool) (N K : Int64) (f : Nat → Int32) : Prop := h[a]? = some (.inr (3, [.int (b2i p), .long N, .long K, .ref (a + 1)])) ∧ ∃ g, h[a + 1]? = some (.inl (0, 64, .inl g)) ∧ ∀ c, c < 64 → g c = f c
theorem st_P.kept {h h' : ab_H} {a : Nat} {p : Bool} {N K : Int64} {f : Nat → Int32} (hs : st_P h a p N K f) (h1 : h'[a]? = h[a]?) (h2 : h'[a + 1]? = h[a + 1]?) : st_P h' a p N K f := by
  obtain ⟨e1, g, e2, e3⟩ := hs
  exact ⟨by rw [h1]; exact e1, g, by rw [h2]; exact e2, e3⟩
theorem ab_W.putB {F : ab_S → ab_R} {C : ab_C} {post : ab_P} {c : ab_S} (hC : ab_mono C) {h : ab_H} {a ci nx k t : Nat} {v : Value} {fs : List Value} {lv r : List Value} {b : Nat × Nat} (hh : h[a]? = some (.inr (ci, fs))) (hv : ab_ft t v = true) (hk : Nat.blt k fs.length = true) (e : F c = ab_o h a fun ci' fs => ab_gd (Nat.beq ci' ci && (ab_ft t v && Nat.blt k fs.length)) (ab_nx nx lv r b (h.set a (.inr (ci', fs.set k v))))) (w : ab_W F C post (nx, lv, r, b, h.set a (.inr (ci, fs.set k v)))) : ab_W F C post c := by
  refine ab_W.fold hC ?_
  rw [e]
  unfold ab_o
  rw [hh]
  show ab_rs _ _ _ _ (ab_gd (Nat.beq ci ci && (ab_ft t v && Nat.blt k fs.length)) (ab_nx nx lv r b (h.set a (.inr (ci, fs.set k v)))))
  rw [hv, hk, Nat.beq_refl]
  exact w
theorem set_at {h : ab_H} {a : Nat} {e e0 : va_E} (h0 : h[a]? = some e0) : (h.set a e)[a]? = some e := List.getElem?_set_self (hA_lt h0)
theorem set_ne {h : ab_H} {a b : Nat} {e : va_E} (hb : a ≠ b) : (h.set a e)[b]? = h[b]? := List.getElem?_set_ne hb
theorem sp_scopy (d : Nat) {h : ab_H} {a b : Nat} {p p' : Bool} {N K N' K' : Int64} {f f' : Nat → Int32} (ha : st_P h a p N K f) (hb : st_P h b p' N' K' f') (n1 : a ≠ b) (n2 : a ≠ b + 1) (n3 : a + 1 ≠ b) {post : ab_P} (hp : ∀ h', st_P h' a p' N' K' f' → (∀ i, i ≠ a → i ≠ a + 1 → h'[i]? = h[i]?) → post none h') : mCC (d + 1) kStamp_copyFrom [.ref a, .ref b] h post := by
  obtain ⟨a1, ga, a2, a3⟩ := ha
  obtain ⟨b1, gb, b2, b3⟩ := hb
  refine ⟨rfl, ?_⟩
  show ab_W _ _ _ (0, [.ref a, .ref b], [], (0, 0), h)
  refine ab_W.go (mm _) 2 (c' := (2, [.ref a, .ref b], [.ref b, .ref a], (0, 0), h)) rfl ?_
  refine ab_W.o (mm _) (b1) rfl (c' := (5, [.ref a, .ref b], [.int (b2i p'), .ref a], (0, 0), h)) rfl ?_
  refine ab_W.putB (mm _) a1 (b2i_ft p') rfl rfl ?_
  obtain ⟨h1, e1⟩ : ∃ h1, h1 = h.set a (.inr (3, [.int (b2i p'), .long N, .long K, .ref (a + 1)])) := ⟨_, rfl⟩
  have c1 : h1[a]? = some (.inr (3, [.int (b2i p'), .long N, .long K, .ref (a + 1)])) := by rw [e1]; exact set_at a1
  have k1 : ∀ i, i ≠ a → h1[i]? = h[i]? := fun i hi => by rw [e1]; exact set_ne (fun z => hi z.symm)
  show ab_W _ _ _ (8, [.ref a, .ref b], [], (0, 0), h.set a (.inr (3, [.int (b2i p'), .long N, .long K, .ref (a + 1)])))
  rw [← e1]
  refine ab_W.go (mm _) 2 (c' := (10, [.ref a, .ref b], [.ref b, .ref a], (0, 0), h1)) rfl ?_
  refine ab_W.o (mm _) ((k1 b (fun z => n1 z.symm)).trans b1) rfl (c' := (13, [.ref a, .ref b], [.long N', .ref a], (0, 0), h1)) rfl ?_
  obtain ⟨h2, e2⟩ : ∃ h2, h2 = h1.set a (.inr (3, [.int (b2i p'), .long N', .long K, .ref (a + 1)])) := ⟨_, rfl⟩
  have c2 : h2[a]? = some (.inr (3, [.int (b2i p'), .long N', .long K, .ref (a + 1)])) := by rw [e2]; exact set_at c1
  have k2 : ∀ i, i ≠ a → h2[i]? = h[i]? := fun i hi => by rw [e2]; exact (set_ne (fun z => hi z.symm)).trans (k1 i hi)
  refine ab_W.o (mm _) (c1) rfl (c' := (16, [.ref a, .ref b], [], (0, 0), h1.set a (.inr (3, [.int (b2i p'), .long N', .long K, .ref (a + 1)])))) rfl ?_
  refine ab_W.hp (e2.symm) ?_
  show ab_W _ _ _ (16, [.ref a, .ref b], [], (0, 0), h2)
  refine ab_W.go (mm _) 2 (c' := (18, [.ref a, .ref b], [.ref b, .ref a], (0, 0), h2)) rfl ?_
  refine ab_W.o (mm _) ((k2 b (fun z => n1 z.symm)).trans b1) rfl (c' := (21, [.ref a, .ref b], [.long K', .ref a], (0, 0), h2)) rfl ?_
  obtain ⟨h3, e3⟩ : ∃ h3, h3 = h2.set a (.inr (3, [.int (b2i p'), .long N', .long K', .ref (a + 1)])) := ⟨_, rfl⟩
  have c3 : h3[a]? = some (.inr (3, [.int (b2i p'), .long N', .long K', .ref (a + 1)])) := by rw [e3]; exact set_at c2
  have k3 : ∀ i, i ≠ a → h3[i]? = h[i]? := fun i hi => by rw [e3]; exact (set_ne (fun z => hi z.symm)).trans (k2 i hi)
  refine ab_W.o (mm _) (c2) rfl (c' := (24, [.ref a, .ref b], [], (0, 0), h2.set a (.inr (3, [.int (b2i p'), .long N', .long K', .ref (a + 1)])))) rfl ?_
  refine ab_W.hp (e3.symm) ?_
  show ab_W _ _ _ (24, [.ref a, .ref b], [], (0, 0), h3)
  refine ab_W.go (mm _) 1 (c' := (25, [.ref a, .ref b], [.ref b], (0, 0), h3)) rfl ?_
  refine ab_W.o (mm _) ((k3 b (fun z => n1 z.symm)).trans b1) rfl (c' := (28, [.ref a, .ref b], [.ref (b + 1)], (0, 0), h3)) rfl ?_
  refine ab_W.go (mm _) 2 (c' := (30, [.ref a, .ref b], [.ref a, .int (nI 0), .ref (b + 1)], (0, 0), h3)) rfl ?_
  refine ab_W.o (mm _) (c3) rfl (c' := (33, [.ref a, .ref b], [.ref (a + 1), .int (nI 0), .ref (b + 1)], (0, 0), h3)) rfl ?_
  refine ab_W.go (mm _) 2 (c' := (36, [.ref a, .ref b], [.int (nI 64), .int (nI 0), .ref (a + 1), .int (nI 0), .ref (b + 1)], (0, 0), h3)) rfl ?_
  have d1 := (k3 (b + 1) (fun z => n2 z.symm)).trans b2
  have d2 := (k3 (a + 1) (by omega)).trans a2
  refine ab_W.copy64 (mm _) d1 d2 rfl rfl ?_
  show ab_W _ _ _ (39, [.ref a, .ref b], [], (0, 0), hA h3 (a + 1) (va_cpy gb ga 0 0 64))
  refine ab_W.ret (mm _) (v := none) rfl ?_
  refine hp _ ⟨(hA_ne (by omega)).trans c3, _, hA_at (hA_lt d2), fun c hc => (cpy64 hc).trans (b3 c hc)⟩ (fun i i1 i2 => (hA_ne (fun z => i2 z.symm)).trans (k3 i i1))
/-- hearing -/
theorem sp_learn (d : Nat) {h : ab_H} {a b : Nat} {p p' : Bool} {N K N' K' : Int64} {f f' : Nat → Int32} (ha : st_P h a p N K f) (hb : st_P h b p' N' K' f') (n1 : a ≠ b) (n2 : a ≠ b + 1) (n3 : a + 1 ≠ b) {post : ab_P} (hp : ∀ h', st_P h' a p N (K ||| K') (fun c => mxI (f c) (f' c)) → (∀ i, i ≠ a → i ≠ a + 1 → h'[i]? = h[i]?) → post (some (.int (nI (cn (fun c => f c < f' c) 64)))) h') : mCC (d + 1) kStamp_learnFrom [.ref a, .ref b] h post := by
  obtain ⟨a1, ga, a2, a3⟩ := ha
  obtain ⟨b1, gb, b2, b3⟩ := hb
  have la := hA_lt a2
  have n4 : a + 1 ≠ b + 1 := by omega
  have f1 : ∀ g, (hA h (a + 1) g)[a]? = some (.inr (3, [.int (b2i p), .long N, .long K, .ref (a + 1)])) := fun g => (hA_ne (by omega)).trans a1
  have f2 : ∀ g, (hA h (a + 1) g)[b]? = some (.inr (3, [.int (b2i p'), .long N', .long K', .ref (b + 1)])) := fun g => (hA_ne n3).trans b1
  have f3 : ∀ g, (hA h (a + 1) g)[b + 1]? = some (.inl (0, 64, .inl gb)) := fun g => (hA_ne n4).trans b2
  have loop : ∀ c, c ≤ 64 → ∀ g, (∀ j, j < c → g j = mxI (f j) (f' j)) → (∀ j, c ≤ j → j < 64 → g j = f j) → ab_W (ab_st (mT kStamp_learnFrom) mB mF (mR kStamp_learnFrom) none) (mCC d) post (4, [.ref a, .ref b, .int (nI (cn (fun c => f c < f' c) c)), .int (nI c)], [], (0, 0), hA h (a + 1) g) := by
    refine down 64 ?_ ?_
    · intro g g1 g2
      refine ab_W.go (mm _) 2 (c' := (7, [.ref a, .ref b, .int (nI (cn (fun c => f c < f' c) 64)), .int (nI 64)], [.int (nI 64), .int (nI 64)], (0, 0), hA h (a + 1) g)) rfl ?_
      refine ab_W.itT (mm _) (p := (nI 64) ≤ (nI 64)) (c1 := (46, [.ref a, .ref b, .int (nI (cn (fun c => f c < f' c) 64)), .int (nI 64)], [], (0, 0), hA h (a + 1) g)) (c2 := (10, [.ref a, .ref b, .int (nI (cn (fun c => f c < f' c) 64)), .int (nI 64)], [], (0, 0), hA h (a + 1) g)) rfl ((by decide)) ?_
      refine ab_W.go (mm _) 2 (c' := (48, [.ref a, .ref b, .int (nI (cn (fun c => f c < f' c) 64)), .int (nI 64)], [.ref a, .ref a], (0, 0), hA h (a + 1) g)) rfl ?_
      refine ab_W.o (mm _) (f1 g) rfl (c' := (51, [.ref a, .ref b, .int (nI (cn (fun c => f c < f' c) 64)), .int (nI 64)], [.long K, .ref a], (0, 0), hA h (a + 1) g)) rfl ?_
      refine ab_W.go (mm _) 1 (c' := (52, [.ref a, .ref b, .int (nI (cn (fun c => f c < f' c) 64)), .int (nI 64)], [.ref b, .long K, .ref a], (0, 0), hA h (a + 1) g)) rfl ?_
      refine ab_W.o (mm _) (f2 g) rfl (c' := (55, [.ref a, .ref b, .int (nI (cn (fun c => f c < f' c) 64)), .int (nI 64)], [.long K', .long K, .ref a], (0, 0), hA h (a + 1) g)) rfl ?_
      refine ab_W.go (mm _) 1 (c' := (56, [.ref a, .ref b, .int (nI (cn (fun c => f c < f' c) 64)), .int (nI 64)], [.long (K ||| K'), .ref a], (0, 0), hA h (a + 1) g)) rfl ?_
      refine ab_W.o (mm _) (f1 g) rfl (c' := (59, [.ref a, .ref b, .int (nI (cn (fun c => f c < f' c) 64)), .int (nI 64)], [], (0, 0), (hA h (a + 1) g).set a (.inr (3, [.int (b2i p), .long N, .long (K ||| K'), .ref (a + 1)])))) rfl ?_
      refine ab_W.go (mm _) 1 (c' := (60, [.ref a, .ref b, .int (nI (cn (fun c => f c < f' c) 64)), .int (nI 64)], [.int (nI (cn (fun c => f c < f' c) 64))], (0, 0), (hA h (a + 1) g).set a (.inr (3, [.int (b2i p), .long N, .long (K ||| K'), .ref (a + 1)])))) rfl ?_
      refine ab_W.retI (mm _) (rt := some .int) (v := nI (cn (fun c => f c < f' c) 64)) rfl rfl ?_
      refine hp _ ⟨set_at (f1 g), g, (set_ne (by omega)).trans (hA_at la), fun c hc => g1 c hc⟩ (fun i i1 i2 => (set_ne (fun z => i1 z.symm)).trans (hA_ne (fun z => i2 z.symm)))
    · intro c hc ih g g1 g2
      refine ab_W.go (mm _) 2 (c' := (7, [.ref a, .ref b, .int (nI (cn (fun c => f c < f' c) c)), .int (nI c)], [.int (nI 64), .int (nI c)], (0, 0), hA h (a + 1) g)) rfl ?_
      refine ab_W.itF (mm _) (p := (nI 64) ≤ (nI c)) (c1 := (46, [.ref a, .ref b, .int (nI (cn (fun c => f c < f' c) c)), .int (nI c)], [], (0, 0), hA h (a + 1) g)) (c2 := (10, [.ref a, .ref b, .int (nI (cn (fun c => f c < f' c) c)), .int (nI c)], [], (0, 0), hA h (a + 1) g)) rfl (fun z => absurd ((nI_leI (by omega) (by omega)).mp z) (by omega)) ?_
      refine ab_W.go (mm _) 1 (c' := (11, [.ref a, .ref b, .int (nI (cn (fun c => f c < f' c) c)), .int (nI c)], [.ref b], (0, 0), hA h (a + 1) g)) rfl ?_
      refine ab_W.o (mm _) (f2 g) rfl (c' := (14, [.ref a, .ref b, .int (nI (cn (fun c => f c < f' c) c)), .int (nI c)], [.ref (b + 1)], (0, 0), hA h (a + 1) g)) rfl ?_
      refine ab_W.go (mm _) 1 (c' := (15, [.ref a, .ref b, .int (nI (cn (fun c => f c < f' c) c)), .int (nI c)], [.int (nI c), .ref (b + 1)], (0, 0), hA h (a + 1) g)) rfl ?_
      refine ab_W.iald (mm _) (j := c) (f3 g) rfl (by omega) rfl rfl ?_
      show ab_W _ _ _ (16, [.ref a, .ref b, .int (nI (cn (fun c => f c < f' c) c)), .int (nI c)], [.int (gb c)], (0, 0), hA h (a + 1) g)
      refine ab_W.go (mm _) 1 (c' := (17, [.ref a, .ref b, .int (nI (cn (fun c => f c < f' c) c)), .int (nI c)], [.ref a, .int (gb c)], (0, 0), hA h (a + 1) g)) rfl ?_
      refine ab_W.o (mm _) (f1 g) rfl (c' := (20, [.ref a, .ref b, .int (nI (cn (fun c => f c < f' c) c)), .int (nI c)], [.ref (a + 1), .int (gb c)], (0, 0), hA h (a + 1) g)) rfl ?_
      refine ab_W.go (mm _) 1 (c' := (21, [.ref a, .ref b, .int (nI (cn (fun c => f c < f' c) c)), .int (nI c)], [.int (nI c), .ref (a + 1), .int (gb c)], (0, 0), hA h (a + 1) g)) rfl ?_
      refine ab_W.iald (mm _) (j := c) (hA_at la) rfl (by omega) rfl rfl ?_
      show ab_W _ _ _ (22, [.ref a, .ref b, .int (nI (cn (fun c => f c < f' c) c)), .int (nI c)], [.int (g c), .int (gb c)], (0, 0), hA h (a + 1) g)
      refine ab_W.ite (mm _) (p := (gb c) ≤ (g c)) (c1 := (40, [.ref a, .ref b, .int (nI (cn (fun c => f c < f' c) c)), .int (nI c)], [], (0, 0), hA h (a + 1) g)) (c2 := (25, [.ref a, .ref b, .int (nI (cn (fun c => f c < f' c) c)), .int (nI c)], [], (0, 0), hA h (a + 1) g)) rfl (fun q => ?_) (fun q => ?_)
      · skip
        rw [b3 c hc, g2 c (Nat.le_refl _) hc] at q
        have q' : ¬ f c < f' c := Int32.not_lt.mpr q
        rw [cn_f (p := fun c => f c < f' c) q'] at ih
        refine ab_W.go (mm _) 1 (c' := (43, [.ref a, .ref b, .int (nI (cn (fun c => f c < f' c) c)), .int (nI c + nI 1)], [], (0, 0), hA h (a + 1) g)) rfl ?_
        rw [nI_add c 1]
        refine ab_W.go (mm _) 1 (c' := (4, [.ref a, .ref b, .int (nI (cn (fun c => f c < f' c) c)), .int (nI (c + 1))], [], (0, 0), hA h (a + 1) g)) rfl ?_
        refine ih g (fun j hj => ?_) (fun j h1 h2 => g2 j (by omega) h2)
        rcases Nat.lt_or_ge j c with z | z
        · exact g1 j z
        · rw [show j = c by omega, g2 c (Nat.le_refl _) hc]
          exact (if_neg q').symm
      · skip
        rw [b3 c hc, g2 c (Nat.le_refl _) hc] at q
        have q' : f c < f' c := Int32.not_le.mp q
        rw [cn_t (p := fun c => f c < f' c) q'] at ih
        refine ab_W.go (mm _) 1 (c' := (26, [.ref a, .ref b, .int (nI (cn (fun c => f c < f' c) c)), .int (nI c)], [.ref a], (0, 0), hA h (a + 1) g)) rfl ?_
        refine ab_W.o (mm _) (f1 g) rfl (c' := (29, [.ref a, .ref b, .int (nI (cn (fun c => f c < f' c) c)), .int (nI c)], [.ref (a + 1)], (0, 0), hA h (a + 1) g)) rfl ?_
        refine ab_W.go (mm _) 2 (c' := (31, [.ref a, .ref b, .int (nI (cn (fun c => f c < f' c) c)), .int (nI c)], [.ref b, .int (nI c), .ref (a + 1)], (0, 0), hA h (a + 1) g)) rfl ?_
        refine ab_W.o (mm _) (f2 g) rfl (c' := (34, [.ref a, .ref b, .int (nI (cn (fun c => f c < f' c) c)), .int (nI c)], [.ref (b + 1), .int (nI c), .ref (a + 1)], (0, 0), hA h (a + 1) g)) rfl ?_
        refine ab_W.go (mm _) 1 (c' := (35, [.ref a, .ref b, .int (nI (cn (fun c => f c < f' c) c)), .int (nI c)], [.int (nI c), .ref (b + 1), .int (nI c), .ref (a + 1)], (0, 0), hA h (a + 1) g)) rfl ?_
        refine ab_W.iald (mm _) (j := c) (f3 g) rfl (by omega) rfl rfl ?_
        show ab_W _ _ _ (36, [.ref a, .ref b, .int (nI (cn (fun c => f c < f' c) c)), .int (nI c)], [.int (gb c), .int (nI c), .ref (a + 1)], (0, 0), hA h (a + 1) g)
        refine ab_W.iast (mm _) (j := c) (hA_at la) rfl (by omega) rfl rfl ?_
        refine ab_W.hp (hA_hA) ?_
        show ab_W _ _ _ (37, [.ref a, .ref b, .int (nI (cn (fun c => f c < f' c) c)), .int (nI c)], [], (0, 0), hA h (a + 1) (upd g c (gb c)))
        refine ab_W.go (mm _) 1 (c' := (40, [.ref a, .ref b, .int (nI (cn (fun c => f c < f' c) c) + nI 1), .int (nI c)], [], (0, 0), hA h (a + 1) (upd g c (gb c)))) rfl ?_
        rw [nI_add (cn (fun c => f c < f' c) c) 1]
        refine ab_W.go (mm _) 1 (c' := (43, [.ref a, .ref b, .int (nI ((cn (fun c => f c < f' c) c) + 1)), .int (nI c + nI 1)], [], (0, 0), hA h (a + 1) (upd g c (gb c)))) rfl ?_
        rw [nI_add c 1]
        refine ab_W.go (mm _) 1 (c' := (4, [.ref a, .ref b, .int (nI ((cn (fun c => f c < f' c) c) + 1)), .int (nI (c + 1))], [], (0, 0), hA h (a + 1) (upd g c (gb c)))) rfl ?_
        refine ih _ (fun j hj => ?_) (fun j h1 h2 => ?_)
        · rcases Nat.lt_or_ge j c with z | z
          · rw [pk_un (by omega)]; exact g1 j z
          · rw [show j = c by omega, pk_us, b3 c hc]
            exact (if_pos q').symm
        · rw [pk_un (by omega)]
          exact g2 j (by omega) h2
  refine ⟨rfl, ?_⟩
  show ab_W _ _ _ (0, [.ref a, .ref b, .retAddr 0, .retAddr 0], [], (0, 0), h)
  refine ab_W.go (mm _) 4 (c' := (4, [.ref a, .ref b, .int (nI 0), .int (nI 0)], [], (0, 0), h)) rfl ?_
  have := loop 0 (Nat.zero_le _) ga (fun j hj => absurd hj (Nat.not_lt_zero j)) (fun j _ h2 => a3 j h2)
  rw [hA_self a2] at this
  exact this
/-- which of two came before: 0 even, 1, 2, 3 -/
noncomputable def ordN (f g : Nat → Int32) : Nat := ci (∃ c, c < 64 ∧ f c < g c) 1 0 + ci (∃ c, c < 64 ∧ g c < f c) 2 0
theorem ex_s {p : Nat → Prop} {c : Nat} {B : Bool} (h : B = true ↔ ∃ j, j < c ∧ p j) (D : Bool) (hD : D = true ↔ (B = true ∨ p c)) : D = true ↔ ∃ j, j < c + 1 ∧ p j := by
  rw [hD, h]
  constructor
  · rintro (⟨j, j1, j2⟩ | q)
    · exact ⟨j, by omega, j2⟩
    · exact ⟨c, by omega, q⟩
  · rintro ⟨j, j1, j2⟩
    rcases Nat.lt_or_ge j c with z | z
    · exact Or.inl ⟨j, z, j2⟩
    · rw [show j = c by omega] at j2
      exact Or.inr j2
theorem sp_compare (d : Nat) {h : ab_H} {a b : Nat} {p p' : Bool} {N K N' K' : Int64} {f f' : Nat → Int32} (ha : st_P h a p N K f) (hb : st_P h b p' N' K' f') {post : ab_P} (hp : post (some (.int (nI (ordN f f')))) h) : mCC (d + 1) kStamp_compareWith [.ref a, .ref b] h post := by
  obtain ⟨a1, ga, a2, a3⟩ := ha
  obtain ⟨b1, gb, b2, b3⟩ := hb
  have loop : ∀ c, c ≤ 64 → ∀ L G : Bool, (L = true ↔ ∃ j, j < c ∧ f j < f' j) → (G = true ↔ ∃ j, j < c ∧ f' j < f j) → ab_W (ab_st (mT kStamp_compareWith) mB mF (mR kStamp_compareWith) none) (mCC d) post (7, [.ref a, .ref b, .int (b2i L), .int (b2i G), .int (nI c)], [], (0, 0), h) := by
    refine down 64 ?_ ?_
    · intro L G hL hG
      refine ab_W.go (mm _) 2 (c' := (11, [.ref a, .ref b, .int (b2i L), .int (b2i G), .int (nI 64)], [.int (nI 64), .int (nI 64)], (0, 0), h)) rfl ?_
      refine ab_W.itT (mm _) (p := (nI 64) ≤ (nI 64)) (c1 := (74, [.ref a, .ref b, .int (b2i L), .int (b2i G), .int (nI 64)], [], (0, 0), h)) (c2 := (14, [.ref a, .ref b, .int (b2i L), .int (b2i G), .int (nI 64)], [], (0, 0), h)) rfl ((by decide)) ?_
      refine ab_W.go (mm _) 1 (c' := (75, [.ref a, .ref b, .int (b2i L), .int (b2i G), .int (nI 64)], [.int (b2i L)], (0, 0), h)) rfl ?_
      unfold ordN at hp
      cases L with
      | false =>
        rw [ci_f (fun z => by have := hL.mpr z; cases this)] at hp
        show ab_W _ _ _ (75, [.ref a, .ref b, .int (nI 0), .int (b2i G), .int (nI 64)], [.int (nI 0)], (0, 0), h)
        refine ab_W.itT (mm _) (p := (nI 0) = 0) (c1 := (82, [.ref a, .ref b, .int (nI 0), .int (b2i G), .int (nI 64)], [], (0, 0), h)) (c2 := (78, [.ref a, .ref b, .int (nI 0), .int (b2i G), .int (nI 64)], [], (0, 0), h)) rfl (nI_0) ?_
        refine ab_W.go (mm _) 2 (c' := (84, [.ref a, .ref b, .int (nI 0), .int (b2i G), .int (nI 64)], [.int (b2i G), .int (nI 0)], (0, 0), h)) rfl ?_
        cases G with
        | false =>
          rw [ci_f (fun z => by have := hG.mpr z; cases this)] at hp
          show ab_W _ _ _ (84, [.ref a, .ref b, .int (nI 0), .int (nI 0), .int (nI 64)], [.int (nI 0), .int (nI 0)], (0, 0), h)
          refine ab_W.itT (mm _) (p := (nI 0) = 0) (c1 := (91, [.ref a, .ref b, .int (nI 0), .int (nI 0), .int (nI 64)], [.int (nI 0)], (0, 0), h)) (c2 := (87, [.ref a, .ref b, .int (nI 0), .int (nI 0), .int (nI 64)], [.int (nI 0)], (0, 0), h)) rfl (nI_0) ?_
          refine ab_W.go (mm _) 2 (c' := (93, [.ref a, .ref b, .int (nI 0), .int (nI 0), .int (nI 64)], [.int ((nI 0) + (nI 0))], (0, 0), h)) rfl ?_
          refine ab_W.topi (nI_add 0 0) ?_
          refine ab_W.retI (mm _) (rt := some .int) (v := nI (0 + 0)) rfl rfl ?_
          exact hp
        | true =>
          rw [ci_t (hG.mp rfl)] at hp
          show ab_W _ _ _ (84, [.ref a, .ref b, .int (nI 0), .int (nI 1), .int (nI 64)], [.int (nI 1), .int (nI 0)], (0, 0), h)
          refine ab_W.itF (mm _) (p := (nI 1) = 0) (c1 := (91, [.ref a, .ref b, .int (nI 0), .int (nI 1), .int (nI 64)], [.int (nI 0)], (0, 0), h)) (c2 := (87, [.ref a, .ref b, .int (nI 0), .int (nI 1), .int (nI 64)], [.int (nI 0)], (0, 0), h)) rfl (nI_ne01) ?_
          refine ab_W.go (mm _) 3 (c' := (93, [.ref a, .ref b, .int (nI 0), .int (nI 1), .int (nI 64)], [.int ((nI 0) + (nI 2))], (0, 0), h)) rfl ?_
          refine ab_W.topi (nI_add 0 2) ?_
          refine ab_W.retI (mm _) (rt := some .int) (v := nI (0 + 2)) rfl rfl ?_
          exact hp
      | true =>
        rw [ci_t (hL.mp rfl)] at hp
        show ab_W _ _ _ (75, [.ref a, .ref b, .int (nI 1), .int (b2i G), .int (nI 64)], [.int (nI 1)], (0, 0), h)
        refine ab_W.itF (mm _) (p := (nI 1) = 0) (c1 := (82, [.ref a, .ref b, .int (nI 1), .int (b2i G), .int (nI 64)], [], (0, 0), h)) (c2 := (78, [.ref a, .ref b, .int (nI 1), .int (b2i G), .int (nI 64)], [], (0, 0), h)) rfl (nI_ne01) ?_
        refine ab_W.go (mm _) 3 (c' := (84, [.ref a, .ref b, .int (nI 1), .int (b2i G), .int (nI 64)], [.int (b2i G), .int (nI 1)], (0, 0), h)) rfl ?_
        cases G with
        | false =>
          rw [ci_f (fun z => by have := hG.mpr z; cases this)] at hp
          show ab_W _ _ _ (84, [.ref a, .ref b, .int (nI 1), .int (nI 0), .int (nI 64)], [.int (nI 0), .int (nI 1)], (0, 0), h)
          refine ab_W.itT (mm _) (p := (nI 0) = 0) (c1 := (91, [.ref a, .ref b, .int (nI 1), .int (nI 0), .int (nI 64)], [.int (nI 1)], (0, 0), h)) (c2 := (87, [.ref a, .ref b, .int (nI 1), .int (nI 0), .int (nI 64)], [.int (nI 1)], (0, 0), h)) rfl (nI_0) ?_
          refine ab_W.go (mm _) 2 (c' := (93, [.ref a, .ref b, .int (nI 1), .int (nI 0), .int (nI 64)], [.int ((nI 1) + (nI 0))], (0, 0), h)) rfl ?_
          refine ab_W.topi (nI_add 1 0) ?_
          refine ab_W.retI (mm _) (rt := some .int) (v := nI (1 + 0)) rfl rfl ?_
          exact hp
        | true =>
          rw [ci_t (hG.mp rfl)] at hp
          show ab_W _ _ _ (84, [.ref a, .ref b, .int (nI 1), .int (nI 1), .int (nI 64)], [.int (nI 1), .int (nI 1)], (0, 0), h)
          refine ab_W.itF (mm _) (p := (nI 1) = 0) (c1 := (91, [.ref a, .ref b, .int (nI 1), .int (nI 1), .int (nI 64)], [.int (nI 1)], (0, 0), h)) (c2 := (87, [.ref a, .ref b, .int (nI 1), .int (nI 1), .int (nI 64)], [.int (nI 1)], (0, 0), h)) rfl (nI_ne01) ?_
          refine ab_W.go (mm _) 3 (c' := (93, [.ref a, .ref b, .int (nI 1), .int (nI 1), .int (nI 64)], [.int ((nI 1) + (nI 2))], (0, 0), h)) rfl ?_
          refine ab_W.topi (nI_add 1 2) ?_
          refine ab_W.retI (mm _) (rt := some .int) (v := nI (1 + 2)) rfl rfl ?_
          exact hp
    · intro c hc ih L G hL hG
      have low : ∀ D : Bool, (D = true ↔ (L = true ∨ f c < f' c)) → ab_W (ab_st (mT kStamp_compareWith) mB mF (mR kStamp_compareWith) none) (mCC d) post (41, [.ref a, .ref b, .int (b2i D), .int (b2i G), .int (nI c)], [], (0, 0), h) := by
        intro D hD
        have hD2 := ex_s hL D hD
        refine ab_W.go (mm _) 1 (c' := (42, [.ref a, .ref b, .int (b2i D), .int (b2i G), .int (nI c)], [.int (b2i G)], (0, 0), h)) rfl ?_
        cases G with
        | true =>
          show ab_W _ _ _ (42, [.ref a, .ref b, .int (b2i D), .int (nI 1), .int (nI c)], [.int (nI 1)], (0, 0), h)
          refine ab_W.itF (mm _) (p := (nI 1) = 0) (c1 := (45, [.ref a, .ref b, .int (b2i D), .int (nI 1), .int (nI c)], [], (0, 0), h)) (c2 := (62, [.ref a, .ref b, .int (b2i D), .int (nI 1), .int (nI c)], [], (0, 0), h)) rfl (nI_ne01) ?_
          refine ab_W.go (mm _) 4 (c' := (71, [.ref a, .ref b, .int (b2i D), .int (nI 1), .int (nI c + nI 1)], [], (0, 0), h)) rfl ?_
          rw [nI_add c 1]
          refine ab_W.go (mm _) 1 (c' := (7, [.ref a, .ref b, .int (b2i D), .int (nI 1), .int (nI (c + 1))], [], (0, 0), h)) rfl ?_
          exact ih D true hD2 (ex_s hG true ⟨fun _ => Or.inl rfl, fun _ => rfl⟩)
        | false =>
          show ab_W _ _ _ (42, [.ref a, .ref b, .int (b2i D), .int (nI 0), .int (nI c)], [.int (nI 0)], (0, 0), h)
          refine ab_W.itT (mm _) (p := (nI 0) = 0) (c1 := (45, [.ref a, .ref b, .int (b2i D), .int (nI 0), .int (nI c)], [], (0, 0), h)) (c2 := (62, [.ref a, .ref b, .int (b2i D), .int (nI 0), .int (nI c)], [], (0, 0), h)) rfl (nI_0) ?_
          refine ab_W.go (mm _) 1 (c' := (46, [.ref a, .ref b, .int (b2i D), .int (nI 0), .int (nI c)], [.ref a], (0, 0), h)) rfl ?_
          refine ab_W.o (mm _) (a1) rfl (c' := (49, [.ref a, .ref b, .int (b2i D), .int (nI 0), .int (nI c)], [.ref (a + 1)], (0, 0), h)) rfl ?_
          refine ab_W.go (mm _) 1 (c' := (51, [.ref a, .ref b, .int (b2i D), .int (nI 0), .int (nI c)], [.int (nI c), .ref (a + 1)], (0, 0), h)) rfl ?_
          refine ab_W.iald (mm _) (j := c) (a2) rfl (by omega) rfl rfl ?_
          show ab_W _ _ _ (52, [.ref a, .ref b, .int (b2i D), .int (nI 0), .int (nI c)], [.int (ga c)], (0, 0), h)
          refine ab_W.go (mm _) 1 (c' := (53, [.ref a, .ref b, .int (b2i D), .int (nI 0), .int (nI c)], [.ref b, .int (ga c)], (0, 0), h)) rfl ?_
          refine ab_W.o (mm _) (b1) rfl (c' := (56, [.ref a, .ref b, .int (b2i D), .int (nI 0), .int (nI c)], [.ref (b + 1), .int (ga c)], (0, 0), h)) rfl ?_
          refine ab_W.go (mm _) 1 (c' := (58, [.ref a, .ref b, .int (b2i D), .int (nI 0), .int (nI c)], [.int (nI c), .ref (b + 1), .int (ga c)], (0, 0), h)) rfl ?_
          refine ab_W.iald (mm _) (j := c) (b2) rfl (by omega) rfl rfl ?_
          show ab_W _ _ _ (59, [.ref a, .ref b, .int (b2i D), .int (nI 0), .int (nI c)], [.int (gb c), .int (ga c)], (0, 0), h)
          refine ab_W.ite (mm _) (p := (ga c) ≤ (gb c)) (c1 := (66, [.ref a, .ref b, .int (b2i D), .int (nI 0), .int (nI c)], [], (0, 0), h)) (c2 := (62, [.ref a, .ref b, .int (b2i D), .int (nI 0), .int (nI c)], [], (0, 0), h)) rfl (fun q => ?_) (fun q => ?_)
          · skip
            rw [a3 c hc, b3 c hc] at q
            refine ab_W.go (mm _) 3 (c' := (71, [.ref a, .ref b, .int (b2i D), .int (nI 0), .int (nI c + nI 1)], [], (0, 0), h)) rfl ?_
            rw [nI_add c 1]
            refine ab_W.go (mm _) 1 (c' := (7, [.ref a, .ref b, .int (b2i D), .int (nI 0), .int (nI (c + 1))], [], (0, 0), h)) rfl ?_
            exact ih D false hD2 (ex_s hG false ⟨fun z => (by cases z), fun z => z.elim (fun y => by cases y) (fun y => absurd y (Int32.not_lt.mpr q))⟩)
          · skip
            rw [a3 c hc, b3 c hc] at q
            refine ab_W.go (mm _) 4 (c' := (71, [.ref a, .ref b, .int (b2i D), .int (nI 1), .int (nI c + nI 1)], [], (0, 0), h)) rfl ?_
            rw [nI_add c 1]
            refine ab_W.go (mm _) 1 (c' := (7, [.ref a, .ref b, .int (b2i D), .int (nI 1), .int (nI (c + 1))], [], (0, 0), h)) rfl ?_
            exact ih D true hD2 (ex_s hG true ⟨fun _ => Or.inr (Int32.not_le.mp q), fun _ => rfl⟩)
      refine ab_W.go (mm _) 2 (c' := (11, [.ref a, .ref b, .int (b2i L), .int (b2i G), .int (nI c)], [.int (nI 64), .int (nI c)], (0, 0), h)) rfl ?_
      refine ab_W.itF (mm _) (p := (nI 64) ≤ (nI c)) (c1 := (74, [.ref a, .ref b, .int (b2i L), .int (b2i G), .int (nI c)], [], (0, 0), h)) (c2 := (14, [.ref a, .ref b, .int (b2i L), .int (b2i G), .int (nI c)], [], (0, 0), h)) rfl (fun z => absurd ((nI_leI (by omega) (by omega)).mp z) (by omega)) ?_
      refine ab_W.go (mm _) 1 (c' := (15, [.ref a, .ref b, .int (b2i L), .int (b2i G), .int (nI c)], [.int (b2i L)], (0, 0), h)) rfl ?_
      cases L with
      | true =>
        show ab_W _ _ _ (15, [.ref a, .ref b, .int (nI 1), .int (b2i G), .int (nI c)], [.int (nI 1)], (0, 0), h)
        refine ab_W.itF (mm _) (p := (nI 1) = 0) (c1 := (18, [.ref a, .ref b, .int (nI 1), .int (b2i G), .int (nI c)], [], (0, 0), h)) (c2 := (35, [.ref a, .ref b, .int (nI 1), .int (b2i G), .int (nI c)], [], (0, 0), h)) rfl (nI_ne01) ?_
        refine ab_W.go (mm _) 3 (c' := (41, [.ref a, .ref b, .int (nI 1), .int (b2i G), .int (nI c)], [], (0, 0), h)) rfl ?_
        exact low true ⟨fun _ => Or.inl rfl, fun _ => rfl⟩
      | false =>
        show ab_W _ _ _ (15, [.ref a, .ref b, .int (nI 0), .int (b2i G), .int (nI c)], [.int (nI 0)], (0, 0), h)
        refine ab_W.itT (mm _) (p := (nI 0) = 0) (c1 := (18, [.ref a, .ref b, .int (nI 0), .int (b2i G), .int (nI c)], [], (0, 0), h)) (c2 := (35, [.ref a, .ref b, .int (nI 0), .int (b2i G), .int (nI c)], [], (0, 0), h)) rfl (nI_0) ?_
        refine ab_W.go (mm _) 1 (c' := (19, [.ref a, .ref b, .int (nI 0), .int (b2i G), .int (nI c)], [.ref a], (0, 0), h)) rfl ?_
        refine ab_W.o (mm _) (a1) rfl (c' := (22, [.ref a, .ref b, .int (nI 0), .int (b2i G), .int (nI c)], [.ref (a + 1)], (0, 0), h)) rfl ?_
        refine ab_W.go (mm _) 1 (c' := (24, [.ref a, .ref b, .int (nI 0), .int (b2i G), .int (nI c)], [.int (nI c), .ref (a + 1)], (0, 0), h)) rfl ?_
        refine ab_W.iald (mm _) (j := c) (a2) rfl (by omega) rfl rfl ?_
        show ab_W _ _ _ (25, [.ref a, .ref b, .int (nI 0), .int (b2i G), .int (nI c)], [.int (ga c)], (0, 0), h)
        refine ab_W.go (mm _) 1 (c' := (26, [.ref a, .ref b, .int (nI 0), .int (b2i G), .int (nI c)], [.ref b, .int (ga c)], (0, 0), h)) rfl ?_
        refine ab_W.o (mm _) (b1) rfl (c' := (29, [.ref a, .ref b, .int (nI 0), .int (b2i G), .int (nI c)], [.ref (b + 1), .int (ga c)], (0, 0), h)) rfl ?_
        refine ab_W.go (mm _) 1 (c' := (31, [.ref a, .ref b, .int (nI 0), .int (b2i G), .int (nI c)], [.int (nI c), .ref (b + 1), .int (ga c)], (0, 0), h)) rfl ?_
        refine ab_W.iald (mm _) (j := c) (b2) rfl (by omega) rfl rfl ?_
        show ab_W _ _ _ (32, [.ref a, .ref b, .int (nI 0), .int (b2i G), .int (nI c)], [.int (gb c), .int (ga c)], (0, 0), h)
        refine ab_W.ite (mm _) (p := (gb c) ≤ (ga c)) (c1 := (39, [.ref a, .ref b, .int (nI 0), .int (b2i G), .int (nI c)], [], (0, 0), h)) (c2 := (35, [.ref a, .ref b, .int (nI 0), .int (b2i G), .int (nI c)], [], (0, 0), h)) rfl (fun q => ?_) (fun q => ?_)
        · skip
          rw [a3 c hc, b3 c hc] at q
          refine ab_W.go (mm _) 2 (c' := (41, [.ref a, .ref b, .int (nI 0), .int (b2i G), .int (nI c)], [], (0, 0), h)) rfl ?_
          exact low false ⟨fun z => (by cases z), fun z => z.elim (fun y => by cases y) (fun y => absurd y (Int32.not_lt.mpr q))⟩
        · skip
          rw [a3 c hc, b3 c hc] at q
          refine ab_W.go (mm _) 3 (c' := (41, [.ref a, .ref b, .int (nI 1), .int (b2i G), .int (nI c)], [], (0, 0), h)) rfl ?_
          exact low true ⟨fun _ => Or.inr (Int32.not_le.mp q), fun _ => rfl⟩
  refine ⟨rfl, ?_⟩
  show ab_W _ _ _ (0, [.ref a, .ref b, .retAddr 0, .retAddr 0, .retAddr 0], [], (0, 0), h)
  refine ab_W.go (mm _) 6 (c' := (7, [.ref a, .ref b, .int (nI 0), .int (nI 0), .int (nI 0)], [], (0, 0), h)) rfl ?_
  exact loop 0 (Nat.zero_le _) false false ⟨fun z => (by cases z), fun ⟨j, j1, _⟩ => absurd j1 (Nat.not_lt_zero j)⟩ ⟨fun z => (by cases z), fun ⟨j, j1, _⟩ => absurd j1 (Nat.not_lt_zero j)⟩
