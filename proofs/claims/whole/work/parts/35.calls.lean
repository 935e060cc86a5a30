/-! THE CALLS OF THE CLASS -/
def okC (h : ab_H) (post : ab_P) (a : Int32) (σ' : Sg) : Prop := ∀ h', relC h' σ' → (∀ i, 84 ≤ i → h'[i]? = h[i]?) → post (some (.int a)) h'
theorem nI_ne4 : ∀ t, t < 12 → ¬ nI t = -(nI 4) := by decide +kernel
theorem upp_eq (N M : Int64) : N &&& ((N &&& M) ^^^ (-(lN 1))) = N &&& inv64 M := by
  unfold inv64
  refine Int64.toBitVec_inj.mp ?_
  have e : (-(lN 1)).toBitVec = BitVec.allOnes 64 := by decide
  rw [Int64.toBitVec_and, Int64.toBitVec_and, Int64.toBitVec_xor, Int64.toBitVec_xor, Int64.toBitVec_and, e]
  refine BitVec.eq_of_getLsbD_eq fun i hi => ?_
  simp only [BitVec.getLsbD_and, BitVec.getLsbD_xor, BitVec.getLsbD_allOnes, hi, decide_true]
  cases N.toBitVec.getLsbD i <;> cases M.toBitVec.getLsbD i <;> rfl
theorem sp_fork (d : Nat) {h : ab_H} {σ : Sg} {x : Int32} (hR : relC h σ) {post : ab_P} (hp : okC h post ((forkO σ.1 (stN σ.1 x)).1) ((forkO σ.1 (stN σ.1 x)).2, σ.2)) : mCC (d + 6) kSpanStamps_fork [.ref 0, .int x] h post := by
  have r0 := hR.1
  have rc := hR.2.1
  rcases stamp_or σ.1 x with hx | ⟨s, hs, rfl, hx⟩
  · rw [stN_no hx] at hp
    refine ⟨rfl, ?_⟩
    show ab_W _ _ _ (0, [.ref 0, .int x, .retAddr 0, .retAddr 0, .retAddr 0, .retAddr 0], [], (0, 0), h)
    refine ab_W.go (mm _) 1 (c' := (1, [.ref 0, .int x, .retAddr 0, .retAddr 0, .retAddr 0, .retAddr 0], [.ref 0], (0, 0), h)) rfl ?_
    refine ab_W.o (mm _) (r0) rfl (c' := (4, [.ref 0, .int x, .retAddr 0, .retAddr 0, .retAddr 0, .retAddr 0], [.ref 1], (0, 0), h)) rfl ?_
    refine ab_W.go (mm _) 1 (c' := (5, [.ref 0, .int x, .retAddr 0, .retAddr 0, .retAddr 0, .retAddr 0], [.int x, .ref 1], (0, 0), h)) rfl ?_
    refine ab_W.callV (mm _) (rc.1) rfl (k := 1) (av := [.ref 1, .int x]) (c' := (8, [.ref 0, .int x, .retAddr 0, .retAddr 0, .retAddr 0, .retAddr 0], [], (0, 0), h)) rfl ?_
    refine sp_findN _ rc hx ?_
    show ab_W _ _ _ (8, [.ref 0, .int x, .retAddr 0, .retAddr 0, .retAddr 0, .retAddr 0], [.null], (0, 0), h)
    refine ab_W.go (mm _) 2 (c' := (10, [.ref 0, .int x, .null, .retAddr 0, .retAddr 0, .retAddr 0], [.null], (0, 0), h)) rfl ?_
    refine ab_W.go (mm _) 1 (c' := (13, [.ref 0, .int x, .null, .retAddr 0, .retAddr 0, .retAddr 0], [], (0, 0), h)) rfl ?_
    refine ab_W.go (mm _) 1 (c' := (14, [.ref 0, .int x, .null, .retAddr 0, .retAddr 0, .retAddr 0], [.int (-(nI 1))], (0, 0), h)) rfl ?_
    refine ab_W.retI (mm _) (rt := some .int) (v := -(nI 1)) rfl rfl ?_
    exact hp h hR (fun _ _ => rfl)
  · rw [stN_yes hs hx] at hp
    have e := (rc.2.2 s hs).1
    refine ⟨rfl, ?_⟩
    show ab_W _ _ _ (0, [.ref 0, .int (nI s), .retAddr 0, .retAddr 0, .retAddr 0, .retAddr 0], [], (0, 0), h)
    refine ab_W.go (mm _) 1 (c' := (1, [.ref 0, .int (nI s), .retAddr 0, .retAddr 0, .retAddr 0, .retAddr 0], [.ref 0], (0, 0), h)) rfl ?_
    refine ab_W.o (mm _) (r0) rfl (c' := (4, [.ref 0, .int (nI s), .retAddr 0, .retAddr 0, .retAddr 0, .retAddr 0], [.ref 1], (0, 0), h)) rfl ?_
    refine ab_W.go (mm _) 1 (c' := (5, [.ref 0, .int (nI s), .retAddr 0, .retAddr 0, .retAddr 0, .retAddr 0], [.int (nI s), .ref 1], (0, 0), h)) rfl ?_
    refine ab_W.callV (mm _) (rc.1) rfl (k := 1) (av := [.ref 1, .int (nI s)]) (c' := (8, [.ref 0, .int (nI s), .retAddr 0, .retAddr 0, .retAddr 0, .retAddr 0], [], (0, 0), h)) rfl ?_
    refine sp_find _ rc hs hx ?_
    show ab_W _ _ _ (8, [.ref 0, .int (nI s), .retAddr 0, .retAddr 0, .retAddr 0, .retAddr 0], [.ref (1 + 2 + 2 * s)], (0, 0), h)
    refine ab_W.go (mm _) 2 (c' := (10, [.ref 0, .int (nI s), .ref (1 + 2 + 2 * s), .retAddr 0, .retAddr 0, .retAddr 0], [.ref (1 + 2 + 2 * s)], (0, 0), h)) rfl ?_
    refine ab_W.go (mm _) 1 (c' := (15, [.ref 0, .int (nI s), .ref (1 + 2 + 2 * s), .retAddr 0, .retAddr 0, .retAddr 0], [], (0, 0), h)) rfl ?_
    refine ab_W.go (mm _) 1 (c' := (16, [.ref 0, .int (nI s), .ref (1 + 2 + 2 * s), .retAddr 0, .retAddr 0, .retAddr 0], [.ref (1 + 2 + 2 * s)], (0, 0), h)) rfl ?_
    refine ab_W.o (mm _) (e) rfl (c' := (19, [.ref 0, .int (nI s), .ref (1 + 2 + 2 * s), .retAddr 0, .retAddr 0, .retAddr 0], [.long (nm σ.1 s)], (0, 0), h)) rfl ?_
    refine ab_W.go (mm _) 2 (c' := (21, [.ref 0, .int (nI s), .ref (1 + 2 + 2 * s), .retAddr 0, .retAddr 0, .retAddr 0], [.int (lg_cmp (nm σ.1 s) (lN 0))], (0, 0), h)) rfl ?_
    refine ab_W.ite (mm _) (p := (lg_cmp (nm σ.1 s) (lN 0)) = 0) (c1 := (24, [.ref 0, .int (nI s), .ref (1 + 2 + 2 * s), .retAddr 0, .retAddr 0, .retAddr 0], [], (0, 0), h)) (c2 := (27, [.ref 0, .int (nI s), .ref (1 + 2 + 2 * s), .retAddr 0, .retAddr 0, .retAddr 0], [], (0, 0), h)) rfl (fun q => ?_) (fun q => ?_)
    · skip
      have q := (lg_cmp0 _ _).mp q
      rw [show forkO σ.1 (some s) = (-(nI 3), σ.1) from ci_t q] at hp
      refine ab_W.go (mm _) 1 (c' := (26, [.ref 0, .int (nI s), .ref (1 + 2 + 2 * s), .retAddr 0, .retAddr 0, .retAddr 0], [.int (-(nI 3))], (0, 0), h)) rfl ?_
      refine ab_W.retI (mm _) (rt := some .int) (v := -(nI 3)) rfl rfl ?_
      exact hp h hR (fun _ _ => rfl)
    · skip
      have q : ¬ nm σ.1 s = lN 0 := fun z => q ((lg_cmp0 _ _).mpr z)
      refine ab_W.go (mm _) 1 (c' := (28, [.ref 0, .int (nI s), .ref (1 + 2 + 2 * s), .retAddr 0, .retAddr 0, .retAddr 0], [.ref (1 + 2 + 2 * s)], (0, 0), h)) rfl ?_
      refine ab_W.o (mm _) (e) rfl (c' := (31, [.ref 0, .int (nI s), .ref (1 + 2 + 2 * s), .retAddr 0, .retAddr 0, .retAddr 0], [.long (nm σ.1 s)], (0, 0), h)) rfl ?_
      refine ab_W.call (mm _) (k := 122) (av := [.long (nm σ.1 s)]) (c' := (34, [.ref 0, .int (nI s), .ref (1 + 2 + 2 * s), .retAddr 0, .retAddr 0, .retAddr 0], [], (0, 0), h)) rfl ?_
      refine bit_count _ ?_
      show ab_W _ _ _ (34, [.ref 0, .int (nI s), .ref (1 + 2 + 2 * s), .retAddr 0, .retAddr 0, .retAddr 0], [.int (nI (cnt (nm σ.1 s) 64))], (0, 0), h)
      refine ab_W.go (mm _) 1 (c' := (35, [.ref 0, .int (nI s), .ref (1 + 2 + 2 * s), .retAddr 0, .retAddr 0, .retAddr 0], [.int (nI 1), .int (nI (cnt (nm σ.1 s) 64))], (0, 0), h)) rfl ?_
      have l64 : cnt (nm σ.1 s) 64 ≤ 64 := cnt_le _ 64
      refine ab_W.ite (mm _) (p := (nI (cnt (nm σ.1 s) 64)) = (nI 1)) (c1 := (38, [.ref 0, .int (nI s), .ref (1 + 2 + 2 * s), .retAddr 0, .retAddr 0, .retAddr 0], [], (0, 0), h)) (c2 := (41, [.ref 0, .int (nI s), .ref (1 + 2 + 2 * s), .retAddr 0, .retAddr 0, .retAddr 0], [], (0, 0), h)) rfl (fun q2 => ?_) (fun q2 => ?_)
      · skip
        have q2 := (nI_eq (by omega) (by omega)).mp q2
        rw [show forkO σ.1 (some s) = (-(nI 5), σ.1) from (ci_f q).trans (ci_t q2)] at hp
        refine ab_W.go (mm _) 1 (c' := (40, [.ref 0, .int (nI s), .ref (1 + 2 + 2 * s), .retAddr 0, .retAddr 0, .retAddr 0], [.int (-(nI 5))], (0, 0), h)) rfl ?_
        refine ab_W.retI (mm _) (rt := some .int) (v := -(nI 5)) rfl rfl ?_
        exact hp h hR (fun _ _ => rfl)
      · skip
        have q2 : ¬ cnt (nm σ.1 s) 64 = 1 := fun z => q2 (by rw [z])
        refine ab_W.go (mm _) 1 (c' := (42, [.ref 0, .int (nI s), .ref (1 + 2 + 2 * s), .retAddr 0, .retAddr 0, .retAddr 0], [.ref (1 + 2 + 2 * s)], (0, 0), h)) rfl ?_
        refine ab_W.o (mm _) (e) rfl (c' := (45, [.ref 0, .int (nI s), .ref (1 + 2 + 2 * s), .retAddr 0, .retAddr 0, .retAddr 0], [.long (nm σ.1 s)], (0, 0), h)) rfl ?_
        refine ab_W.call (mm _) (k := 28) (av := [.long (nm σ.1 s)]) (c' := (48, [.ref 0, .int (nI s), .ref (1 + 2 + 2 * s), .retAddr 0, .retAddr 0, .retAddr 0], [], (0, 0), h)) rfl ?_
        refine sp_lowerPart _ q q2 ?_
        show ab_W _ _ _ (48, [.ref 0, .int (nI s), .ref (1 + 2 + 2 * s), .retAddr 0, .retAddr 0, .retAddr 0], [.long (lowN (nm σ.1 s))], (0, 0), h)
        refine ab_W.go (mm _) 2 (c' := (50, [.ref 0, .int (nI s), .ref (1 + 2 + 2 * s), .long (lowN (nm σ.1 s)), .retAddr 0, .retAddr 0], [.ref 0], (0, 0), h)) rfl ?_
        refine ab_W.o (mm _) (r0) rfl (c' := (53, [.ref 0, .int (nI s), .ref (1 + 2 + 2 * s), .long (lowN (nm σ.1 s)), .retAddr 0, .retAddr 0], [.ref 1], (0, 0), h)) rfl ?_
        refine ab_W.go (mm _) 2 (c' := (55, [.ref 0, .int (nI s), .ref (1 + 2 + 2 * s), .long (lowN (nm σ.1 s)), .retAddr 0, .retAddr 0], [.ref (1 + 2 + 2 * s), .ref (1 + 2 + 2 * s), .ref 1], (0, 0), h)) rfl ?_
        refine ab_W.o (mm _) (e) rfl (c' := (58, [.ref 0, .int (nI s), .ref (1 + 2 + 2 * s), .long (lowN (nm σ.1 s)), .retAddr 0, .retAddr 0], [.long (nm σ.1 s), .ref (1 + 2 + 2 * s), .ref 1], (0, 0), h)) rfl ?_
        refine ab_W.go (mm _) 4 (c' := (64, [.ref 0, .int (nI s), .ref (1 + 2 + 2 * s), .long (lowN (nm σ.1 s)), .retAddr 0, .retAddr 0], [.long ((nm σ.1 s) &&& ((lowN (nm σ.1 s)) ^^^ (-(lN 1)))), .ref (1 + 2 + 2 * s), .ref 1], (0, 0), h)) rfl ?_
        refine ab_W.topl (upp_eq _ _) ?_
        rcases free_or σ.1 with ⟨t, hf⟩ | hf
        · rw [show forkO σ.1 (some s) = _ from (ci_f q).trans (ci_f q2), frN_yes hf] at hp
          have hne : s ≠ t := fun z => by rw [z, hf.2.1] at hx; cases hx
          refine ab_W.callV (mm _) (rc.1) rfl (k := 2) (av := [.ref 1, .ref (1 + 2 + 2 * s), .long (uppN (nm σ.1 s))]) (c' := (67, [.ref 0, .int (nI s), .ref (1 + 2 + 2 * s), .long (lowN (nm σ.1 s)), .retAddr 0, .retAddr 0], [], (0, 0), h)) rfl ?_
          refine sp_addLike _ rc hs hx hf (fun h1 c1 k1 => ?_)
          show ab_W _ _ _ (67, [.ref 0, .int (nI s), .ref (1 + 2 + 2 * s), .long (lowN (nm σ.1 s)), .retAddr 0, .retAddr 0], [.int (nI t)], (0, 0), h1)
          refine ab_W.go (mm _) 3 (c' := (73, [.ref 0, .int (nI s), .ref (1 + 2 + 2 * s), .long (lowN (nm σ.1 s)), .retAddr 0, .int (nI t)], [.int (-(nI 4)), .int (nI t)], (0, 0), h1)) rfl ?_
          refine ab_W.itF (mm _) (p := (nI t) = (-(nI 4))) (c1 := (81, [.ref 0, .int (nI s), .ref (1 + 2 + 2 * s), .long (lowN (nm σ.1 s)), .retAddr 0, .int (nI t)], [], (0, 0), h1)) (c2 := (76, [.ref 0, .int (nI s), .ref (1 + 2 + 2 * s), .long (lowN (nm σ.1 s)), .retAddr 0, .int (nI t)], [], (0, 0), h1)) rfl (nI_ne4 t hf.1) ?_
          refine ab_W.go (mm _) 2 (c' := (78, [.ref 0, .int (nI s), .ref (1 + 2 + 2 * s), .long (lowN (nm σ.1 s)), .retAddr 0, .int (nI t)], [.long (lowN (nm σ.1 s)), .ref (1 + 2 + 2 * s)], (0, 0), h1)) rfl ?_
          have c1' := c1.2.2 s hs
          rw [show pr (setS σ.1 t true (uppN (nm σ.1 s)) (kn σ.1 s) (ht σ.1 s)) s = pr σ.1 s from va_up_ne _ _ hne, show nm (setS σ.1 t true (uppN (nm σ.1 s)) (kn σ.1 s) (ht σ.1 s)) s = nm σ.1 s from va_up_ne _ _ hne, show kn (setS σ.1 t true (uppN (nm σ.1 s)) (kn σ.1 s) (ht σ.1 s)) s = kn σ.1 s from va_up_ne _ _ hne, show ht (setS σ.1 t true (uppN (nm σ.1 s)) (kn σ.1 s) (ht σ.1 s)) s = ht σ.1 s from va_up_ne _ _ hne, hx] at c1'
          obtain ⟨f1, g, f2, f3⟩ := c1'
          refine ab_W.o (mm _) (f1) rfl (c' := (81, [.ref 0, .int (nI s), .ref (1 + 2 + 2 * s), .long (lowN (nm σ.1 s)), .retAddr 0, .int (nI t)], [], (0, 0), h1.set (1 + 2 + 2 * s) (.inr (3, [.int (b2i true), .long (lowN (nm σ.1 s)), .long (kn σ.1 s), .ref (1 + 2 + 2 * s + 1)])))) rfl ?_
          refine ab_W.go (mm _) 1 (c' := (83, [.ref 0, .int (nI s), .ref (1 + 2 + 2 * s), .long (lowN (nm σ.1 s)), .retAddr 0, .int (nI t)], [.int (nI t)], (0, 0), h1.set (1 + 2 + 2 * s) (.inr (3, [.int (b2i true), .long (lowN (nm σ.1 s)), .long (kn σ.1 s), .ref (1 + 2 + 2 * s + 1)])))) rfl ?_
          refine ab_W.retI (mm _) (rt := some .int) (v := nI t) rfl rfl ?_
          have c2 : cir (h1.set (1 + 2 + 2 * s) (.inr (3, [.int (b2i true), .long (lowN (nm σ.1 s)), .long (kn σ.1 s), .ref (1 + 2 + 2 * s + 1)]))) 1 _ := c1.set hs ⟨set_at f1, g, (set_ne (by omega)).trans f2, f3⟩ (fun i i1 i2 => set_ne (fun z => i1 z.symm))
          exact hp _ (hR.cur c2 (fun i hi => (set_ne (by omega)).trans (k1 i (by omega)))) (fun i hi => (set_ne (by omega)).trans (k1 i (by omega)))
        · rw [show forkO σ.1 (some s) = _ from (ci_f q).trans (ci_f q2), frN_no hf] at hp
          refine ab_W.callV (mm _) (rc.1) rfl (k := 2) (av := [.ref 1, .ref (1 + 2 + 2 * s), .long (uppN (nm σ.1 s))]) (c' := (67, [.ref 0, .int (nI s), .ref (1 + 2 + 2 * s), .long (lowN (nm σ.1 s)), .retAddr 0, .retAddr 0], [], (0, 0), h)) rfl ?_
          refine sp_addLikeN _ rc hf ?_
          show ab_W _ _ _ (67, [.ref 0, .int (nI s), .ref (1 + 2 + 2 * s), .long (lowN (nm σ.1 s)), .retAddr 0, .retAddr 0], [.int (-(nI 4))], (0, 0), h)
          refine ab_W.go (mm _) 3 (c' := (73, [.ref 0, .int (nI s), .ref (1 + 2 + 2 * s), .long (lowN (nm σ.1 s)), .retAddr 0, .int (-(nI 4))], [.int (-(nI 4)), .int (-(nI 4))], (0, 0), h)) rfl ?_
          refine ab_W.itT (mm _) (p := (-(nI 4)) = (-(nI 4))) (c1 := (81, [.ref 0, .int (nI s), .ref (1 + 2 + 2 * s), .long (lowN (nm σ.1 s)), .retAddr 0, .int (-(nI 4))], [], (0, 0), h)) (c2 := (76, [.ref 0, .int (nI s), .ref (1 + 2 + 2 * s), .long (lowN (nm σ.1 s)), .retAddr 0, .int (-(nI 4))], [], (0, 0), h)) rfl (rfl) ?_
          refine ab_W.go (mm _) 1 (c' := (83, [.ref 0, .int (nI s), .ref (1 + 2 + 2 * s), .long (lowN (nm σ.1 s)), .retAddr 0, .int (-(nI 4))], [.int (-(nI 4))], (0, 0), h)) rfl ?_
          refine ab_W.retI (mm _) (rt := some .int) (v := -(nI 4)) rfl rfl ?_
          exact hp h hR (fun _ _ => rfl)
theorem sp_peek (d : Nat) {h : ab_H} {σ : Sg} {x : Int32} (hR : relC h σ) {post : ab_P} (hp : okC h post ((peekO σ.1 (stN σ.1 x)).1) ((peekO σ.1 (stN σ.1 x)).2, σ.2)) : mCC (d + 6) kSpanStamps_peek [.ref 0, .int x] h post := by
  have r0 := hR.1
  have rc := hR.2.1
  rcases stamp_or σ.1 x with hx | ⟨s, hs, rfl, hx⟩
  · rw [stN_no hx] at hp
    refine ⟨rfl, ?_⟩
    show ab_W _ _ _ (0, [.ref 0, .int x, .retAddr 0], [], (0, 0), h)
    refine ab_W.go (mm _) 1 (c' := (1, [.ref 0, .int x, .retAddr 0], [.ref 0], (0, 0), h)) rfl ?_
    refine ab_W.o (mm _) (r0) rfl (c' := (4, [.ref 0, .int x, .retAddr 0], [.ref 1], (0, 0), h)) rfl ?_
    refine ab_W.go (mm _) 1 (c' := (5, [.ref 0, .int x, .retAddr 0], [.int x, .ref 1], (0, 0), h)) rfl ?_
    refine ab_W.callV (mm _) (rc.1) rfl (k := 1) (av := [.ref 1, .int x]) (c' := (8, [.ref 0, .int x, .retAddr 0], [], (0, 0), h)) rfl ?_
    refine sp_findN _ rc hx ?_
    show ab_W _ _ _ (8, [.ref 0, .int x, .retAddr 0], [.null], (0, 0), h)
    refine ab_W.go (mm _) 2 (c' := (10, [.ref 0, .int x, .null], [.null], (0, 0), h)) rfl ?_
    refine ab_W.go (mm _) 1 (c' := (13, [.ref 0, .int x, .null], [], (0, 0), h)) rfl ?_
    refine ab_W.go (mm _) 1 (c' := (14, [.ref 0, .int x, .null], [.int (-(nI 1))], (0, 0), h)) rfl ?_
    refine ab_W.retI (mm _) (rt := some .int) (v := -(nI 1)) rfl rfl ?_
    exact hp h hR (fun _ _ => rfl)
  · rw [stN_yes hs hx] at hp
    have e := (rc.2.2 s hs).1
    refine ⟨rfl, ?_⟩
    show ab_W _ _ _ (0, [.ref 0, .int (nI s), .retAddr 0], [], (0, 0), h)
    refine ab_W.go (mm _) 1 (c' := (1, [.ref 0, .int (nI s), .retAddr 0], [.ref 0], (0, 0), h)) rfl ?_
    refine ab_W.o (mm _) (r0) rfl (c' := (4, [.ref 0, .int (nI s), .retAddr 0], [.ref 1], (0, 0), h)) rfl ?_
    refine ab_W.go (mm _) 1 (c' := (5, [.ref 0, .int (nI s), .retAddr 0], [.int (nI s), .ref 1], (0, 0), h)) rfl ?_
    refine ab_W.callV (mm _) (rc.1) rfl (k := 1) (av := [.ref 1, .int (nI s)]) (c' := (8, [.ref 0, .int (nI s), .retAddr 0], [], (0, 0), h)) rfl ?_
    refine sp_find _ rc hs hx ?_
    show ab_W _ _ _ (8, [.ref 0, .int (nI s), .retAddr 0], [.ref (1 + 2 + 2 * s)], (0, 0), h)
    refine ab_W.go (mm _) 2 (c' := (10, [.ref 0, .int (nI s), .ref (1 + 2 + 2 * s)], [.ref (1 + 2 + 2 * s)], (0, 0), h)) rfl ?_
    refine ab_W.go (mm _) 1 (c' := (15, [.ref 0, .int (nI s), .ref (1 + 2 + 2 * s)], [], (0, 0), h)) rfl ?_
    refine ab_W.go (mm _) 1 (c' := (16, [.ref 0, .int (nI s), .ref (1 + 2 + 2 * s)], [.ref 0], (0, 0), h)) rfl ?_
    refine ab_W.o (mm _) (r0) rfl (c' := (19, [.ref 0, .int (nI s), .ref (1 + 2 + 2 * s)], [.ref 1], (0, 0), h)) rfl ?_
    refine ab_W.go (mm _) 2 (c' := (21, [.ref 0, .int (nI s), .ref (1 + 2 + 2 * s)], [.long (lN 0), .ref (1 + 2 + 2 * s), .ref 1], (0, 0), h)) rfl ?_
    rcases free_or σ.1 with ⟨t, hf⟩ | hf
    · simp only [peekO, frN_yes hf] at hp
      refine ab_W.callV (mm _) (rc.1) rfl (k := 2) (av := [.ref 1, .ref (1 + 2 + 2 * s), .long (lN 0)]) (c' := (24, [.ref 0, .int (nI s), .ref (1 + 2 + 2 * s)], [], (0, 0), h)) rfl ?_
      refine sp_addLike _ rc hs hx hf (fun h1 c1 k1 => ?_)
      show ab_W _ _ _ (24, [.ref 0, .int (nI s), .ref (1 + 2 + 2 * s)], [.int (nI t)], (0, 0), h1)
      refine ab_W.retI (mm _) (rt := some .int) (v := nI t) rfl rfl ?_
      exact hp _ (hR.cur c1 (fun i hi => k1 i (by omega))) (fun i hi => k1 i (by omega))
    · simp only [peekO, frN_no hf] at hp
      refine ab_W.callV (mm _) (rc.1) rfl (k := 2) (av := [.ref 1, .ref (1 + 2 + 2 * s), .long (lN 0)]) (c' := (24, [.ref 0, .int (nI s), .ref (1 + 2 + 2 * s)], [], (0, 0), h)) rfl ?_
      refine sp_addLikeN _ rc hf ?_
      show ab_W _ _ _ (24, [.ref 0, .int (nI s), .ref (1 + 2 + 2 * s)], [.int (-(nI 4))], (0, 0), h)
      refine ab_W.retI (mm _) (rt := some .int) (v := -(nI 4)) rfl rfl ?_
      exact hp h hR (fun _ _ => rfl)
theorem sp_drop (d : Nat) {h : ab_H} {σ : Sg} {x : Int32} (hR : relC h σ) {post : ab_P} (hp : okC h post ((dropO σ.1 (stN σ.1 x)).1) ((dropO σ.1 (stN σ.1 x)).2, σ.2)) : mCC (d + 6) kSpanStamps_drop [.ref 0, .int x] h post := by
  have r0 := hR.1
  have rc := hR.2.1
  rcases stamp_or σ.1 x with hx | ⟨s, hs, rfl, hx⟩
  · rw [stN_no hx] at hp
    refine ⟨rfl, ?_⟩
    show ab_W _ _ _ (0, [.ref 0, .int x, .retAddr 0], [], (0, 0), h)
    refine ab_W.go (mm _) 1 (c' := (1, [.ref 0, .int x, .retAddr 0], [.ref 0], (0, 0), h)) rfl ?_
    refine ab_W.o (mm _) (r0) rfl (c' := (4, [.ref 0, .int x, .retAddr 0], [.ref 1], (0, 0), h)) rfl ?_
    refine ab_W.go (mm _) 1 (c' := (5, [.ref 0, .int x, .retAddr 0], [.int x, .ref 1], (0, 0), h)) rfl ?_
    refine ab_W.callV (mm _) (rc.1) rfl (k := 1) (av := [.ref 1, .int x]) (c' := (8, [.ref 0, .int x, .retAddr 0], [], (0, 0), h)) rfl ?_
    refine sp_findN _ rc hx ?_
    show ab_W _ _ _ (8, [.ref 0, .int x, .retAddr 0], [.null], (0, 0), h)
    refine ab_W.go (mm _) 2 (c' := (10, [.ref 0, .int x, .null], [.null], (0, 0), h)) rfl ?_
    refine ab_W.go (mm _) 1 (c' := (13, [.ref 0, .int x, .null], [], (0, 0), h)) rfl ?_
    refine ab_W.go (mm _) 1 (c' := (14, [.ref 0, .int x, .null], [.int (-(nI 1))], (0, 0), h)) rfl ?_
    refine ab_W.retI (mm _) (rt := some .int) (v := -(nI 1)) rfl rfl ?_
    exact hp h hR (fun _ _ => rfl)
  · rw [stN_yes hs hx] at hp
    have e := (rc.2.2 s hs).1
    refine ⟨rfl, ?_⟩
    show ab_W _ _ _ (0, [.ref 0, .int (nI s), .retAddr 0], [], (0, 0), h)
    refine ab_W.go (mm _) 1 (c' := (1, [.ref 0, .int (nI s), .retAddr 0], [.ref 0], (0, 0), h)) rfl ?_
    refine ab_W.o (mm _) (r0) rfl (c' := (4, [.ref 0, .int (nI s), .retAddr 0], [.ref 1], (0, 0), h)) rfl ?_
    refine ab_W.go (mm _) 1 (c' := (5, [.ref 0, .int (nI s), .retAddr 0], [.int (nI s), .ref 1], (0, 0), h)) rfl ?_
    refine ab_W.callV (mm _) (rc.1) rfl (k := 1) (av := [.ref 1, .int (nI s)]) (c' := (8, [.ref 0, .int (nI s), .retAddr 0], [], (0, 0), h)) rfl ?_
    refine sp_find _ rc hs hx ?_
    show ab_W _ _ _ (8, [.ref 0, .int (nI s), .retAddr 0], [.ref (1 + 2 + 2 * s)], (0, 0), h)
    refine ab_W.go (mm _) 2 (c' := (10, [.ref 0, .int (nI s), .ref (1 + 2 + 2 * s)], [.ref (1 + 2 + 2 * s)], (0, 0), h)) rfl ?_
    refine ab_W.go (mm _) 1 (c' := (15, [.ref 0, .int (nI s), .ref (1 + 2 + 2 * s)], [], (0, 0), h)) rfl ?_
    refine ab_W.go (mm _) 1 (c' := (16, [.ref 0, .int (nI s), .ref (1 + 2 + 2 * s)], [.ref (1 + 2 + 2 * s)], (0, 0), h)) rfl ?_
    refine ab_W.o (mm _) (e) rfl (c' := (19, [.ref 0, .int (nI s), .ref (1 + 2 + 2 * s)], [.long (nm σ.1 s)], (0, 0), h)) rfl ?_
    refine ab_W.go (mm _) 2 (c' := (21, [.ref 0, .int (nI s), .ref (1 + 2 + 2 * s)], [.int (lg_cmp (nm σ.1 s) (lN 0))], (0, 0), h)) rfl ?_
    refine ab_W.ite (mm _) (p := (lg_cmp (nm σ.1 s) (lN 0)) = 0) (c1 := (27, [.ref 0, .int (nI s), .ref (1 + 2 + 2 * s)], [], (0, 0), h)) (c2 := (24, [.ref 0, .int (nI s), .ref (1 + 2 + 2 * s)], [], (0, 0), h)) rfl (fun q => ?_) (fun q => ?_)
    · skip
      have q := (lg_cmp0 _ _).mp q
      rw [show dropO σ.1 (some s) = _ from ci_t q] at hp
      refine ab_W.go (mm _) 2 (c' := (29, [.ref 0, .int (nI s), .ref (1 + 2 + 2 * s)], [.int (nI 0), .ref (1 + 2 + 2 * s)], (0, 0), h)) rfl ?_
      obtain ⟨f1, g, f2, f3⟩ := rc.2.2 s hs
      refine ab_W.o (mm _) (f1) rfl (c' := (32, [.ref 0, .int (nI s), .ref (1 + 2 + 2 * s)], [], (0, 0), h.set (1 + 2 + 2 * s) (.inr (3, [.int (b2i false), .long (nm σ.1 s), .long (kn σ.1 s), .ref (1 + 2 + 2 * s + 1)])))) rfl ?_
      have c2 : cir (h.set (1 + 2 + 2 * s) (.inr (3, [.int (b2i false), .long (nm σ.1 s), .long (kn σ.1 s), .ref (1 + 2 + 2 * s + 1)]))) 1 (dropC σ.1 s) := rc.set hs ⟨set_at f1, g, (set_ne (by omega)).trans f2, f3⟩ (fun i i1 i2 => set_ne (fun z => i1 z.symm))
      obtain ⟨h1, e1⟩ : ∃ h1, h1 = h.set (1 + 2 + 2 * s) (.inr (3, [.int (b2i false), .long (nm σ.1 s), .long (kn σ.1 s), .ref (1 + 2 + 2 * s + 1)])) := ⟨_, rfl⟩
      have k1 : ∀ i, i < 1 ∨ 27 ≤ i → h1[i]? = h[i]? := fun i hi => by rw [e1]; exact set_ne (by omega)
      rw [← e1] at c2
      refine ab_W.hp (e1.symm) ?_
      show ab_W _ _ _ (32, [.ref 0, .int (nI s), .ref (1 + 2 + 2 * s)], [], (0, 0), h1)
      refine ab_W.go (mm _) 1 (c' := (33, [.ref 0, .int (nI s), .ref (1 + 2 + 2 * s)], [.ref 0], (0, 0), h1)) rfl ?_
      refine ab_W.o (mm _) ((k1 0 (by omega)).trans r0) rfl (c' := (36, [.ref 0, .int (nI s), .ref (1 + 2 + 2 * s)], [.ref 1], (0, 0), h1)) rfl ?_
      refine ab_W.callV (mm _) (c2.1) rfl (k := 4) (av := [.ref 1]) (c' := (39, [.ref 0, .int (nI s), .ref (1 + 2 + 2 * s)], [], (0, 0), h1)) rfl ?_
      refine sp_howMany _ c2 ?_
      show ab_W _ _ _ (39, [.ref 0, .int (nI s), .ref (1 + 2 + 2 * s)], [.int (nI (cb (pr (dropC σ.1 s)) 12))], (0, 0), h1)
      refine ab_W.retI (mm _) (rt := some .int) (v := nI (cb (pr (dropC σ.1 s)) 12)) rfl rfl ?_
      exact hp _ (hR.cur c2 k1) (fun i hi => k1 i (by omega))
    · skip
      have q : ¬ nm σ.1 s = lN 0 := fun z => q ((lg_cmp0 _ _).mpr z)
      rw [show dropO σ.1 (some s) = _ from ci_f q] at hp
      refine ab_W.go (mm _) 1 (c' := (26, [.ref 0, .int (nI s), .ref (1 + 2 + 2 * s)], [.int (-(nI 5))], (0, 0), h)) rfl ?_
      refine ab_W.retI (mm _) (rt := some .int) (v := -(nI 5)) rfl rfl ?_
      exact hp h hR (fun _ _ => rfl)
theorem sp_order (d : Nat) {h : ab_H} {σ : Sg} {x : Int32} {y : Int32} (hR : relC h σ) {post : ab_P} (hp : okC h post (orderO σ.1 (stN σ.1 x) (stN σ.1 y)) (σ)) : mCC (d + 3) kSpanStamps_order [.ref 0, .int x, .int y] h post := by
  have r0 := hR.1
  have rc := hR.2.1
  rcases stamp_or σ.1 x with hx | ⟨s, hs, rfl, hx⟩
  · rw [stN_no hx] at hp
    rcases stamp_or σ.1 y with hy | ⟨t, ht', rfl, hy⟩
    · refine ⟨rfl, ?_⟩
      show ab_W _ _ _ (0, [.ref 0, .int x, .int y, .retAddr 0, .retAddr 0], [], (0, 0), h)
      refine ab_W.go (mm _) 1 (c' := (1, [.ref 0, .int x, .int y, .retAddr 0, .retAddr 0], [.ref 0], (0, 0), h)) rfl ?_
      refine ab_W.o (mm _) (r0) rfl (c' := (4, [.ref 0, .int x, .int y, .retAddr 0, .retAddr 0], [.ref 1], (0, 0), h)) rfl ?_
      refine ab_W.go (mm _) 1 (c' := (5, [.ref 0, .int x, .int y, .retAddr 0, .retAddr 0], [.int x, .ref 1], (0, 0), h)) rfl ?_
      refine ab_W.callV (mm _) (rc.1) rfl (k := 1) (av := [.ref 1, .int x]) (c' := (8, [.ref 0, .int x, .int y, .retAddr 0, .retAddr 0], [], (0, 0), h)) rfl ?_
      refine sp_findN _ rc hx ?_
      show ab_W _ _ _ (8, [.ref 0, .int x, .int y, .retAddr 0, .retAddr 0], [.null], (0, 0), h)
      refine ab_W.go (mm _) 2 (c' := (10, [.ref 0, .int x, .int y, .null, .retAddr 0], [.ref 0], (0, 0), h)) rfl ?_
      refine ab_W.o (mm _) (r0) rfl (c' := (13, [.ref 0, .int x, .int y, .null, .retAddr 0], [.ref 1], (0, 0), h)) rfl ?_
      refine ab_W.go (mm _) 1 (c' := (14, [.ref 0, .int x, .int y, .null, .retAddr 0], [.int y, .ref 1], (0, 0), h)) rfl ?_
      refine ab_W.callV (mm _) (rc.1) rfl (k := 1) (av := [.ref 1, .int y]) (c' := (17, [.ref 0, .int x, .int y, .null, .retAddr 0], [], (0, 0), h)) rfl ?_
      refine sp_findN _ rc hy ?_
      show ab_W _ _ _ (17, [.ref 0, .int x, .int y, .null, .retAddr 0], [.null], (0, 0), h)
      refine ab_W.go (mm _) 2 (c' := (20, [.ref 0, .int x, .int y, .null, .null], [.null], (0, 0), h)) rfl ?_
      refine ab_W.go (mm _) 1 (c' := (28, [.ref 0, .int x, .int y, .null, .null], [], (0, 0), h)) rfl ?_
      refine ab_W.go (mm _) 1 (c' := (29, [.ref 0, .int x, .int y, .null, .null], [.int (-(nI 1))], (0, 0), h)) rfl ?_
      refine ab_W.retI (mm _) (rt := some .int) (v := -(nI 1)) rfl rfl ?_
      exact hp h hR (fun _ _ => rfl)
    · refine ⟨rfl, ?_⟩
      show ab_W _ _ _ (0, [.ref 0, .int x, .int (nI t), .retAddr 0, .retAddr 0], [], (0, 0), h)
      refine ab_W.go (mm _) 1 (c' := (1, [.ref 0, .int x, .int (nI t), .retAddr 0, .retAddr 0], [.ref 0], (0, 0), h)) rfl ?_
      refine ab_W.o (mm _) (r0) rfl (c' := (4, [.ref 0, .int x, .int (nI t), .retAddr 0, .retAddr 0], [.ref 1], (0, 0), h)) rfl ?_
      refine ab_W.go (mm _) 1 (c' := (5, [.ref 0, .int x, .int (nI t), .retAddr 0, .retAddr 0], [.int x, .ref 1], (0, 0), h)) rfl ?_
      refine ab_W.callV (mm _) (rc.1) rfl (k := 1) (av := [.ref 1, .int x]) (c' := (8, [.ref 0, .int x, .int (nI t), .retAddr 0, .retAddr 0], [], (0, 0), h)) rfl ?_
      refine sp_findN _ rc hx ?_
      show ab_W _ _ _ (8, [.ref 0, .int x, .int (nI t), .retAddr 0, .retAddr 0], [.null], (0, 0), h)
      refine ab_W.go (mm _) 2 (c' := (10, [.ref 0, .int x, .int (nI t), .null, .retAddr 0], [.ref 0], (0, 0), h)) rfl ?_
      refine ab_W.o (mm _) (r0) rfl (c' := (13, [.ref 0, .int x, .int (nI t), .null, .retAddr 0], [.ref 1], (0, 0), h)) rfl ?_
      refine ab_W.go (mm _) 1 (c' := (14, [.ref 0, .int x, .int (nI t), .null, .retAddr 0], [.int (nI t), .ref 1], (0, 0), h)) rfl ?_
      refine ab_W.callV (mm _) (rc.1) rfl (k := 1) (av := [.ref 1, .int (nI t)]) (c' := (17, [.ref 0, .int x, .int (nI t), .null, .retAddr 0], [], (0, 0), h)) rfl ?_
      refine sp_find _ rc ht' hy ?_
      show ab_W _ _ _ (17, [.ref 0, .int x, .int (nI t), .null, .retAddr 0], [.ref (1 + 2 + 2 * t)], (0, 0), h)
      refine ab_W.go (mm _) 2 (c' := (20, [.ref 0, .int x, .int (nI t), .null, .ref (1 + 2 + 2 * t)], [.null], (0, 0), h)) rfl ?_
      refine ab_W.go (mm _) 1 (c' := (28, [.ref 0, .int x, .int (nI t), .null, .ref (1 + 2 + 2 * t)], [], (0, 0), h)) rfl ?_
      refine ab_W.go (mm _) 1 (c' := (29, [.ref 0, .int x, .int (nI t), .null, .ref (1 + 2 + 2 * t)], [.int (-(nI 1))], (0, 0), h)) rfl ?_
      refine ab_W.retI (mm _) (rt := some .int) (v := -(nI 1)) rfl rfl ?_
      exact hp h hR (fun _ _ => rfl)
  · rw [stN_yes hs hx] at hp
    rcases stamp_or σ.1 y with hy | ⟨t, ht', rfl, hy⟩
    · rw [stN_no hy] at hp
      refine ⟨rfl, ?_⟩
      show ab_W _ _ _ (0, [.ref 0, .int (nI s), .int y, .retAddr 0, .retAddr 0], [], (0, 0), h)
      refine ab_W.go (mm _) 1 (c' := (1, [.ref 0, .int (nI s), .int y, .retAddr 0, .retAddr 0], [.ref 0], (0, 0), h)) rfl ?_
      refine ab_W.o (mm _) (r0) rfl (c' := (4, [.ref 0, .int (nI s), .int y, .retAddr 0, .retAddr 0], [.ref 1], (0, 0), h)) rfl ?_
      refine ab_W.go (mm _) 1 (c' := (5, [.ref 0, .int (nI s), .int y, .retAddr 0, .retAddr 0], [.int (nI s), .ref 1], (0, 0), h)) rfl ?_
      refine ab_W.callV (mm _) (rc.1) rfl (k := 1) (av := [.ref 1, .int (nI s)]) (c' := (8, [.ref 0, .int (nI s), .int y, .retAddr 0, .retAddr 0], [], (0, 0), h)) rfl ?_
      refine sp_find _ rc hs hx ?_
      show ab_W _ _ _ (8, [.ref 0, .int (nI s), .int y, .retAddr 0, .retAddr 0], [.ref (1 + 2 + 2 * s)], (0, 0), h)
      refine ab_W.go (mm _) 2 (c' := (10, [.ref 0, .int (nI s), .int y, .ref (1 + 2 + 2 * s), .retAddr 0], [.ref 0], (0, 0), h)) rfl ?_
      refine ab_W.o (mm _) (r0) rfl (c' := (13, [.ref 0, .int (nI s), .int y, .ref (1 + 2 + 2 * s), .retAddr 0], [.ref 1], (0, 0), h)) rfl ?_
      refine ab_W.go (mm _) 1 (c' := (14, [.ref 0, .int (nI s), .int y, .ref (1 + 2 + 2 * s), .retAddr 0], [.int y, .ref 1], (0, 0), h)) rfl ?_
      refine ab_W.callV (mm _) (rc.1) rfl (k := 1) (av := [.ref 1, .int y]) (c' := (17, [.ref 0, .int (nI s), .int y, .ref (1 + 2 + 2 * s), .retAddr 0], [], (0, 0), h)) rfl ?_
      refine sp_findN _ rc hy ?_
      show ab_W _ _ _ (17, [.ref 0, .int (nI s), .int y, .ref (1 + 2 + 2 * s), .retAddr 0], [.null], (0, 0), h)
      refine ab_W.go (mm _) 2 (c' := (20, [.ref 0, .int (nI s), .int y, .ref (1 + 2 + 2 * s), .null], [.ref (1 + 2 + 2 * s)], (0, 0), h)) rfl ?_
      refine ab_W.go (mm _) 1 (c' := (23, [.ref 0, .int (nI s), .int y, .ref (1 + 2 + 2 * s), .null], [], (0, 0), h)) rfl ?_
      refine ab_W.go (mm _) 1 (c' := (25, [.ref 0, .int (nI s), .int y, .ref (1 + 2 + 2 * s), .null], [.null], (0, 0), h)) rfl ?_
      refine ab_W.go (mm _) 1 (c' := (28, [.ref 0, .int (nI s), .int y, .ref (1 + 2 + 2 * s), .null], [], (0, 0), h)) rfl ?_
      refine ab_W.go (mm _) 1 (c' := (29, [.ref 0, .int (nI s), .int y, .ref (1 + 2 + 2 * s), .null], [.int (-(nI 1))], (0, 0), h)) rfl ?_
      refine ab_W.retI (mm _) (rt := some .int) (v := -(nI 1)) rfl rfl ?_
      exact hp h hR (fun _ _ => rfl)
    · rw [stN_yes ht' hy] at hp
      have e := (rc.2.2 s hs).1
      have e' := (rc.2.2 t ht').1
      refine ⟨rfl, ?_⟩
      show ab_W _ _ _ (0, [.ref 0, .int (nI s), .int (nI t), .retAddr 0, .retAddr 0], [], (0, 0), h)
      refine ab_W.go (mm _) 1 (c' := (1, [.ref 0, .int (nI s), .int (nI t), .retAddr 0, .retAddr 0], [.ref 0], (0, 0), h)) rfl ?_
      refine ab_W.o (mm _) (r0) rfl (c' := (4, [.ref 0, .int (nI s), .int (nI t), .retAddr 0, .retAddr 0], [.ref 1], (0, 0), h)) rfl ?_
      refine ab_W.go (mm _) 1 (c' := (5, [.ref 0, .int (nI s), .int (nI t), .retAddr 0, .retAddr 0], [.int (nI s), .ref 1], (0, 0), h)) rfl ?_
      refine ab_W.callV (mm _) (rc.1) rfl (k := 1) (av := [.ref 1, .int (nI s)]) (c' := (8, [.ref 0, .int (nI s), .int (nI t), .retAddr 0, .retAddr 0], [], (0, 0), h)) rfl ?_
      refine sp_find _ rc hs hx ?_
      show ab_W _ _ _ (8, [.ref 0, .int (nI s), .int (nI t), .retAddr 0, .retAddr 0], [.ref (1 + 2 + 2 * s)], (0, 0), h)
      refine ab_W.go (mm _) 2 (c' := (10, [.ref 0, .int (nI s), .int (nI t), .ref (1 + 2 + 2 * s), .retAddr 0], [.ref 0], (0, 0), h)) rfl ?_
      refine ab_W.o (mm _) (r0) rfl (c' := (13, [.ref 0, .int (nI s), .int (nI t), .ref (1 + 2 + 2 * s), .retAddr 0], [.ref 1], (0, 0), h)) rfl ?_
      refine ab_W.go (mm _) 1 (c' := (14, [.ref 0, .int (nI s), .int (nI t), .ref (1 + 2 + 2 * s), .retAddr 0], [.int (nI t), .ref 1], (0, 0), h)) rfl ?_
      refine ab_W.callV (mm _) (rc.1) rfl (k := 1) (av := [.ref 1, .int (nI t)]) (c' := (17, [.ref 0, .int (nI s), .int (nI t), .ref (1 + 2 + 2 * s), .retAddr 0], [], (0, 0), h)) rfl ?_
      refine sp_find _ rc ht' hy ?_
      show ab_W _ _ _ (17, [.ref 0, .int (nI s), .int (nI t), .ref (1 + 2 + 2 * s), .retAddr 0], [.ref (1 + 2 + 2 * t)], (0, 0), h)
      refine ab_W.go (mm _) 2 (c' := (20, [.ref 0, .int (nI s), .int (nI t), .ref (1 + 2 + 2 * s), .ref (1 + 2 + 2 * t)], [.ref (1 + 2 + 2 * s)], (0, 0), h)) rfl ?_
      refine ab_W.go (mm _) 1 (c' := (23, [.ref 0, .int (nI s), .int (nI t), .ref (1 + 2 + 2 * s), .ref (1 + 2 + 2 * t)], [], (0, 0), h)) rfl ?_
      refine ab_W.go (mm _) 1 (c' := (25, [.ref 0, .int (nI s), .int (nI t), .ref (1 + 2 + 2 * s), .ref (1 + 2 + 2 * t)], [.ref (1 + 2 + 2 * t)], (0, 0), h)) rfl ?_
      refine ab_W.go (mm _) 1 (c' := (30, [.ref 0, .int (nI s), .int (nI t), .ref (1 + 2 + 2 * s), .ref (1 + 2 + 2 * t)], [], (0, 0), h)) rfl ?_
      refine ab_W.go (mm _) 2 (c' := (33, [.ref 0, .int (nI s), .int (nI t), .ref (1 + 2 + 2 * s), .ref (1 + 2 + 2 * t)], [.ref (1 + 2 + 2 * t), .ref (1 + 2 + 2 * s)], (0, 0), h)) rfl ?_
      refine ab_W.callV (mm _) (e) rfl (k := 40) (av := [.ref (1 + 2 + 2 * s), .ref (1 + 2 + 2 * t)]) (c' := (36, [.ref 0, .int (nI s), .int (nI t), .ref (1 + 2 + 2 * s), .ref (1 + 2 + 2 * t)], [], (0, 0), h)) rfl ?_
      refine sp_compare _ (rc.2.2 s hs) (rc.2.2 t ht') ?_
      show ab_W _ _ _ (36, [.ref 0, .int (nI s), .int (nI t), .ref (1 + 2 + 2 * s), .ref (1 + 2 + 2 * t)], [.int (nI (ordN (ht σ.1 s) (ht σ.1 t)))], (0, 0), h)
      refine ab_W.retI (mm _) (rt := some .int) (v := nI (ordN (ht σ.1 s) (ht σ.1 t))) rfl rfl ?_
      exact hp h hR (fun _ _ => rfl)
theorem sp_hear (d : Nat) {h : ab_H} {σ : Sg} {x : Int32} {y : Int32} (hR : relC h σ) {post : ab_P} (hp : okC h post ((hearO σ.1 (stN σ.1 x) (stN σ.1 y)).1) ((hearO σ.1 (stN σ.1 x) (stN σ.1 y)).2, σ.2)) : mCC (d + 3) kSpanStamps_hear [.ref 0, .int x, .int y] h post := by
  have r0 := hR.1
  have rc := hR.2.1
  rcases stamp_or σ.1 x with hx | ⟨s, hs, rfl, hx⟩
  · rw [stN_no hx] at hp
    rcases stamp_or σ.1 y with hy | ⟨t, ht', rfl, hy⟩
    · refine ⟨rfl, ?_⟩
      show ab_W _ _ _ (0, [.ref 0, .int x, .int y, .retAddr 0, .retAddr 0], [], (0, 0), h)
      refine ab_W.go (mm _) 1 (c' := (1, [.ref 0, .int x, .int y, .retAddr 0, .retAddr 0], [.ref 0], (0, 0), h)) rfl ?_
      refine ab_W.o (mm _) (r0) rfl (c' := (4, [.ref 0, .int x, .int y, .retAddr 0, .retAddr 0], [.ref 1], (0, 0), h)) rfl ?_
      refine ab_W.go (mm _) 1 (c' := (5, [.ref 0, .int x, .int y, .retAddr 0, .retAddr 0], [.int x, .ref 1], (0, 0), h)) rfl ?_
      refine ab_W.callV (mm _) (rc.1) rfl (k := 1) (av := [.ref 1, .int x]) (c' := (8, [.ref 0, .int x, .int y, .retAddr 0, .retAddr 0], [], (0, 0), h)) rfl ?_
      refine sp_findN _ rc hx ?_
      show ab_W _ _ _ (8, [.ref 0, .int x, .int y, .retAddr 0, .retAddr 0], [.null], (0, 0), h)
      refine ab_W.go (mm _) 2 (c' := (10, [.ref 0, .int x, .int y, .null, .retAddr 0], [.ref 0], (0, 0), h)) rfl ?_
      refine ab_W.o (mm _) (r0) rfl (c' := (13, [.ref 0, .int x, .int y, .null, .retAddr 0], [.ref 1], (0, 0), h)) rfl ?_
      refine ab_W.go (mm _) 1 (c' := (14, [.ref 0, .int x, .int y, .null, .retAddr 0], [.int y, .ref 1], (0, 0), h)) rfl ?_
      refine ab_W.callV (mm _) (rc.1) rfl (k := 1) (av := [.ref 1, .int y]) (c' := (17, [.ref 0, .int x, .int y, .null, .retAddr 0], [], (0, 0), h)) rfl ?_
      refine sp_findN _ rc hy ?_
      show ab_W _ _ _ (17, [.ref 0, .int x, .int y, .null, .retAddr 0], [.null], (0, 0), h)
      refine ab_W.go (mm _) 2 (c' := (20, [.ref 0, .int x, .int y, .null, .null], [.null], (0, 0), h)) rfl ?_
      refine ab_W.go (mm _) 1 (c' := (28, [.ref 0, .int x, .int y, .null, .null], [], (0, 0), h)) rfl ?_
      refine ab_W.go (mm _) 1 (c' := (29, [.ref 0, .int x, .int y, .null, .null], [.int (-(nI 1))], (0, 0), h)) rfl ?_
      refine ab_W.retI (mm _) (rt := some .int) (v := -(nI 1)) rfl rfl ?_
      exact hp h hR (fun _ _ => rfl)
    · refine ⟨rfl, ?_⟩
      show ab_W _ _ _ (0, [.ref 0, .int x, .int (nI t), .retAddr 0, .retAddr 0], [], (0, 0), h)
      refine ab_W.go (mm _) 1 (c' := (1, [.ref 0, .int x, .int (nI t), .retAddr 0, .retAddr 0], [.ref 0], (0, 0), h)) rfl ?_
      refine ab_W.o (mm _) (r0) rfl (c' := (4, [.ref 0, .int x, .int (nI t), .retAddr 0, .retAddr 0], [.ref 1], (0, 0), h)) rfl ?_
      refine ab_W.go (mm _) 1 (c' := (5, [.ref 0, .int x, .int (nI t), .retAddr 0, .retAddr 0], [.int x, .ref 1], (0, 0), h)) rfl ?_
      refine ab_W.callV (mm _) (rc.1) rfl (k := 1) (av := [.ref 1, .int x]) (c' := (8, [.ref 0, .int x, .int (nI t), .retAddr 0, .retAddr 0], [], (0, 0), h)) rfl ?_
      refine sp_findN _ rc hx ?_
      show ab_W _ _ _ (8, [.ref 0, .int x, .int (nI t), .retAddr 0, .retAddr 0], [.null], (0, 0), h)
      refine ab_W.go (mm _) 2 (c' := (10, [.ref 0, .int x, .int (nI t), .null, .retAddr 0], [.ref 0], (0, 0), h)) rfl ?_
      refine ab_W.o (mm _) (r0) rfl (c' := (13, [.ref 0, .int x, .int (nI t), .null, .retAddr 0], [.ref 1], (0, 0), h)) rfl ?_
      refine ab_W.go (mm _) 1 (c' := (14, [.ref 0, .int x, .int (nI t), .null, .retAddr 0], [.int (nI t), .ref 1], (0, 0), h)) rfl ?_
      refine ab_W.callV (mm _) (rc.1) rfl (k := 1) (av := [.ref 1, .int (nI t)]) (c' := (17, [.ref 0, .int x, .int (nI t), .null, .retAddr 0], [], (0, 0), h)) rfl ?_
      refine sp_find _ rc ht' hy ?_
      show ab_W _ _ _ (17, [.ref 0, .int x, .int (nI t), .null, .retAddr 0], [.ref (1 + 2 + 2 * t)], (0, 0), h)
      refine ab_W.go (mm _) 2 (c' := (20, [.ref 0, .int x, .int (nI t), .null, .ref (1 + 2 + 2 * t)], [.null], (0, 0), h)) rfl ?_
      refine ab_W.go (mm _) 1 (c' := (28, [.ref 0, .int x, .int (nI t), .null, .ref (1 + 2 + 2 * t)], [], (0, 0), h)) rfl ?_
      refine ab_W.go (mm _) 1 (c' := (29, [.ref 0, .int x, .int (nI t), .null, .ref (1 + 2 + 2 * t)], [.int (-(nI 1))], (0, 0), h)) rfl ?_
      refine ab_W.retI (mm _) (rt := some .int) (v := -(nI 1)) rfl rfl ?_
      exact hp h hR (fun _ _ => rfl)
  · rw [stN_yes hs hx] at hp
    rcases stamp_or σ.1 y with hy | ⟨t, ht', rfl, hy⟩
    · rw [stN_no hy] at hp
      refine ⟨rfl, ?_⟩
      show ab_W _ _ _ (0, [.ref 0, .int (nI s), .int y, .retAddr 0, .retAddr 0], [], (0, 0), h)
      refine ab_W.go (mm _) 1 (c' := (1, [.ref 0, .int (nI s), .int y, .retAddr 0, .retAddr 0], [.ref 0], (0, 0), h)) rfl ?_
      refine ab_W.o (mm _) (r0) rfl (c' := (4, [.ref 0, .int (nI s), .int y, .retAddr 0, .retAddr 0], [.ref 1], (0, 0), h)) rfl ?_
      refine ab_W.go (mm _) 1 (c' := (5, [.ref 0, .int (nI s), .int y, .retAddr 0, .retAddr 0], [.int (nI s), .ref 1], (0, 0), h)) rfl ?_
      refine ab_W.callV (mm _) (rc.1) rfl (k := 1) (av := [.ref 1, .int (nI s)]) (c' := (8, [.ref 0, .int (nI s), .int y, .retAddr 0, .retAddr 0], [], (0, 0), h)) rfl ?_
      refine sp_find _ rc hs hx ?_
      show ab_W _ _ _ (8, [.ref 0, .int (nI s), .int y, .retAddr 0, .retAddr 0], [.ref (1 + 2 + 2 * s)], (0, 0), h)
      refine ab_W.go (mm _) 2 (c' := (10, [.ref 0, .int (nI s), .int y, .ref (1 + 2 + 2 * s), .retAddr 0], [.ref 0], (0, 0), h)) rfl ?_
      refine ab_W.o (mm _) (r0) rfl (c' := (13, [.ref 0, .int (nI s), .int y, .ref (1 + 2 + 2 * s), .retAddr 0], [.ref 1], (0, 0), h)) rfl ?_
      refine ab_W.go (mm _) 1 (c' := (14, [.ref 0, .int (nI s), .int y, .ref (1 + 2 + 2 * s), .retAddr 0], [.int y, .ref 1], (0, 0), h)) rfl ?_
      refine ab_W.callV (mm _) (rc.1) rfl (k := 1) (av := [.ref 1, .int y]) (c' := (17, [.ref 0, .int (nI s), .int y, .ref (1 + 2 + 2 * s), .retAddr 0], [], (0, 0), h)) rfl ?_
      refine sp_findN _ rc hy ?_
      show ab_W _ _ _ (17, [.ref 0, .int (nI s), .int y, .ref (1 + 2 + 2 * s), .retAddr 0], [.null], (0, 0), h)
      refine ab_W.go (mm _) 2 (c' := (20, [.ref 0, .int (nI s), .int y, .ref (1 + 2 + 2 * s), .null], [.ref (1 + 2 + 2 * s)], (0, 0), h)) rfl ?_
      refine ab_W.go (mm _) 1 (c' := (23, [.ref 0, .int (nI s), .int y, .ref (1 + 2 + 2 * s), .null], [], (0, 0), h)) rfl ?_
      refine ab_W.go (mm _) 1 (c' := (25, [.ref 0, .int (nI s), .int y, .ref (1 + 2 + 2 * s), .null], [.null], (0, 0), h)) rfl ?_
      refine ab_W.go (mm _) 1 (c' := (28, [.ref 0, .int (nI s), .int y, .ref (1 + 2 + 2 * s), .null], [], (0, 0), h)) rfl ?_
      refine ab_W.go (mm _) 1 (c' := (29, [.ref 0, .int (nI s), .int y, .ref (1 + 2 + 2 * s), .null], [.int (-(nI 1))], (0, 0), h)) rfl ?_
      refine ab_W.retI (mm _) (rt := some .int) (v := -(nI 1)) rfl rfl ?_
      exact hp h hR (fun _ _ => rfl)
    · rw [stN_yes ht' hy] at hp
      have e := (rc.2.2 s hs).1
      have e' := (rc.2.2 t ht').1
      refine ⟨rfl, ?_⟩
      show ab_W _ _ _ (0, [.ref 0, .int (nI s), .int (nI t), .retAddr 0, .retAddr 0], [], (0, 0), h)
      refine ab_W.go (mm _) 1 (c' := (1, [.ref 0, .int (nI s), .int (nI t), .retAddr 0, .retAddr 0], [.ref 0], (0, 0), h)) rfl ?_
      refine ab_W.o (mm _) (r0) rfl (c' := (4, [.ref 0, .int (nI s), .int (nI t), .retAddr 0, .retAddr 0], [.ref 1], (0, 0), h)) rfl ?_
      refine ab_W.go (mm _) 1 (c' := (5, [.ref 0, .int (nI s), .int (nI t), .retAddr 0, .retAddr 0], [.int (nI s), .ref 1], (0, 0), h)) rfl ?_
      refine ab_W.callV (mm _) (rc.1) rfl (k := 1) (av := [.ref 1, .int (nI s)]) (c' := (8, [.ref 0, .int (nI s), .int (nI t), .retAddr 0, .retAddr 0], [], (0, 0), h)) rfl ?_
      refine sp_find _ rc hs hx ?_
      show ab_W _ _ _ (8, [.ref 0, .int (nI s), .int (nI t), .retAddr 0, .retAddr 0], [.ref (1 + 2 + 2 * s)], (0, 0), h)
      refine ab_W.go (mm _) 2 (c' := (10, [.ref 0, .int (nI s), .int (nI t), .ref (1 + 2 + 2 * s), .retAddr 0], [.ref 0], (0, 0), h)) rfl ?_
      refine ab_W.o (mm _) (r0) rfl (c' := (13, [.ref 0, .int (nI s), .int (nI t), .ref (1 + 2 + 2 * s), .retAddr 0], [.ref 1], (0, 0), h)) rfl ?_
      refine ab_W.go (mm _) 1 (c' := (14, [.ref 0, .int (nI s), .int (nI t), .ref (1 + 2 + 2 * s), .retAddr 0], [.int (nI t), .ref 1], (0, 0), h)) rfl ?_
      refine ab_W.callV (mm _) (rc.1) rfl (k := 1) (av := [.ref 1, .int (nI t)]) (c' := (17, [.ref 0, .int (nI s), .int (nI t), .ref (1 + 2 + 2 * s), .retAddr 0], [], (0, 0), h)) rfl ?_
      refine sp_find _ rc ht' hy ?_
      show ab_W _ _ _ (17, [.ref 0, .int (nI s), .int (nI t), .ref (1 + 2 + 2 * s), .retAddr 0], [.ref (1 + 2 + 2 * t)], (0, 0), h)
      refine ab_W.go (mm _) 2 (c' := (20, [.ref 0, .int (nI s), .int (nI t), .ref (1 + 2 + 2 * s), .ref (1 + 2 + 2 * t)], [.ref (1 + 2 + 2 * s)], (0, 0), h)) rfl ?_
      refine ab_W.go (mm _) 1 (c' := (23, [.ref 0, .int (nI s), .int (nI t), .ref (1 + 2 + 2 * s), .ref (1 + 2 + 2 * t)], [], (0, 0), h)) rfl ?_
      refine ab_W.go (mm _) 1 (c' := (25, [.ref 0, .int (nI s), .int (nI t), .ref (1 + 2 + 2 * s), .ref (1 + 2 + 2 * t)], [.ref (1 + 2 + 2 * t)], (0, 0), h)) rfl ?_
      refine ab_W.go (mm _) 1 (c' := (30, [.ref 0, .int (nI s), .int (nI t), .ref (1 + 2 + 2 * s), .ref (1 + 2 + 2 * t)], [], (0, 0), h)) rfl ?_
      refine ab_W.go (mm _) 2 (c' := (32, [.ref 0, .int (nI s), .int (nI t), .ref (1 + 2 + 2 * s), .ref (1 + 2 + 2 * t)], [.int (nI t), .int (nI s)], (0, 0), h)) rfl ?_
      refine ab_W.ite (mm _) (p := (nI s) = (nI t)) (c1 := (35, [.ref 0, .int (nI s), .int (nI t), .ref (1 + 2 + 2 * s), .ref (1 + 2 + 2 * t)], [], (0, 0), h)) (c2 := (38, [.ref 0, .int (nI s), .int (nI t), .ref (1 + 2 + 2 * s), .ref (1 + 2 + 2 * t)], [], (0, 0), h)) rfl (fun q => ?_) (fun q => ?_)
      · skip
        have q := (nI_eq (by omega) (by omega)).mp q
        rw [show hearO σ.1 (some s) (some t) = _ from ci_t q] at hp
        refine ab_W.go (mm _) 1 (c' := (37, [.ref 0, .int (nI s), .int (nI t), .ref (1 + 2 + 2 * s), .ref (1 + 2 + 2 * t)], [.int (-(nI 2))], (0, 0), h)) rfl ?_
        refine ab_W.retI (mm _) (rt := some .int) (v := -(nI 2)) rfl rfl ?_
        exact hp h hR (fun _ _ => rfl)
      · skip
        have q : ¬ s = t := fun z => q (by rw [z])
        rw [show hearO σ.1 (some s) (some t) = _ from ci_f q] at hp
        refine ab_W.go (mm _) 2 (c' := (41, [.ref 0, .int (nI s), .int (nI t), .ref (1 + 2 + 2 * s), .ref (1 + 2 + 2 * t)], [.ref (1 + 2 + 2 * t), .ref (1 + 2 + 2 * s)], (0, 0), h)) rfl ?_
        refine ab_W.callV (mm _) (e) rfl (k := 39) (av := [.ref (1 + 2 + 2 * s), .ref (1 + 2 + 2 * t)]) (c' := (44, [.ref 0, .int (nI s), .int (nI t), .ref (1 + 2 + 2 * s), .ref (1 + 2 + 2 * t)], [], (0, 0), h)) rfl ?_
        refine sp_learn _ (rc.2.2 s hs) (rc.2.2 t ht') (by omega) (by omega) (by omega) (fun h1 f1 k1 => ?_)
        have c1 : cir h1 1 (setS σ.1 s (pr σ.1 s) (nm σ.1 s) (kn σ.1 s ||| kn σ.1 t) (mxH (ht σ.1 s) (ht σ.1 t))) := rc.set hs f1 k1
        rw [hx] at c1
        show ab_W _ _ _ (44, [.ref 0, .int (nI s), .int (nI t), .ref (1 + 2 + 2 * s), .ref (1 + 2 + 2 * t)], [.int (nI (cn (fun c => ht σ.1 s c < ht σ.1 t c) 64))], (0, 0), h1)
        refine ab_W.retI (mm _) (rt := some .int) (v := nI (cn (fun c => ht σ.1 s c < ht σ.1 t c) 64)) rfl rfl ?_
        exact hp _ (hR.cur c1 (fun i hi => k1 i (by omega) (by omega))) (fun i hi => k1 i (by omega) (by omega))
theorem sp_join (d : Nat) {h : ab_H} {σ : Sg} {x : Int32} {y : Int32} (hR : relC h σ) {post : ab_P} (hp : okC h post ((joinO σ.1 (stN σ.1 x) (stN σ.1 y)).1) ((joinO σ.1 (stN σ.1 x) (stN σ.1 y)).2, σ.2)) : mCC (d + 6) kSpanStamps_join [.ref 0, .int x, .int y] h post := by
  have r0 := hR.1
  have rc := hR.2.1
  rcases stamp_or σ.1 x with hx | ⟨s, hs, rfl, hx⟩
  · rw [stN_no hx] at hp
    rcases stamp_or σ.1 y with hy | ⟨t, ht', rfl, hy⟩
    · refine ⟨rfl, ?_⟩
      show ab_W _ _ _ (0, [.ref 0, .int x, .int y, .retAddr 0, .retAddr 0], [], (0, 0), h)
      refine ab_W.go (mm _) 1 (c' := (1, [.ref 0, .int x, .int y, .retAddr 0, .retAddr 0], [.ref 0], (0, 0), h)) rfl ?_
      refine ab_W.o (mm _) (r0) rfl (c' := (4, [.ref 0, .int x, .int y, .retAddr 0, .retAddr 0], [.ref 1], (0, 0), h)) rfl ?_
      refine ab_W.go (mm _) 1 (c' := (5, [.ref 0, .int x, .int y, .retAddr 0, .retAddr 0], [.int x, .ref 1], (0, 0), h)) rfl ?_
      refine ab_W.callV (mm _) (rc.1) rfl (k := 1) (av := [.ref 1, .int x]) (c' := (8, [.ref 0, .int x, .int y, .retAddr 0, .retAddr 0], [], (0, 0), h)) rfl ?_
      refine sp_findN _ rc hx ?_
      show ab_W _ _ _ (8, [.ref 0, .int x, .int y, .retAddr 0, .retAddr 0], [.null], (0, 0), h)
      refine ab_W.go (mm _) 2 (c' := (10, [.ref 0, .int x, .int y, .null, .retAddr 0], [.ref 0], (0, 0), h)) rfl ?_
      refine ab_W.o (mm _) (r0) rfl (c' := (13, [.ref 0, .int x, .int y, .null, .retAddr 0], [.ref 1], (0, 0), h)) rfl ?_
      refine ab_W.go (mm _) 1 (c' := (14, [.ref 0, .int x, .int y, .null, .retAddr 0], [.int y, .ref 1], (0, 0), h)) rfl ?_
      refine ab_W.callV (mm _) (rc.1) rfl (k := 1) (av := [.ref 1, .int y]) (c' := (17, [.ref 0, .int x, .int y, .null, .retAddr 0], [], (0, 0), h)) rfl ?_
      refine sp_findN _ rc hy ?_
      show ab_W _ _ _ (17, [.ref 0, .int x, .int y, .null, .retAddr 0], [.null], (0, 0), h)
      refine ab_W.go (mm _) 2 (c' := (20, [.ref 0, .int x, .int y, .null, .null], [.null], (0, 0), h)) rfl ?_
      refine ab_W.go (mm _) 1 (c' := (28, [.ref 0, .int x, .int y, .null, .null], [], (0, 0), h)) rfl ?_
      refine ab_W.go (mm _) 1 (c' := (29, [.ref 0, .int x, .int y, .null, .null], [.int (-(nI 1))], (0, 0), h)) rfl ?_
      refine ab_W.retI (mm _) (rt := some .int) (v := -(nI 1)) rfl rfl ?_
      exact hp h hR (fun _ _ => rfl)
    · refine ⟨rfl, ?_⟩
      show ab_W _ _ _ (0, [.ref 0, .int x, .int (nI t), .retAddr 0, .retAddr 0], [], (0, 0), h)
      refine ab_W.go (mm _) 1 (c' := (1, [.ref 0, .int x, .int (nI t), .retAddr 0, .retAddr 0], [.ref 0], (0, 0), h)) rfl ?_
      refine ab_W.o (mm _) (r0) rfl (c' := (4, [.ref 0, .int x, .int (nI t), .retAddr 0, .retAddr 0], [.ref 1], (0, 0), h)) rfl ?_
      refine ab_W.go (mm _) 1 (c' := (5, [.ref 0, .int x, .int (nI t), .retAddr 0, .retAddr 0], [.int x, .ref 1], (0, 0), h)) rfl ?_
      refine ab_W.callV (mm _) (rc.1) rfl (k := 1) (av := [.ref 1, .int x]) (c' := (8, [.ref 0, .int x, .int (nI t), .retAddr 0, .retAddr 0], [], (0, 0), h)) rfl ?_
      refine sp_findN _ rc hx ?_
      show ab_W _ _ _ (8, [.ref 0, .int x, .int (nI t), .retAddr 0, .retAddr 0], [.null], (0, 0), h)
      refine ab_W.go (mm _) 2 (c' := (10, [.ref 0, .int x, .int (nI t), .null, .retAddr 0], [.ref 0], (0, 0), h)) rfl ?_
      refine ab_W.o (mm _) (r0) rfl (c' := (13, [.ref 0, .int x, .int (nI t), .null, .retAddr 0], [.ref 1], (0, 0), h)) rfl ?_
      refine ab_W.go (mm _) 1 (c' := (14, [.ref 0, .int x, .int (nI t), .null, .retAddr 0], [.int (nI t), .ref 1], (0, 0), h)) rfl ?_
      refine ab_W.callV (mm _) (rc.1) rfl (k := 1) (av := [.ref 1, .int (nI t)]) (c' := (17, [.ref 0, .int x, .int (nI t), .null, .retAddr 0], [], (0, 0), h)) rfl ?_
      refine sp_find _ rc ht' hy ?_
      show ab_W _ _ _ (17, [.ref 0, .int x, .int (nI t), .null, .retAddr 0], [.ref (1 + 2 + 2 * t)], (0, 0), h)
      refine ab_W.go (mm _) 2 (c' := (20, [.ref 0, .int x, .int (nI t), .null, .ref (1 + 2 + 2 * t)], [.null], (0, 0), h)) rfl ?_
      refine ab_W.go (mm _) 1 (c' := (28, [.ref 0, .int x, .int (nI t), .null, .ref (1 + 2 + 2 * t)], [], (0, 0), h)) rfl ?_
      refine ab_W.go (mm _) 1 (c' := (29, [.ref 0, .int x, .int (nI t), .null, .ref (1 + 2 + 2 * t)], [.int (-(nI 1))], (0, 0), h)) rfl ?_
      refine ab_W.retI (mm _) (rt := some .int) (v := -(nI 1)) rfl rfl ?_
      exact hp h hR (fun _ _ => rfl)
  · rw [stN_yes hs hx] at hp
    rcases stamp_or σ.1 y with hy | ⟨t, ht', rfl, hy⟩
    · rw [stN_no hy] at hp
      refine ⟨rfl, ?_⟩
      show ab_W _ _ _ (0, [.ref 0, .int (nI s), .int y, .retAddr 0, .retAddr 0], [], (0, 0), h)
      refine ab_W.go (mm _) 1 (c' := (1, [.ref 0, .int (nI s), .int y, .retAddr 0, .retAddr 0], [.ref 0], (0, 0), h)) rfl ?_
      refine ab_W.o (mm _) (r0) rfl (c' := (4, [.ref 0, .int (nI s), .int y, .retAddr 0, .retAddr 0], [.ref 1], (0, 0), h)) rfl ?_
      refine ab_W.go (mm _) 1 (c' := (5, [.ref 0, .int (nI s), .int y, .retAddr 0, .retAddr 0], [.int (nI s), .ref 1], (0, 0), h)) rfl ?_
      refine ab_W.callV (mm _) (rc.1) rfl (k := 1) (av := [.ref 1, .int (nI s)]) (c' := (8, [.ref 0, .int (nI s), .int y, .retAddr 0, .retAddr 0], [], (0, 0), h)) rfl ?_
      refine sp_find _ rc hs hx ?_
      show ab_W _ _ _ (8, [.ref 0, .int (nI s), .int y, .retAddr 0, .retAddr 0], [.ref (1 + 2 + 2 * s)], (0, 0), h)
      refine ab_W.go (mm _) 2 (c' := (10, [.ref 0, .int (nI s), .int y, .ref (1 + 2 + 2 * s), .retAddr 0], [.ref 0], (0, 0), h)) rfl ?_
      refine ab_W.o (mm _) (r0) rfl (c' := (13, [.ref 0, .int (nI s), .int y, .ref (1 + 2 + 2 * s), .retAddr 0], [.ref 1], (0, 0), h)) rfl ?_
      refine ab_W.go (mm _) 1 (c' := (14, [.ref 0, .int (nI s), .int y, .ref (1 + 2 + 2 * s), .retAddr 0], [.int y, .ref 1], (0, 0), h)) rfl ?_
      refine ab_W.callV (mm _) (rc.1) rfl (k := 1) (av := [.ref 1, .int y]) (c' := (17, [.ref 0, .int (nI s), .int y, .ref (1 + 2 + 2 * s), .retAddr 0], [], (0, 0), h)) rfl ?_
      refine sp_findN _ rc hy ?_
      show ab_W _ _ _ (17, [.ref 0, .int (nI s), .int y, .ref (1 + 2 + 2 * s), .retAddr 0], [.null], (0, 0), h)
      refine ab_W.go (mm _) 2 (c' := (20, [.ref 0, .int (nI s), .int y, .ref (1 + 2 + 2 * s), .null], [.ref (1 + 2 + 2 * s)], (0, 0), h)) rfl ?_
      refine ab_W.go (mm _) 1 (c' := (23, [.ref 0, .int (nI s), .int y, .ref (1 + 2 + 2 * s), .null], [], (0, 0), h)) rfl ?_
      refine ab_W.go (mm _) 1 (c' := (25, [.ref 0, .int (nI s), .int y, .ref (1 + 2 + 2 * s), .null], [.null], (0, 0), h)) rfl ?_
      refine ab_W.go (mm _) 1 (c' := (28, [.ref 0, .int (nI s), .int y, .ref (1 + 2 + 2 * s), .null], [], (0, 0), h)) rfl ?_
      refine ab_W.go (mm _) 1 (c' := (29, [.ref 0, .int (nI s), .int y, .ref (1 + 2 + 2 * s), .null], [.int (-(nI 1))], (0, 0), h)) rfl ?_
      refine ab_W.retI (mm _) (rt := some .int) (v := -(nI 1)) rfl rfl ?_
      exact hp h hR (fun _ _ => rfl)
    · rw [stN_yes ht' hy] at hp
      have e := (rc.2.2 s hs).1
      have e' := (rc.2.2 t ht').1
      refine ⟨rfl, ?_⟩
      show ab_W _ _ _ (0, [.ref 0, .int (nI s), .int (nI t), .retAddr 0, .retAddr 0], [], (0, 0), h)
      refine ab_W.go (mm _) 1 (c' := (1, [.ref 0, .int (nI s), .int (nI t), .retAddr 0, .retAddr 0], [.ref 0], (0, 0), h)) rfl ?_
      refine ab_W.o (mm _) (r0) rfl (c' := (4, [.ref 0, .int (nI s), .int (nI t), .retAddr 0, .retAddr 0], [.ref 1], (0, 0), h)) rfl ?_
      refine ab_W.go (mm _) 1 (c' := (5, [.ref 0, .int (nI s), .int (nI t), .retAddr 0, .retAddr 0], [.int (nI s), .ref 1], (0, 0), h)) rfl ?_
      refine ab_W.callV (mm _) (rc.1) rfl (k := 1) (av := [.ref 1, .int (nI s)]) (c' := (8, [.ref 0, .int (nI s), .int (nI t), .retAddr 0, .retAddr 0], [], (0, 0), h)) rfl ?_
      refine sp_find _ rc hs hx ?_
      show ab_W _ _ _ (8, [.ref 0, .int (nI s), .int (nI t), .retAddr 0, .retAddr 0], [.ref (1 + 2 + 2 * s)], (0, 0), h)
      refine ab_W.go (mm _) 2 (c' := (10, [.ref 0, .int (nI s), .int (nI t), .ref (1 + 2 + 2 * s), .retAddr 0], [.ref 0], (0, 0), h)) rfl ?_
      refine ab_W.o (mm _) (r0) rfl (c' := (13, [.ref 0, .int (nI s), .int (nI t), .ref (1 + 2 + 2 * s), .retAddr 0], [.ref 1], (0, 0), h)) rfl ?_
      refine ab_W.go (mm _) 1 (c' := (14, [.ref 0, .int (nI s), .int (nI t), .ref (1 + 2 + 2 * s), .retAddr 0], [.int (nI t), .ref 1], (0, 0), h)) rfl ?_
      refine ab_W.callV (mm _) (rc.1) rfl (k := 1) (av := [.ref 1, .int (nI t)]) (c' := (17, [.ref 0, .int (nI s), .int (nI t), .ref (1 + 2 + 2 * s), .retAddr 0], [], (0, 0), h)) rfl ?_
      refine sp_find _ rc ht' hy ?_
      show ab_W _ _ _ (17, [.ref 0, .int (nI s), .int (nI t), .ref (1 + 2 + 2 * s), .retAddr 0], [.ref (1 + 2 + 2 * t)], (0, 0), h)
      refine ab_W.go (mm _) 2 (c' := (20, [.ref 0, .int (nI s), .int (nI t), .ref (1 + 2 + 2 * s), .ref (1 + 2 + 2 * t)], [.ref (1 + 2 + 2 * s)], (0, 0), h)) rfl ?_
      refine ab_W.go (mm _) 1 (c' := (23, [.ref 0, .int (nI s), .int (nI t), .ref (1 + 2 + 2 * s), .ref (1 + 2 + 2 * t)], [], (0, 0), h)) rfl ?_
      refine ab_W.go (mm _) 1 (c' := (25, [.ref 0, .int (nI s), .int (nI t), .ref (1 + 2 + 2 * s), .ref (1 + 2 + 2 * t)], [.ref (1 + 2 + 2 * t)], (0, 0), h)) rfl ?_
      refine ab_W.go (mm _) 1 (c' := (30, [.ref 0, .int (nI s), .int (nI t), .ref (1 + 2 + 2 * s), .ref (1 + 2 + 2 * t)], [], (0, 0), h)) rfl ?_
      refine ab_W.go (mm _) 2 (c' := (32, [.ref 0, .int (nI s), .int (nI t), .ref (1 + 2 + 2 * s), .ref (1 + 2 + 2 * t)], [.int (nI t), .int (nI s)], (0, 0), h)) rfl ?_
      refine ab_W.ite (mm _) (p := (nI s) = (nI t)) (c1 := (35, [.ref 0, .int (nI s), .int (nI t), .ref (1 + 2 + 2 * s), .ref (1 + 2 + 2 * t)], [], (0, 0), h)) (c2 := (38, [.ref 0, .int (nI s), .int (nI t), .ref (1 + 2 + 2 * s), .ref (1 + 2 + 2 * t)], [], (0, 0), h)) rfl (fun q => ?_) (fun q => ?_)
      · skip
        have q := (nI_eq (by omega) (by omega)).mp q
        rw [show joinO σ.1 (some s) (some t) = _ from ci_t q] at hp
        refine ab_W.go (mm _) 1 (c' := (37, [.ref 0, .int (nI s), .int (nI t), .ref (1 + 2 + 2 * s), .ref (1 + 2 + 2 * t)], [.int (-(nI 2))], (0, 0), h)) rfl ?_
        refine ab_W.retI (mm _) (rt := some .int) (v := -(nI 2)) rfl rfl ?_
        exact hp h hR (fun _ _ => rfl)
      · skip
        have q : ¬ s = t := fun z => q (by rw [z])
        rw [show joinO σ.1 (some s) (some t) = _ from ci_f q] at hp
        refine ab_W.go (mm _) 2 (c' := (41, [.ref 0, .int (nI s), .int (nI t), .ref (1 + 2 + 2 * s), .ref (1 + 2 + 2 * t)], [.ref (1 + 2 + 2 * t), .ref (1 + 2 + 2 * s)], (0, 0), h)) rfl ?_
        refine ab_W.callV (mm _) (e) rfl (k := 39) (av := [.ref (1 + 2 + 2 * s), .ref (1 + 2 + 2 * t)]) (c' := (44, [.ref 0, .int (nI s), .int (nI t), .ref (1 + 2 + 2 * s), .ref (1 + 2 + 2 * t)], [], (0, 0), h)) rfl ?_
        refine sp_learn _ (rc.2.2 s hs) (rc.2.2 t ht') (by omega) (by omega) (by omega) (fun h1 f1 k1 => ?_)
        have c1 : cir h1 1 (setS σ.1 s (pr σ.1 s) (nm σ.1 s) (kn σ.1 s ||| kn σ.1 t) (mxH (ht σ.1 s) (ht σ.1 t))) := rc.set hs f1 k1
        have d2 : st_P h1 (1 + 2 + 2 * t) (pr σ.1 t) (nm σ.1 t) (kn σ.1 t) (ht σ.1 t) := (rc.2.2 t ht').kept (k1 _ (by omega) (by omega)) (k1 _ (by omega) (by omega))
        rw [hx] at f1
        obtain ⟨f1, g, f2, f3⟩ := f1
        show ab_W _ _ _ (44, [.ref 0, .int (nI s), .int (nI t), .ref (1 + 2 + 2 * s), .ref (1 + 2 + 2 * t)], [.int (nI (cn (fun c => ht σ.1 s c < ht σ.1 t c) 64))], (0, 0), h1)
        refine ab_W.go (mm _) 3 (c' := (47, [.ref 0, .int (nI s), .int (nI t), .ref (1 + 2 + 2 * s), .ref (1 + 2 + 2 * t)], [.ref (1 + 2 + 2 * s), .ref (1 + 2 + 2 * s)], (0, 0), h1)) rfl ?_
        refine ab_W.o (mm _) (f1) rfl (c' := (50, [.ref 0, .int (nI s), .int (nI t), .ref (1 + 2 + 2 * s), .ref (1 + 2 + 2 * t)], [.long (nm σ.1 s), .ref (1 + 2 + 2 * s)], (0, 0), h1)) rfl ?_
        refine ab_W.go (mm _) 1 (c' := (52, [.ref 0, .int (nI s), .int (nI t), .ref (1 + 2 + 2 * s), .ref (1 + 2 + 2 * t)], [.ref (1 + 2 + 2 * t), .long (nm σ.1 s), .ref (1 + 2 + 2 * s)], (0, 0), h1)) rfl ?_
        refine ab_W.o (mm _) (d2.1) rfl (c' := (55, [.ref 0, .int (nI s), .int (nI t), .ref (1 + 2 + 2 * s), .ref (1 + 2 + 2 * t)], [.long (nm σ.1 t), .long (nm σ.1 s), .ref (1 + 2 + 2 * s)], (0, 0), h1)) rfl ?_
        refine ab_W.go (mm _) 1 (c' := (56, [.ref 0, .int (nI s), .int (nI t), .ref (1 + 2 + 2 * s), .ref (1 + 2 + 2 * t)], [.long ((nm σ.1 s) ||| (nm σ.1 t)), .ref (1 + 2 + 2 * s)], (0, 0), h1)) rfl ?_
        refine ab_W.o (mm _) (f1) rfl (c' := (59, [.ref 0, .int (nI s), .int (nI t), .ref (1 + 2 + 2 * s), .ref (1 + 2 + 2 * t)], [], (0, 0), h1.set (1 + 2 + 2 * s) (.inr (3, [.int (b2i true), .long (nm σ.1 s ||| nm σ.1 t), .long (kn σ.1 s ||| kn σ.1 t), .ref (1 + 2 + 2 * s + 1)])))) rfl ?_
        obtain ⟨h2, e2⟩ : ∃ h2, h2 = h1.set (1 + 2 + 2 * s) (.inr (3, [.int (b2i true), .long (nm σ.1 s ||| nm σ.1 t), .long (kn σ.1 s ||| kn σ.1 t), .ref (1 + 2 + 2 * s + 1)])) := ⟨_, rfl⟩
        refine ab_W.hp (e2.symm) ?_
        show ab_W _ _ _ (59, [.ref 0, .int (nI s), .int (nI t), .ref (1 + 2 + 2 * s), .ref (1 + 2 + 2 * t)], [], (0, 0), h2)
        have k2 : ∀ i, i ≠ 1 + 2 + 2 * s → h2[i]? = h1[i]? := fun i hi => by rw [e2]; exact set_ne (fun z => hi z.symm)
        have c2 : cir h2 1 (setS σ.1 s true (nm σ.1 s ||| nm σ.1 t) (kn σ.1 s ||| kn σ.1 t) (mxH (ht σ.1 s) (ht σ.1 t))) := rc.set hs ⟨by rw [e2]; exact set_at f1, g, (k2 _ (by omega)).trans f2, f3⟩ (fun i i1 i2 => (k2 i i1).trans (k1 i i1 i2))
        obtain ⟨d1, g2, d2, d3⟩ : st_P h2 (1 + 2 + 2 * t) (pr σ.1 t) (nm σ.1 t) (kn σ.1 t) (ht σ.1 t) := d2.kept (k2 _ (by omega)) (k2 _ (by omega))
        refine ab_W.go (mm _) 2 (c' := (62, [.ref 0, .int (nI s), .int (nI t), .ref (1 + 2 + 2 * s), .ref (1 + 2 + 2 * t)], [.int (nI 0), .ref (1 + 2 + 2 * t)], (0, 0), h2)) rfl ?_
        refine ab_W.o (mm _) (d1) rfl (c' := (65, [.ref 0, .int (nI s), .int (nI t), .ref (1 + 2 + 2 * s), .ref (1 + 2 + 2 * t)], [], (0, 0), h2.set (1 + 2 + 2 * t) (.inr (3, [.int (b2i false), .long (nm σ.1 t), .long (kn σ.1 t), .ref (1 + 2 + 2 * t + 1)])))) rfl ?_
        obtain ⟨h3, e3⟩ : ∃ h3, h3 = h2.set (1 + 2 + 2 * t) (.inr (3, [.int (b2i false), .long (nm σ.1 t), .long (kn σ.1 t), .ref (1 + 2 + 2 * t + 1)])) := ⟨_, rfl⟩
        refine ab_W.hp (e3.symm) ?_
        show ab_W _ _ _ (65, [.ref 0, .int (nI s), .int (nI t), .ref (1 + 2 + 2 * s), .ref (1 + 2 + 2 * t)], [], (0, 0), h3)
        have k3 : ∀ i, i ≠ 1 + 2 + 2 * t → h3[i]? = h2[i]? := fun i hi => by rw [e3]; exact set_ne (fun z => hi z.symm)
        have c3 : cir h3 1 (joinC σ.1 s t) := c2.set ht' ⟨by rw [e3]; exact set_at d1, g2, (k3 _ (by omega)).trans d2, d3⟩ (fun i i1 i2 => k3 i i1)
        have k4 : ∀ i, i < 1 ∨ 27 ≤ i → h3[i]? = h[i]? := fun i hi => (k3 i (by omega)).trans ((k2 i (by omega)).trans (k1 i (by omega) (by omega)))
        refine ab_W.go (mm _) 1 (c' := (66, [.ref 0, .int (nI s), .int (nI t), .ref (1 + 2 + 2 * s), .ref (1 + 2 + 2 * t)], [.ref 0], (0, 0), h3)) rfl ?_
        refine ab_W.o (mm _) ((k4 0 (by omega)).trans r0) rfl (c' := (69, [.ref 0, .int (nI s), .int (nI t), .ref (1 + 2 + 2 * s), .ref (1 + 2 + 2 * t)], [.ref 1], (0, 0), h3)) rfl ?_
        refine ab_W.callV (mm _) (c3.1) rfl (k := 4) (av := [.ref 1]) (c' := (72, [.ref 0, .int (nI s), .int (nI t), .ref (1 + 2 + 2 * s), .ref (1 + 2 + 2 * t)], [], (0, 0), h3)) rfl ?_
        refine sp_howMany _ c3 ?_
        show ab_W _ _ _ (72, [.ref 0, .int (nI s), .int (nI t), .ref (1 + 2 + 2 * s), .ref (1 + 2 + 2 * t)], [.int (nI (cb (pr (joinC σ.1 s t)) 12))], (0, 0), h3)
        refine ab_W.retI (mm _) (rt := some .int) (v := nI (cb (pr (joinC σ.1 s t)) 12)) rfl rfl ?_
        exact hp _ (hR.cur c3 k4) (fun i hi => k4 i (by omega))
