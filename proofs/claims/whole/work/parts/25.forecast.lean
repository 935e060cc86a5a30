/-! the class's forecast -/
def hF (h : ab_H) (o oh : Nat) (x1 x2 x3 x4 x5 : Int32) : ab_H := h.set o (.inr (1, [.ref oh, .int x1, .int x2, .int x3, .int x4, .int x5]))
theorem hF_at {h : ab_H} {o oh : Nat} {x1 x2 x3 x4 x5 : Int32} (ho : o < h.length) : (hF h o oh x1 x2 x3 x4 x5)[o]? = some (.inr (1, [.ref oh, .int x1, .int x2, .int x3, .int x4, .int x5])) := List.getElem?_set_self ho
theorem hF_ne {h : ab_H} {o oh b : Nat} {x1 x2 x3 x4 x5 : Int32} (hb : o ≠ b) : (hF h o oh x1 x2 x3 x4 x5)[b]? = h[b]? := List.getElem?_set_ne hb
theorem hF_hF {h : ab_H} {o oh : Nat} {x1 x2 x3 x4 x5 y1 y2 y3 y4 y5 : Int32} : (hF h o oh x1 x2 x3 x4 x5).set o (.inr (1, [.ref oh, .int y1, .int y2, .int y3, .int y4, .int y5])) = hF h o oh y1 y2 y3 y4 y5 := List.set_set _
theorem hF_len {h : ab_H} {o oh : Nat} {x1 x2 x3 x4 x5 : Int32} : (hF h o oh x1 x2 x3 x4 x5).length = h.length := List.length_set
theorem hF_self {h : ab_H} {o oh : Nat} {x1 x2 x3 x4 x5 : Int32} (ho : h[o]? = some (.inr (1, [.ref oh, .int x1, .int x2, .int x3, .int x4, .int x5]))) : hF h o oh x1 x2 x3 x4 x5 = h := by
  apply List.ext_getElem?
  intro j
  by_cases hj : o = j
  · subst hj
    rw [hF_at (hA_lt ho), ho]
  · rw [hF_ne hj]
theorem hF_hA {h : ab_H} {o oh : Nat} {x1 x2 x3 x4 x5 : Int32} {g : Nat → Int32} (hne : o ≠ oh) : hF (hA h oh g) o oh x1 x2 x3 x4 x5 = hA (hF h o oh x1 x2 x3 x4 x5) oh g := List.set_comm _ _ (fun z => hne z.symm)
noncomputable def chF (f g : Nat → Int32) (n : Nat) : Nat := cn (fun c => ¬ f c = g c) n
theorem sp_countChanges (d : Nat) {h : ab_H} {o oh a : Nat} {x1 x2 x3 x4 x5 : Int32} {f g : Nat → Int32} (ho : h[o]? = some (.inr (1, [.ref oh, .int x1, .int x2, .int x3, .int x4, .int x5]))) (hg : h[oh]? = some (.inl (0, 64, .inl g))) (hf : h[a]? = some (.inl (0, 64, .inl f))) {post : ab_P} (hp : post (some (.int (nI (chF g f 64)))) h) : mCC (d + 1) kForecast_countChanges [.ref o, .ref a] h post := by
  have loop : ∀ c, c ≤ 64 → ab_W (ab_st (mT kForecast_countChanges) mB mF (mR kForecast_countChanges) none) (mCC d) post (4, [.ref o, .ref a, .int (nI (chF g f c)), .int (nI c)], [], (0, 0), h) := by
    refine down 64 ?_ ?_
    · skip
      refine ab_W.go (mm _) 2 (c' := (7, [.ref o, .ref a, .int (nI (chF g f 64)), .int (nI 64)], [.int (nI 64), .int (nI 64)], (0, 0), h)) rfl ?_
      refine ab_W.itT (mm _) (p := (nI 64) ≤ (nI 64)) (c1 := (31, [.ref o, .ref a, .int (nI (chF g f 64)), .int (nI 64)], [], (0, 0), h)) (c2 := (10, [.ref o, .ref a, .int (nI (chF g f 64)), .int (nI 64)], [], (0, 0), h)) rfl ((by decide)) ?_
      refine ab_W.go (mm _) 1 (c' := (32, [.ref o, .ref a, .int (nI (chF g f 64)), .int (nI 64)], [.int (nI (chF g f 64))], (0, 0), h)) rfl ?_
      refine ab_W.retI (mm _) (rt := some .int) (v := nI (chF g f 64)) rfl rfl ?_
      exact hp
    · intro c hc ih
      refine ab_W.go (mm _) 2 (c' := (7, [.ref o, .ref a, .int (nI (chF g f c)), .int (nI c)], [.int (nI 64), .int (nI c)], (0, 0), h)) rfl ?_
      refine ab_W.itF (mm _) (p := (nI 64) ≤ (nI c)) (c1 := (31, [.ref o, .ref a, .int (nI (chF g f c)), .int (nI c)], [], (0, 0), h)) (c2 := (10, [.ref o, .ref a, .int (nI (chF g f c)), .int (nI c)], [], (0, 0), h)) rfl (fun z => absurd ((nI_leI (by omega) (by omega)).mp z) (by omega)) ?_
      refine ab_W.go (mm _) 1 (c' := (11, [.ref o, .ref a, .int (nI (chF g f c)), .int (nI c)], [.ref o], (0, 0), h)) rfl ?_
      refine ab_W.o (mm _) (ho) rfl (c' := (14, [.ref o, .ref a, .int (nI (chF g f c)), .int (nI c)], [.ref oh], (0, 0), h)) rfl ?_
      refine ab_W.go (mm _) 1 (c' := (15, [.ref o, .ref a, .int (nI (chF g f c)), .int (nI c)], [.int (nI c), .ref oh], (0, 0), h)) rfl ?_
      refine ab_W.iald (mm _) (j := c) (hg) rfl (by omega) rfl rfl ?_
      show ab_W _ _ _ (16, [.ref o, .ref a, .int (nI (chF g f c)), .int (nI c)], [.int (g c)], (0, 0), h)
      refine ab_W.go (mm _) 2 (c' := (18, [.ref o, .ref a, .int (nI (chF g f c)), .int (nI c)], [.int (nI c), .ref a, .int (g c)], (0, 0), h)) rfl ?_
      refine ab_W.iald (mm _) (j := c) (hf) rfl (by omega) rfl rfl ?_
      show ab_W _ _ _ (19, [.ref o, .ref a, .int (nI (chF g f c)), .int (nI c)], [.int (f c), .int (g c)], (0, 0), h)
      refine ab_W.ite (mm _) (p := (g c) = (f c)) (c1 := (25, [.ref o, .ref a, .int (nI (chF g f c)), .int (nI c)], [], (0, 0), h)) (c2 := (22, [.ref o, .ref a, .int (nI (chF g f c)), .int (nI c)], [], (0, 0), h)) rfl (fun q => ?_) (fun q => ?_)
      · skip
        rw [show chF g f (c + 1) = chF g f c from cn_f (fun z => z q)] at ih
        refine ab_W.go (mm _) 1 (c' := (28, [.ref o, .ref a, .int (nI (chF g f c)), .int (nI c + nI 1)], [], (0, 0), h)) rfl ?_
        rw [nI_add c 1]
        refine ab_W.go (mm _) 1 (c' := (4, [.ref o, .ref a, .int (nI (chF g f c)), .int (nI (c + 1))], [], (0, 0), h)) rfl ?_
        exact ih
      · skip
        rw [show chF g f (c + 1) = chF g f c + 1 from cn_t q] at ih
        refine ab_W.go (mm _) 1 (c' := (25, [.ref o, .ref a, .int (nI (chF g f c) + nI 1), .int (nI c)], [], (0, 0), h)) rfl ?_
        rw [nI_add (chF g f c) 1]
        refine ab_W.go (mm _) 1 (c' := (28, [.ref o, .ref a, .int (nI ((chF g f c) + 1)), .int (nI c + nI 1)], [], (0, 0), h)) rfl ?_
        rw [nI_add c 1]
        refine ab_W.go (mm _) 1 (c' := (4, [.ref o, .ref a, .int (nI ((chF g f c) + 1)), .int (nI (c + 1))], [], (0, 0), h)) rfl ?_
        exact ih
  refine ⟨rfl, ?_⟩
  show ab_W _ _ _ (0, [.ref o, .ref a, .retAddr 0, .retAddr 0], [], (0, 0), h)
  refine ab_W.go (mm _) 4 (c' := (4, [.ref o, .ref a, .int (nI 0), .int (nI 0)], [], (0, 0), h)) rfl ?_
  exact loop 0 (Nat.zero_le _)
/-- the piece that grows -/
def Best (N : Int64) (f : Nat → Int32) (k : Nat) : Prop := (1 ≤ k ∧ k < 128 ∧ isP N k) ∧ ∀ l, 1 ≤ l → l < 128 → isP N l → cst f k < cst f l ∨ (cst f k = cst f l ∧ beg l ≤ beg k)
def Upto (N : Int64) (f : Nat → Int32) (c k : Nat) : Prop := (1 ≤ k ∧ k < 128 ∧ isP N k ∧ beg k < c) ∧ ∀ l, 1 ≤ l → l < 128 → isP N l → beg l < c → cst f k < cst f l ∨ (cst f k = cst f l ∧ beg l ≤ beg k)
theorem cst_le {f : Nat → Int32} {k : Nat} (h1 : 1 ≤ k) (hk : k < 128) : cst f k ≤ 6006 := by
  have h6 := (sp_le k hk h1).1
  have hw := wid_le f k
  unfold cst
  omega
theorem nI_cst_ne {f : Nat → Int32} {k : Nat} (h1 : 1 ≤ k) (hk : k < 128) : ¬ nI (cst f k) = -(nI 6) := by
  have h6 := cst_le (f := f) h1 hk
  intro h
  have h2 := congrArg Int32.toInt h
  rw [nI_toInt (by omega)] at h2
  have h3 : (-(nI 6)).toInt = -6 := by decide
  rw [h3] at h2
  omega
theorem sp_choosePiece (d : Nat) {h : ab_H} {o oh : Nat} {x1 x2 : Int32} {N : Int64} {g : Nat → Int32} (hlen : o < h.length) (hne : o ≠ oh) (hg : h[oh]? = some (.inl (0, 64, .inl g))) (hN : ∃ k, 1 ≤ k ∧ k < 128 ∧ isP N k) {post : ab_P} (hp : ∀ k, Best N g k → post none (hF h o oh x1 x2 (nI (cst g k)) (nI (beg k)) (nI (dep k)))) : mCC (d + 5) kForecast_choosePiece [.ref o, .long N] (hF h o oh x1 x2 (-(nI 6)) (-(nI 6)) (-(nI 6))) post := by
  have loop : ∀ c, c ≤ 64 → ∀ (C F E : Int32) (v4 v5 v6 : Value), ((C = -(nI 6) ∧ F = -(nI 6) ∧ E = -(nI 6) ∧ ∀ l, 1 ≤ l → l < 128 → isP N l → c ≤ beg l) ∨ (∃ k, Upto N g c k ∧ C = nI (cst g k) ∧ F = nI (beg k) ∧ E = nI (dep k))) → ab_W (ab_st (mT kForecast_choosePiece) mB mF (mR kForecast_choosePiece) none) (mCC (d + 4)) post (2, [.ref o, .long N, .retAddr 0, .int (nI c), v4, v5, v6], [], (0, 0), hF h o oh x1 x2 C F E) := by
    refine down 64 ?_ ?_
    · intro C F E v4 v5 v6 hI
      refine ab_W.go (mm _) 2 (c' := (5, [.ref o, .long N, .retAddr 0, .int (nI 64), v4, v5, v6], [.int (nI 64), .int (nI 64)], (0, 0), hF h o oh x1 x2 C F E)) rfl ?_
      refine ab_W.itT (mm _) (p := (nI 64) ≤ (nI 64)) (c1 := (92, [.ref o, .long N, .retAddr 0, .int (nI 64), v4, v5, v6], [], (0, 0), hF h o oh x1 x2 C F E)) (c2 := (8, [.ref o, .long N, .retAddr 0, .int (nI 64), v4, v5, v6], [], (0, 0), hF h o oh x1 x2 C F E)) rfl ((by decide)) ?_
      refine ab_W.ret (mm _) (v := none) rfl ?_
      rcases hI with ⟨-, -, -, hno⟩ | ⟨k, hk, rfl, rfl, rfl⟩
      · obtain ⟨k, k1, k2, k3⟩ := hN
        exact absurd (hno k k1 k2 k3) (by have := (sp_le k k2 k1).2.2.2; omega)
      · exact hp k ⟨⟨hk.1.1, hk.1.2.1, hk.1.2.2.1⟩, fun l l1 l2 l3 => hk.2 l l1 l2 l3 (sp_le l l2 l1).2.2.2⟩
    · intro c hc ih C F E v4 v5 v6 hI
      refine ab_W.go (mm _) 2 (c' := (5, [.ref o, .long N, .retAddr 0, .int (nI c), v4, v5, v6], [.int (nI 64), .int (nI c)], (0, 0), hF h o oh x1 x2 C F E)) rfl ?_
      refine ab_W.itF (mm _) (p := (nI 64) ≤ (nI c)) (c1 := (92, [.ref o, .long N, .retAddr 0, .int (nI c), v4, v5, v6], [], (0, 0), hF h o oh x1 x2 C F E)) (c2 := (8, [.ref o, .long N, .retAddr 0, .int (nI c), v4, v5, v6], [], (0, 0), hF h o oh x1 x2 C F E)) rfl (fun z => absurd ((nI_leI (by omega) (by omega)).mp z) (by omega)) ?_
      refine ab_W.go (mm _) 2 (c' := (10, [.ref o, .long N, .retAddr 0, .int (nI c), v4, v5, v6], [.int (nI c), .long N], (0, 0), hF h o oh x1 x2 C F E)) rfl ?_
      refine ab_W.call (mm _) (k := 31) (av := [.long N, .int (nI c)]) (c' := (13, [.ref o, .long N, .retAddr 0, .int (nI c), v4, v5, v6], [], (0, 0), hF h o oh x1 x2 C F E)) rfl ?_
      refine sp_pieceDepth d hc (fun v hv => ?_)
      rcases hv with ⟨k, ⟨k1, k2, k3, k4⟩, rfl⟩ | ⟨hk, rfl⟩
      · skip
        show ab_W _ _ _ (13, [.ref o, .long N, .retAddr 0, .int (nI c), v4, v5, v6], [.int (nI (dep k))], (0, 0), hF h o oh x1 x2 C F E)
        refine ab_W.go (mm _) 3 (c' := (19, [.ref o, .long N, .retAddr 0, .int (nI c), .int (nI (dep k)), v5, v6], [.int (-(nI 6)), .int (nI (dep k))], (0, 0), hF h o oh x1 x2 C F E)) rfl ?_
        refine ab_W.itF (mm _) (p := (nI (dep k)) = (-(nI 6))) (c1 := (22, [.ref o, .long N, .retAddr 0, .int (nI c), .int (nI (dep k)), v5, v6], [], (0, 0), hF h o oh x1 x2 C F E)) (c2 := (25, [.ref o, .long N, .retAddr 0, .int (nI c), .int (nI (dep k)), v5, v6], [], (0, 0), hF h o oh x1 x2 C F E)) rfl (nI_dep_ne k1 k2) ?_
        refine ab_W.go (mm _) 2 (c' := (28, [.ref o, .long N, .retAddr 0, .int (nI c), .int (nI (dep k)), v5, v6], [.ref o, .int (nI (dep k))], (0, 0), hF h o oh x1 x2 C F E)) rfl ?_
        refine ab_W.o (mm _) (hF_at hlen) rfl (c' := (31, [.ref o, .long N, .retAddr 0, .int (nI c), .int (nI (dep k)), v5, v6], [.ref oh, .int (nI (dep k))], (0, 0), hF h o oh x1 x2 C F E)) rfl ?_
        refine ab_W.go (mm _) 2 (c' := (34, [.ref o, .long N, .retAddr 0, .int (nI c), .int (nI (dep k)), v5, v6], [.int (nI (dep k)), .int (nI c), .ref oh, .int (nI (dep k))], (0, 0), hF h o oh x1 x2 C F E)) rfl ?_
        rw [← k4]
        show ab_W _ _ _ (34, [.ref o, .long N, .retAddr 0, .int (nI (beg k)), .int (nI (dep k)), v5, v6], [.int (nI (dep k)), .int (nI (beg k)), .ref oh, .int (nI (dep k))], (0, 0), hF h o oh x1 x2 C F E)
        refine ab_W.call (mm _) (k := 36) (av := [.ref oh, .int (nI (beg k)), .int (nI (dep k))]) (c' := (37, [.ref o, .long N, .retAddr 0, .int (nI (beg k)), .int (nI (dep k)), v5, v6], [.int (nI (dep k))], (0, 0), hF h o oh x1 x2 C F E)) rfl ?_
        refine sp_alikeDepth (d + 1) ((hF_ne hne).trans hg) k1 k2 ?_
        show ab_W _ _ _ (37, [.ref o, .long N, .retAddr 0, .int (nI (beg k)), .int (nI (dep k)), v5, v6], [.int (nI (wid g k)), .int (nI (dep k))], (0, 0), hF h o oh x1 x2 C F E)
        refine ab_W.go (mm _) 1 (c' := (38, [.ref o, .long N, .retAddr 0, .int (nI (beg k)), .int (nI (dep k)), v5, v6], [.int ((nI (dep k)) - (nI (wid g k)))], (0, 0), hF h o oh x1 x2 C F E)) rfl ?_
        refine ab_W.topi (pk_sub (wid_le g k)) ?_
        refine ab_W.go (mm _) 5 (c' := (48, [.ref o, .long N, .retAddr 0, .int (nI (beg k)), .int (nI (dep k)), .int (nI (dep k - wid g k)), v6], [.int ((nI 1000) * (nI (dep k - wid g k))), .int (nI (dep k))], (0, 0), hF h o oh x1 x2 C F E)) rfl ?_
        refine ab_W.topi (pk_mul 1000 (dep k - wid g k)) ?_
        refine ab_W.go (mm _) 1 (c' := (49, [.ref o, .long N, .retAddr 0, .int (nI (beg k)), .int (nI (dep k)), .int (nI (dep k - wid g k)), v6], [.int ((nI (dep k)) + (nI (1000 * (dep k - wid g k))))], (0, 0), hF h o oh x1 x2 C F E)) rfl ?_
        refine ab_W.topi (nI_add (dep k) (1000 * (dep k - wid g k))) ?_
        refine ab_W.go (mm _) 2 (c' := (52, [.ref o, .long N, .retAddr 0, .int (nI (beg k)), .int (nI (dep k)), .int (nI (dep k - wid g k)), .int (nI ((dep k) + (1000 * (dep k - wid g k))))], [.ref o], (0, 0), hF h o oh x1 x2 C F E)) rfl ?_
        refine ab_W.o (mm _) (hF_at hlen) rfl (c' := (55, [.ref o, .long N, .retAddr 0, .int (nI (beg k)), .int (nI (dep k)), .int (nI (dep k - wid g k)), .int (nI ((dep k) + (1000 * (dep k - wid g k))))], [.int C], (0, 0), hF h o oh x1 x2 C F E)) rfl ?_
        refine ab_W.go (mm _) 1 (c' := (57, [.ref o, .long N, .retAddr 0, .int (nI (beg k)), .int (nI (dep k)), .int (nI (dep k - wid g k)), .int (nI ((dep k) + (1000 * (dep k - wid g k))))], [.int (-(nI 6)), .int C], (0, 0), hF h o oh x1 x2 C F E)) rfl ?_
        have fin : ∀ v5 v6, ab_W (ab_st (mT kForecast_choosePiece) mB mF (mR kForecast_choosePiece) none) (mCC (d + 4)) post (86, [.ref o, .long N, .retAddr 0, .int (nI (beg k)), .int (nI (dep k)), v5, v6], [], (0, 0), hF h o oh x1 x2 C F E) → ab_W (ab_st (mT kForecast_choosePiece) mB mF (mR kForecast_choosePiece) none) (mCC (d + 4)) post (86, [.ref o, .long N, .retAddr 0, .int (nI (beg k)), .int (nI (dep k)), v5, v6], [], (0, 0), hF h o oh x1 x2 C F E) := fun _ _ w => w
        have take : Upto N g (c + 1) k → ab_W (ab_st (mT kForecast_choosePiece) mB mF (mR kForecast_choosePiece) none) (mCC (d + 4)) post (69, [.ref o, .long N, .retAddr 0, .int (nI (beg k)), .int (nI (dep k)), .int (nI (dep k - wid g k)), .int (nI (dep k + (1000 * (dep k - wid g k))))], [], (0, 0), hF h o oh x1 x2 C F E) := by
          intro hU
          refine ab_W.go (mm _) 2 (c' := (72, [.ref o, .long N, .retAddr 0, .int (nI (beg k)), .int (nI (dep k)), .int (nI (dep k - wid g k)), .int (nI (dep k + (1000 * (dep k - wid g k))))], [.int (nI (dep k + (1000 * (dep k - wid g k)))), .ref o], (0, 0), hF h o oh x1 x2 C F E)) rfl ?_
          refine ab_W.o (mm _) (hF_at hlen) rfl (c' := (75, [.ref o, .long N, .retAddr 0, .int (nI (beg k)), .int (nI (dep k)), .int (nI (dep k - wid g k)), .int (nI (dep k + (1000 * (dep k - wid g k))))], [], (0, 0), (hF h o oh x1 x2 C F E).set o (.inr (1, [.ref oh, .int x1, .int x2, .int (nI (cst g k)), .int F, .int E])))) rfl ?_
          refine ab_W.hp (hF_hF) ?_
          show ab_W _ _ _ (75, [.ref o, .long N, .retAddr 0, .int (nI (beg k)), .int (nI (dep k)), .int (nI (dep k - wid g k)), .int (nI (dep k + (1000 * (dep k - wid g k))))], [], (0, 0), hF h o oh x1 x2 (nI (cst g k)) F E)
          refine ab_W.go (mm _) 2 (c' := (77, [.ref o, .long N, .retAddr 0, .int (nI (beg k)), .int (nI (dep k)), .int (nI (dep k - wid g k)), .int (nI (dep k + (1000 * (dep k - wid g k))))], [.int (nI (beg k)), .ref o], (0, 0), hF h o oh x1 x2 (nI (cst g k)) F E)) rfl ?_
          refine ab_W.o (mm _) (hF_at hlen) rfl (c' := (80, [.ref o, .long N, .retAddr 0, .int (nI (beg k)), .int (nI (dep k)), .int (nI (dep k - wid g k)), .int (nI (dep k + (1000 * (dep k - wid g k))))], [], (0, 0), (hF h o oh x1 x2 (nI (cst g k)) F E).set o (.inr (1, [.ref oh, .int x1, .int x2, .int (nI (cst g k)), .int (nI (beg k)), .int E])))) rfl ?_
          refine ab_W.hp (hF_hF) ?_
          show ab_W _ _ _ (80, [.ref o, .long N, .retAddr 0, .int (nI (beg k)), .int (nI (dep k)), .int (nI (dep k - wid g k)), .int (nI (dep k + (1000 * (dep k - wid g k))))], [], (0, 0), hF h o oh x1 x2 (nI (cst g k)) (nI (beg k)) E)
          refine ab_W.go (mm _) 2 (c' := (83, [.ref o, .long N, .retAddr 0, .int (nI (beg k)), .int (nI (dep k)), .int (nI (dep k - wid g k)), .int (nI (dep k + (1000 * (dep k - wid g k))))], [.int (nI (dep k)), .ref o], (0, 0), hF h o oh x1 x2 (nI (cst g k)) (nI (beg k)) E)) rfl ?_
          refine ab_W.o (mm _) (hF_at hlen) rfl (c' := (86, [.ref o, .long N, .retAddr 0, .int (nI (beg k)), .int (nI (dep k)), .int (nI (dep k - wid g k)), .int (nI (dep k + (1000 * (dep k - wid g k))))], [], (0, 0), (hF h o oh x1 x2 (nI (cst g k)) (nI (beg k)) E).set o (.inr (1, [.ref oh, .int x1, .int x2, .int (nI (cst g k)), .int (nI (beg k)), .int (nI (dep k))])))) rfl ?_
          refine ab_W.hp (hF_hF) ?_
          show ab_W _ _ _ (86, [.ref o, .long N, .retAddr 0, .int (nI (beg k)), .int (nI (dep k)), .int (nI (dep k - wid g k)), .int (nI (dep k + (1000 * (dep k - wid g k))))], [], (0, 0), hF h o oh x1 x2 (nI (cst g k)) (nI (beg k)) (nI (dep k)))
          refine ab_W.go (mm _) 1 (c' := (89, [.ref o, .long N, .retAddr 0, .int (nI (beg k) + nI 1), .int (nI (dep k)), .int (nI (dep k - wid g k)), .int (nI (dep k + (1000 * (dep k - wid g k))))], [], (0, 0), hF h o oh x1 x2 (nI (cst g k)) (nI (beg k)) (nI (dep k)))) rfl ?_
          rw [nI_add (beg k) 1]
          refine ab_W.go (mm _) 1 (c' := (2, [.ref o, .long N, .retAddr 0, .int (nI ((beg k) + 1)), .int (nI (dep k)), .int (nI (dep k - wid g k)), .int (nI (dep k + (1000 * (dep k - wid g k))))], [], (0, 0), hF h o oh x1 x2 (nI (cst g k)) (nI (beg k)) (nI (dep k)))) rfl ?_
          rw [show beg k + 1 = c + 1 by rw [k4]]
          exact ih _ _ _ _ _ _ (Or.inr ⟨k, hU, rfl, rfl, rfl⟩)
        rcases hI with ⟨rfl, rfl, rfl, hno⟩ | ⟨l, hl, rfl, rfl, rfl⟩
        · skip
          show ab_W _ _ _ (57, [.ref o, .long N, .retAddr 0, .int (nI (beg k)), .int (nI (dep k)), .int (nI (dep k - wid g k)), .int (nI (dep k + (1000 * (dep k - wid g k))))], [.int (-(nI 6)), .int (-(nI 6))], (0, 0), hF h o oh x1 x2 (-(nI 6)) (-(nI 6)) (-(nI 6)))
          refine ab_W.itT (mm _) (p := (-(nI 6)) = (-(nI 6))) (c1 := (69, [.ref o, .long N, .retAddr 0, .int (nI (beg k)), .int (nI (dep k)), .int (nI (dep k - wid g k)), .int (nI (dep k + (1000 * (dep k - wid g k))))], [], (0, 0), hF h o oh x1 x2 (-(nI 6)) (-(nI 6)) (-(nI 6)))) (c2 := (60, [.ref o, .long N, .retAddr 0, .int (nI (beg k)), .int (nI (dep k)), .int (nI (dep k - wid g k)), .int (nI (dep k + (1000 * (dep k - wid g k))))], [], (0, 0), hF h o oh x1 x2 (-(nI 6)) (-(nI 6)) (-(nI 6)))) rfl (rfl) ?_
          refine take ⟨⟨k1, k2, k3, by omega⟩, fun l l1 l2 l3 l4 => ?_⟩
          have := hno l l1 l2 l3
          have hb : beg l = c := by omega
          have : l = k := isP_one l1 l2 k1 k2 l3 k3 (inK_beg l1 l2) (by rw [hb, ← k4]; exact inK_beg k1 k2)
          subst this
          exact Or.inr ⟨rfl, Nat.le_refl _⟩
        · skip
          show ab_W _ _ _ (57, [.ref o, .long N, .retAddr 0, .int (nI (beg k)), .int (nI (dep k)), .int (nI (dep k - wid g k)), .int (nI (dep k + (1000 * (dep k - wid g k))))], [.int (-(nI 6)), .int (nI (cst g l))], (0, 0), hF h o oh x1 x2 (nI (cst g l)) (nI (beg l)) (nI (dep l)))
          have hl1 := hl.1.1
          have hl2 := hl.1.2.1
          have c1 := cst_le (f := g) k1 k2
          have c2 := cst_le (f := g) hl1 hl2
          refine ab_W.itF (mm _) (p := (nI (cst g l)) = (-(nI 6))) (c1 := (69, [.ref o, .long N, .retAddr 0, .int (nI (beg k)), .int (nI (dep k)), .int (nI (dep k - wid g k)), .int (nI (dep k + (1000 * (dep k - wid g k))))], [], (0, 0), hF h o oh x1 x2 (nI (cst g l)) (nI (beg l)) (nI (dep l)))) (c2 := (60, [.ref o, .long N, .retAddr 0, .int (nI (beg k)), .int (nI (dep k)), .int (nI (dep k - wid g k)), .int (nI (dep k + (1000 * (dep k - wid g k))))], [], (0, 0), hF h o oh x1 x2 (nI (cst g l)) (nI (beg l)) (nI (dep l)))) rfl (nI_cst_ne hl1 hl2) ?_
          refine ab_W.go (mm _) 2 (c' := (63, [.ref o, .long N, .retAddr 0, .int (nI (beg k)), .int (nI (dep k)), .int (nI (dep k - wid g k)), .int (nI (dep k + (1000 * (dep k - wid g k))))], [.ref o, .int (nI (dep k + (1000 * (dep k - wid g k))))], (0, 0), hF h o oh x1 x2 (nI (cst g l)) (nI (beg l)) (nI (dep l)))) rfl ?_
          refine ab_W.o (mm _) (hF_at hlen) rfl (c' := (66, [.ref o, .long N, .retAddr 0, .int (nI (beg k)), .int (nI (dep k)), .int (nI (dep k - wid g k)), .int (nI (dep k + (1000 * (dep k - wid g k))))], [.int (nI (cst g l)), .int (nI (dep k + (1000 * (dep k - wid g k))))], (0, 0), hF h o oh x1 x2 (nI (cst g l)) (nI (beg l)) (nI (dep l)))) rfl ?_
          refine ab_W.ite (mm _) (p := (nI (cst g l)) < (nI (dep k + (1000 * (dep k - wid g k))))) (c1 := (86, [.ref o, .long N, .retAddr 0, .int (nI (beg k)), .int (nI (dep k)), .int (nI (dep k - wid g k)), .int (nI (dep k + (1000 * (dep k - wid g k))))], [], (0, 0), hF h o oh x1 x2 (nI (cst g l)) (nI (beg l)) (nI (dep l)))) (c2 := (69, [.ref o, .long N, .retAddr 0, .int (nI (beg k)), .int (nI (dep k)), .int (nI (dep k - wid g k)), .int (nI (dep k + (1000 * (dep k - wid g k))))], [], (0, 0), hF h o oh x1 x2 (nI (cst g l)) (nI (beg l)) (nI (dep l)))) rfl (fun q => ?_) (fun q => ?_)
          · skip
            have q : cst g l < cst g k := (nI_ltI (by omega) (by omega)).mp q
            refine ab_W.go (mm _) 1 (c' := (89, [.ref o, .long N, .retAddr 0, .int (nI (beg k) + nI 1), .int (nI (dep k)), .int (nI (dep k - wid g k)), .int (nI (dep k + (1000 * (dep k - wid g k))))], [], (0, 0), hF h o oh x1 x2 (nI (cst g l)) (nI (beg l)) (nI (dep l)))) rfl ?_
            rw [nI_add (beg k) 1]
            refine ab_W.go (mm _) 1 (c' := (2, [.ref o, .long N, .retAddr 0, .int (nI ((beg k) + 1)), .int (nI (dep k)), .int (nI (dep k - wid g k)), .int (nI (dep k + (1000 * (dep k - wid g k))))], [], (0, 0), hF h o oh x1 x2 (nI (cst g l)) (nI (beg l)) (nI (dep l)))) rfl ?_
            rw [show beg k + 1 = c + 1 by rw [k4]]
            refine ih _ _ _ _ _ _ (Or.inr ⟨l, ⟨⟨hl1, hl2, hl.1.2.2.1, by have := hl.1.2.2.2; omega⟩, fun j j1 j2 j3 j4 => ?_⟩, rfl, rfl, rfl⟩)
            rcases Nat.lt_or_ge (beg j) c with z | z
            · exact hl.2 j j1 j2 j3 z
            · have hb : beg j = c := by omega
              have : j = k := isP_one j1 j2 k1 k2 j3 k3 (inK_beg j1 j2) (by rw [hb, ← k4]; exact inK_beg k1 k2)
              subst this
              exact Or.inl q
          · skip
            have q : ¬ cst g l < cst g k := fun z => q ((nI_ltI (a := cst g l) (b := cst g k) (by omega) (by omega)).mpr z)
            refine take ⟨⟨k1, k2, k3, by omega⟩, fun j j1 j2 j3 j4 => ?_⟩
            rcases Nat.lt_or_ge (beg j) c with z | z
            · rcases hl.2 j j1 j2 j3 z with y | y
              · exact Or.inl (by omega)
              · rcases Nat.lt_or_ge (cst g k) (cst g j) with x | x
                · exact Or.inl x
                · exact Or.inr ⟨by omega, by omega⟩
            · have hb : beg j = c := by omega
              have : j = k := isP_one j1 j2 k1 k2 j3 k3 (inK_beg j1 j2) (by rw [hb, ← k4]; exact inK_beg k1 k2)
              subst this
              exact Or.inr ⟨rfl, Nat.le_refl _⟩
      · skip
        show ab_W _ _ _ (13, [.ref o, .long N, .retAddr 0, .int (nI c), v4, v5, v6], [.int (-(nI 6))], (0, 0), hF h o oh x1 x2 C F E)
        refine ab_W.go (mm _) 3 (c' := (19, [.ref o, .long N, .retAddr 0, .int (nI c), .int (-(nI 6)), v5, v6], [.int (-(nI 6)), .int (-(nI 6))], (0, 0), hF h o oh x1 x2 C F E)) rfl ?_
        refine ab_W.itT (mm _) (p := (-(nI 6)) = (-(nI 6))) (c1 := (22, [.ref o, .long N, .retAddr 0, .int (nI c), .int (-(nI 6)), v5, v6], [], (0, 0), hF h o oh x1 x2 C F E)) (c2 := (25, [.ref o, .long N, .retAddr 0, .int (nI c), .int (-(nI 6)), v5, v6], [], (0, 0), hF h o oh x1 x2 C F E)) rfl (rfl) ?_
        refine ab_W.go (mm _) 2 (c' := (89, [.ref o, .long N, .retAddr 0, .int (nI c + nI 1), .int (-(nI 6)), v5, v6], [], (0, 0), hF h o oh x1 x2 C F E)) rfl ?_
        rw [nI_add c 1]
        refine ab_W.go (mm _) 1 (c' := (2, [.ref o, .long N, .retAddr 0, .int (nI (c + 1)), .int (-(nI 6)), v5, v6], [], (0, 0), hF h o oh x1 x2 C F E)) rfl ?_
        refine ih _ _ _ _ _ _ ?_
        have hno : ∀ l, 1 ≤ l → l < 128 → isP N l → beg l ≠ c := fun l l1 l2 l3 z => hk ⟨l, l1, l2, l3, z⟩
        rcases hI with ⟨e1, e2, e3, hh⟩ | ⟨l, hl, e1, e2, e3⟩
        · exact Or.inl ⟨e1, e2, e3, fun l l1 l2 l3 => by have := hh l l1 l2 l3; have := hno l l1 l2 l3; omega⟩
        · exact Or.inr ⟨l, ⟨⟨hl.1.1, hl.1.2.1, hl.1.2.2.1, by have := hl.1.2.2.2; omega⟩, fun j j1 j2 j3 j4 => hl.2 j j1 j2 j3 (by have := hno j j1 j2 j3; omega)⟩, e1, e2, e3⟩
  refine ⟨rfl, ?_⟩
  show ab_W _ _ _ (0, [.ref o, .long N, .retAddr 0, .retAddr 0, .retAddr 0, .retAddr 0, .retAddr 0], [], (0, 0), hF h o oh x1 x2 (-(nI 6)) (-(nI 6)) (-(nI 6)))
  refine ab_W.go (mm _) 2 (c' := (2, [.ref o, .long N, .retAddr 0, .int (nI 0), .retAddr 0, .retAddr 0, .retAddr 0], [], (0, 0), hF h o oh x1 x2 (-(nI 6)) (-(nI 6)) (-(nI 6)))) rfl ?_
  exact loop 0 (Nat.zero_le _) _ _ _ _ _ _ (Or.inl ⟨rfl, rfl, rfl, fun l _ _ _ => Nat.zero_le _⟩)
