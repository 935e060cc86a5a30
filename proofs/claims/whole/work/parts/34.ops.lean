/-! WHAT EACH CALL DOES, as a function of the stamps -/
abbrev Sg : Type := Ci × (Nat → Ci) × (Nat → Bool)
noncomputable def stN (c : Ci) (x : Int32) : Option Nat := ci (∃ s, s < 12 ∧ x = nI s ∧ pr c s = true) (some x.toNatClampNeg) none
theorem stN_yes {c : Ci} {s : Nat} (hs : s < 12) (hp : pr c s = true) : stN c (nI s) = some s := by
  unfold stN
  rw [ci_t ⟨s, hs, rfl, hp⟩, nI_clamp (by omega)]
theorem stN_no {c : Ci} {x : Int32} (h : noS c x) : stN c x = none := by
  refine ci_f ?_
  rintro ⟨s, s1, rfl, s3⟩
  rcases h with h | h | ⟨t, t1, t2, t3⟩
  · exact nI_pos (by omega) h
  · have := (nI_leI (a := 12) (b := s) (by omega) (by omega)).mp h
    omega
  · have := (nI_eq (by omega) (by omega)).mp t2
    subst this
    rw [s3] at t3
    cases t3
noncomputable def frN (c : Ci) : Option Nat := @dite _ (∃ t, free1 c t) (Classical.propDecidable _) (fun h => some (Classical.choose h)) (fun _ => none)
theorem free1_one {c : Ci} {s t : Nat} (h1 : free1 c s) (h2 : free1 c t) : s = t := by
  rcases Nat.lt_trichotomy s t with q | q | q
  · have := h2.2.2 s q
    rw [h1.2.1] at this
    cases this
  · exact q
  · have := h1.2.2 t q
    rw [h2.2.1] at this
    cases this
theorem frN_yes {c : Ci} {t : Nat} (h : free1 c t) : frN c = some t := by
  unfold frN
  rw [dif_pos ⟨t, h⟩]
  exact congrArg some (free1_one (Classical.choose_spec (⟨t, h⟩ : ∃ t, free1 c t)) h)
theorem frN_no {c : Ci} (h : ∀ s, s < 12 → pr c s = true) : frN c = none := by
  unfold frN
  refine dif_neg ?_
  rintro ⟨t, t1, t2, -⟩
  rw [h t t1] at t2
  cases t2
def setH (c : Ci) (n : Nat) : Ci := (pr c, nm c, kn c, ht c, n)
/-- the growing piece, and what a happening makes of heights -/
noncomputable def bst (N : Int64) (f : Nat → Int32) : Nat := @Classical.epsilon Nat ⟨0⟩ (Best N f)
theorem Best.one {N : Int64} {f : Nat → Int32} {k l : Nat} (h1 : Best N f k) (h2 : Best N f l) : k = l := by
  obtain ⟨⟨k1, k2, k3⟩, k4⟩ := h1
  obtain ⟨⟨l1, l2, l3⟩, l4⟩ := h2
  have a := k4 l l1 l2 l3
  have b := l4 k k1 k2 k3
  have e : beg k = beg l := by omega
  exact isP_one k1 k2 l1 l2 k3 l3 (inK_beg k1 k2) (by rw [e]; exact inK_beg l1 l2)
theorem bst_eq {N : Int64} {f : Nat → Int32} {k : Nat} (h : Best N f k) : bst N f = k := Best.one (@Classical.epsilon_spec Nat (Best N f) ⟨k, h⟩) h
noncomputable def nch (N : Int64) (f : Nat → Int32) : Nat := chF (fl N 6 1 f) f 64
noncomputable def grF (N : Int64) (f : Nat → Int32) (w : Nat) : Int32 := match w with
  | 0 => ci (0 < nch N f) (nI 1) (nI 0)
  | 1 => ci (0 < nch N f) (nI (nch N f)) (nI (siz (bst N f)))
  | 2 => ci (0 < nch N f) (-(nI 6)) (nI (cst f (bst N f)))
  | 3 => ci (0 < nch N f) (-(nI 6)) (nI (beg (bst N f)))
  | _ => ci (0 < nch N f) (-(nI 6)) (nI (dep (bst N f)))
noncomputable def hpF (N : Int64) (f : Nat → Int32) : Nat → Int32 := ci (0 < nch N f) (fl N 6 1 f) (rsF f (beg (bst N f)) (beg (bst N f) + siz (bst N f)))
theorem LK.ok {N : Int64} {f : Nat → Int32} {y1 y2 y3 y4 y5 : Int32} {G : Nat → Int32} (h : LK N f y1 y2 y3 y4 y5 G) : y1 = grF N f 0 ∧ y2 = grF N f 1 ∧ y3 = grF N f 2 ∧ y4 = grF N f 3 ∧ y5 = grF N f 4 ∧ ∀ c, c < 64 → G c = hpF N f c := by
  rcases h with ⟨q, e1, e2, e3, e4, e5, e6⟩ | ⟨q, k, hk, e1, e2, e3, e4, e5, e6⟩
  · have q' : 0 < nch N f := q
    unfold grF hpF
    rw [ci_t q', ci_t q', ci_t q', ci_t q', ci_t q', ci_t q']
    exact ⟨e1, e2, e3, e4, e5, e6⟩
  · have q' : ¬ 0 < nch N f := by
      show ¬ 0 < chF (fl N 6 1 f) f 64
      omega
    unfold grF hpF
    rw [ci_f q', ci_f q', ci_f q', ci_f q', ci_f q', ci_f q', bst_eq hk]
    exact ⟨e1, e2, e3, e4, e5, e6⟩
def inv64 (A : Int64) : Int64 := A ^^^ (-(lN 1))
def lowN (N : Int64) : Int64 := N &&& msk (2 * lsN N)
def uppN (N : Int64) : Int64 := N &&& inv64 (msk (2 * lsN N))
noncomputable def forkO (c : Ci) : Option Nat → Int32 × Ci
  | none => (-(nI 1), c)
  | some s => ci (nm c s = lN 0) (-(nI 3), c) (ci (cnt (nm c s) 64 = 1) (-(nI 5), c) (match frN c with
    | none => (-(nI 4), c)
    | some t => (nI t, setS (setS c t true (uppN (nm c s)) (kn c s) (ht c s)) s true (lowN (nm c s)) (kn c s) (ht c s))))
noncomputable def peekO (c : Ci) : Option Nat → Int32 × Ci
  | none => (-(nI 1), c)
  | some s => match frN c with
    | none => (-(nI 4), c)
    | some t => (nI t, setS c t true (lN 0) (kn c s) (ht c s))
noncomputable def happenO (c : Ci) : Option Nat → Int32 × Ci
  | none => (-(nI 1), c)
  | some s => ci (nm c s = lN 0) (-(nI 3), c) (ci (60 ≤ hn c) (-(nI 4), c) (nI (hn c), setH (setS c s true (nm c s) (kn c s ||| (lN 1 <<< ((nI (hn c)).toInt64 &&& 63))) (hpF (nm c s) (ht c s))) (hn c + 1)))
def mxH (f g : Nat → Int32) : Nat → Int32 := fun c => mxI (f c) (g c)
def hearC (c : Ci) (s t : Nat) : Ci := setS c s true (nm c s) (kn c s ||| kn c t) (mxH (ht c s) (ht c t))
noncomputable def hearO (c : Ci) : Option Nat → Option Nat → Int32 × Ci
  | some s, some t => ci (s = t) (-(nI 2), c) (nI (cn (fun j => ht c s j < ht c t j) 64), hearC c s t)
  | _, _ => (-(nI 1), c)
def joinC (c : Ci) (s t : Nat) : Ci := setS (setS c s true (nm c s ||| nm c t) (kn c s ||| kn c t) (mxH (ht c s) (ht c t))) t false (nm c t) (kn c t) (ht c t)
noncomputable def joinO (c : Ci) : Option Nat → Option Nat → Int32 × Ci
  | some s, some t => ci (s = t) (-(nI 2), c) (nI (cb (pr (joinC c s t)) 12), joinC c s t)
  | _, _ => (-(nI 1), c)
def shareC (c : Ci) (s t : Nat) : Ci := setS (setS c s true (lowN (nm c s ||| nm c t)) (kn c s ||| kn c t) (mxH (ht c s) (ht c t))) t true (uppN (nm c s ||| nm c t)) (kn c t ||| (kn c s ||| kn c t)) (mxH (ht c t) (mxH (ht c s) (ht c t)))
noncomputable def shareO (c : Ci) : Option Nat → Option Nat → Int32 × Ci
  | some s, some t => ci (s = t) (-(nI 2), c) (ci ((nm c s ||| nm c t) = lN 0) (-(nI 3), c) (ci (cnt (nm c s ||| nm c t) 64 = 1) (-(nI 5), c) (nI (cnt (lowN (nm c s ||| nm c t)) 64), shareC c s t)))
  | _, _ => (-(nI 1), c)
def dropC (c : Ci) (s : Nat) : Ci := setS c s false (nm c s) (kn c s) (ht c s)
noncomputable def dropO (c : Ci) : Option Nat → Int32 × Ci
  | none => (-(nI 1), c)
  | some s => ci (nm c s = lN 0) (nI (cb (pr (dropC c s)) 12), dropC c s) (-(nI 5), c)
noncomputable def orderO (c : Ci) : Option Nat → Option Nat → Int32
  | some s, some t => nI (ordN (ht c s) (ht c t))
  | _, _ => -(nI 1)
noncomputable def knowsO (c : Ci) (e : Int32) : Option Nat → Int32
  | none => -(nI 1)
  | some s => ci (e = -(nI 1)) (nI (cnt (kn c s) 64)) (ci (e < 0 ∨ nI (hn c) ≤ e) (-(nI 2)) (b2i (bt (kn c s) e.toNatClampNeg)))
noncomputable def heightO (c : Ci) (y : Int32) : Option Nat → Int32
  | none => -(nI 1)
  | some s => ci (y < 0 ∨ nI 64 ≤ y) (-(nI 2)) (ht c s y.toNatClampNeg)
def ownP (c : Ci) (j s : Nat) : Prop := s < 12 ∧ pr c s = true ∧ bt (nm c s) j = true
noncomputable def ownF (c : Ci) (y : Int32) : Int32 := ci (y < 0 ∨ nI 64 ≤ y) (-(nI 2)) (ci (∃ s, ownP c y.toNatClampNeg s) (nI (@Classical.epsilon Nat ⟨0⟩ (ownP c y.toNatClampNeg))) (-(nI 6)))
noncomputable def nameO (c : Ci) (k : Int32) : Option Nat → Int32
  | none => -(nI 1)
  | some s => ci (k < -(nI 1)) (-(nI 2)) (tlF (nT (nm c s) 6 1) k)
noncomputable def treeO (c : Ci) (k : Int32) : Option Nat → Int32
  | none => -(nI 1)
  | some s => ci (k < -(nI 1)) (-(nI 2)) (tlF (hT (ht c s) 6 1 0) k)
noncomputable def aboutO (c : Ci) (w : Int32) : Option Nat → Int32
  | none => -(nI 1)
  | some s => ci (w = nI 0) (nI (cnt (nm c s) 64)) (ci (w = nI 1) (nI (npc (nm c s))) (ci (w = nI 2) (mx (ht c s) 1) (ci (w = nI 3) (mn (ht c s) 1) (ci (w = nI 4) (ci (nm c s = lN 0) (-(nI 6)) (nI (dep (lsN (nm c s))))) (-(nI 2))))))
noncomputable def growthO (c : Ci) (w : Int32) : Option Nat → Int32
  | none => -(nI 1)
  | some s => ci (w < 0 ∨ nI 4 < w) (-(nI 2)) (ci (nm c s = lN 0) (-(nI 3)) (grF (nm c s) (ht c s) w.toNatClampNeg))
noncomputable def unF (c : Ci) (w : Int32) : Int32 := ci (w = nI 0) (nI (cn (fun s => pr c s = true ∧ ¬ ∃ t, t < s ∧ pr c t = true ∧ ordN (ht c t) (ht c s) = 0) 12)) (ci (w = nI 1) (nI (cn (fun s => pr c s = true ∧ ¬ ∃ t, t < s ∧ pr c t = true ∧ nm c t = nm c s) 12)) (ci (w = nI 2) (nI (cn (fun s => pr c s = true ∧ ¬ ∃ t, t < 12 ∧ pr c t = true ∧ ordN (ht c s) (ht c t) = 1) 12)) (-(nI 2))))
def kpN (k : Nat → Bool) : Nat := (if k 0 = true then 1 else 0) + (if k 1 = true then 2 else 0)
noncomputable def imgF (σ : Sg) (k : Int32) : Int32 × Sg := ci (k < 0 ∨ nI 2 ≤ k) (-(nI 2), σ) (nI 1, σ.1, va_up σ.2.1 k.toNatClampNeg σ.1, va_up σ.2.2 k.toNatClampNeg true)
noncomputable def resF (σ : Sg) (k : Int32) : Int32 × Sg := ci (k < 0 ∨ nI 2 ≤ k) (-(nI 2), σ) (ci (σ.2.2 k.toNatClampNeg = true) (nI 1, σ.2.1 k.toNatClampNeg, σ.2.1, σ.2.2) (-(nI 3), σ))
noncomputable def cntF (σ : Sg) (w : Int32) : Int32 := ci (w = nI 0) (nI (cb (pr σ.1) 12)) (ci (w = nI 1) (nI (mkN (pr σ.1) 12)) (ci (w = nI 2) (nI (hn σ.1)) (ci (w = nI 3) (nI (kpN σ.2.2)) (-(nI 2)))))
/-- the cells of the class -/
def relC (h : ab_H) (σ : Sg) : Prop := h[0]? = some (.inr (4, [.ref 1, .ref 27, .int (nI (kpN σ.2.2)), .ref 28, .ref 30])) ∧ cir h 1 σ.1 ∧ (∃ q, h[27]? = some (.inl (4, 2, .inr (.inr (.inr (.inr q))))) ∧ q 0 = some 32 ∧ q 1 = some 58) ∧ (∃ x1 x2 x3 x4 x5, h[28]? = some (.inr (1, [.ref 29, .int x1, .int x2, .int x3, .int x4, .int x5]))) ∧ (∃ g, h[29]? = some (.inl (0, 64, .inl g))) ∧ (∃ z, h[30]? = some (.inr (2, [.ref 31, .int z]))) ∧ (∃ g, h[31]? = some (.inl (0, 190, .inl g))) ∧ cir h 32 (σ.2.1 0) ∧ cir h 58 (σ.2.1 1)
/-- only the present circle's cells changed -/
theorem relC.cur {h h' : ab_H} {σ : Sg} {c' : Ci} (hR : relC h σ) (hc : cir h' 1 c') (hk : ∀ i, i < 1 ∨ 27 ≤ i → h'[i]? = h[i]?) : relC h' (c', σ.2) := by
  obtain ⟨r0, -, ⟨q, r2, r3⟩, ⟨x1, x2, x3, x4, x5, r4⟩, ⟨g, r5⟩, ⟨z, r6⟩, ⟨g2, r7⟩, r8, r9⟩ := hR
  exact ⟨(hk _ (by omega)).trans r0, hc, ⟨q, (hk _ (by omega)).trans r2, r3⟩, ⟨x1, x2, x3, x4, x5, (hk _ (by omega)).trans r4⟩, ⟨g, (hk _ (by omega)).trans r5⟩, ⟨z, (hk _ (by omega)).trans r6⟩, ⟨g2, (hk _ (by omega)).trans r7⟩, r8.kept (fun i h1 h2 => hk i (by omega)), r9.kept (fun i h1 h2 => hk i (by omega))⟩
