/-! WHAT EVERY CALL KEEPS: at most 60 happenings, and no cell with two stamps -/
def good (c : Ci) : Prop := hn c ≤ 60 ∧ apart c
def inv (σ : Sg) : Prop := good σ.1 ∧ ∀ k, k < 2 → good (σ.2.1 k)
theorem apart_sub {c c' : Ci} (ha : apart c) (h : ∀ w, w < 12 → pr c' w = true → pr c w = true ∧ nm c' w = nm c w) : apart c' := by
  intro u v j hu hv hj pu pv bu bv
  obtain ⟨u1, u2⟩ := h u hu pu
  obtain ⟨v1, v2⟩ := h v hv pv
  rw [u2] at bu
  rw [v2] at bv
  exact ha u v j hu hv hj u1 v1 bu bv
theorem apart_two {c c' : Ci} {s t : Nat} {U : Int64} (hs : s < 12) (ht' : t < 12) (ps : pr c s = true)
    (hU : ∀ j, j < 64 → bt U j = true → bt (nm c s) j = true ∨ (pr c t = true ∧ bt (nm c t) j = true))
    (hA : ∀ j, j < 64 → pr c' s = true → bt (nm c' s) j = true → bt U j = true)
    (hB : ∀ j, j < 64 → pr c' t = true → bt (nm c' t) j = true → bt U j = true)
    (hAB : ∀ j, j < 64 → pr c' s = true → pr c' t = true → bt (nm c' s) j = true → bt (nm c' t) j = true → s = t)
    (ho : ∀ w, w ≠ s → w ≠ t → pr c' w = pr c w ∧ nm c' w = nm c w) (ha : apart c) : apart c' := by
  have k1 : ∀ w z j, j < 64 → w < 12 → w ≠ s → w ≠ t → pr c' w = true → bt (nm c' w) j = true → (z = s ∨ z = t) → pr c' z = true → bt (nm c' z) j = true → False := by
    intro w z j hj hw ws wt pw bw hz pz bz
    have bU : bt U j = true := by
      rcases hz with rfl | rfl
      · exact hA j hj pz bz
      · exact hB j hj pz bz
    obtain ⟨e1, e2⟩ := ho w ws wt
    rw [e1] at pw
    rw [e2] at bw
    rcases hU j hj bU with q | ⟨q1, q2⟩
    · exact ws (ha w s j hw hs hj pw ps bw q)
    · exact wt (ha w t j hw ht' hj pw q1 bw q2)
  intro u v j hu hv hj pu pv bu bv
  by_cases us : u = s
  · subst us
    by_cases vs : v = u
    · exact vs.symm
    · by_cases vt : v = t
      · subst vt
        exact hAB j hj pu pv bu bv
      · exact (k1 v u j hj hv vs vt pv bv (Or.inl rfl) pu bu).elim
  · by_cases ut : u = t
    · subst ut
      by_cases vs : v = s
      · subst vs
        exact (hAB j hj pv pu bv bu).symm
      · by_cases vt : v = u
        · exact vt.symm
        · exact (k1 v u j hj hv vs vt pv bv (Or.inr rfl) pu bu).elim
    · by_cases vs : v = s
      · exact (k1 u v j hj hu us ut pu bu (Or.inl vs) pv bv).elim
      · by_cases vt : v = t
        · exact (k1 u v j hj hu us ut pu bu (Or.inr vt) pv bv).elim
        · obtain ⟨e1, e2⟩ := ho u us ut
          obtain ⟨e3, e4⟩ := ho v vs vt
          rw [e1] at pu
          rw [e2] at bu
          rw [e3] at pv
          rw [e4] at bv
          exact ha u v j hu hv hj pu pv bu bv
theorem low_bt {N : Int64} {j : Nat} (h : bt (lowN N) j = true) : bt N j = true ∧ bt (msk (2 * lsN N)) j = true := by
  unfold lowN at h
  rw [bt_and, Bool.and_eq_true] at h
  exact h
theorem upp_bt {N : Int64} {j : Nat} (hj : j < 64) (h : bt (uppN N) j = true) : bt N j = true ∧ bt (msk (2 * lsN N)) j = false := by
  unfold uppN inv64 at h
  rw [bt_and, bt_not _ hj, Bool.and_eq_true, Bool.not_eq_true'] at h
  exact h
theorem stN_some {c : Ci} {x : Int32} {s : Nat} (h : stN c x = some s) : s < 12 ∧ pr c s = true := by
  rcases stamp_or c x with q | ⟨t, t1, rfl, t3⟩
  · rw [stN_no q] at h
    cases h
  · rw [stN_yes t1 t3] at h
    cases h
    exact ⟨t1, t3⟩
theorem frN_some {c : Ci} {t : Nat} (h : frN c = some t) : free1 c t := by
  rcases free_or c with ⟨u, hu⟩ | q
  · rw [frN_yes hu] at h
    cases h
    exact hu
  · rw [frN_no q] at h
    cases h
theorem ci_in {α : Type} {Q : α → Prop} {p : Prop} {a b : α} (ha : p → Q a) (hb : ¬ p → Q b) : Q (ci p a b) := by
  by_cases h : p
  · rw [ci_t h]; exact ha h
  · rw [ci_f h]; exact hb h
theorem good_fork {c : Ci} {x : Int32} (hg : good c) : good (forkO c (stN c x)).2 := by
  cases hx : stN c x with
  | none => exact hg
  | some s =>
    obtain ⟨hs, ps⟩ := stN_some hx
    refine ci_in (Q := fun z : Int32 × Ci => good z.2) (fun _ => hg) (fun _ => ci_in (Q := fun z : Int32 × Ci => good z.2) (fun _ => hg) (fun _ => ?_))
    cases hf : frN c with
    | none => exact hg
    | some t =>
      obtain ⟨f1, f2, -⟩ := frN_some hf
      have hst : t ≠ s := fun z => by rw [z, ps] at f2; cases f2
      refine ⟨hg.1, apart_two (c := c) (s := s) (t := t) (U := nm c s) hs f1 ps (fun j _ q => Or.inl q) (fun j hj _ q => ?_) (fun j hj _ q => ?_) (fun j hj _ _ q1 q2 => ?_) (fun w w1 w2 => ⟨?_, ?_⟩) hg.2⟩
      · have q : bt (va_up _ s (lowN (nm c s)) s) j = true := q
        rw [va_up_self] at q
        exact (low_bt q).1
      · have q : bt (va_up (va_up _ t (uppN (nm c s))) s _ t) j = true := q
        rw [va_up_ne _ _ hst, va_up_self] at q
        exact (upp_bt hj q).1
      · have q1 : bt (va_up _ s (lowN (nm c s)) s) j = true := q1
        have q2 : bt (va_up (va_up _ t (uppN (nm c s))) s _ t) j = true := q2
        rw [va_up_self] at q1
        rw [va_up_ne _ _ hst, va_up_self] at q2
        have a := (low_bt q1).2
        rw [(upp_bt hj q2).2] at a
        cases a
      · show va_up (va_up _ t _) s _ w = _
        rw [va_up_ne _ _ w1, va_up_ne _ _ w2]
      · show va_up (va_up _ t _) s _ w = _
        rw [va_up_ne _ _ w1, va_up_ne _ _ w2]
theorem good_peek {c : Ci} {x : Int32} (hg : good c) : good (peekO c (stN c x)).2 := by
  cases hx : stN c x with
  | none => exact hg
  | some s =>
    obtain ⟨hs, ps⟩ := stN_some hx
    show good (match frN c with
      | none => (-(nI 4), c)
      | some t => (nI t, setS c t true (lN 0) (kn c s) (ht c s))).2
    cases hf : frN c with
    | none => exact hg
    | some t =>
      obtain ⟨f1, f2, -⟩ := frN_some hf
      have hst : t ≠ s := fun z => by rw [z, ps] at f2; cases f2
      refine ⟨hg.1, apart_two (c := c) (s := s) (t := t) (U := nm c s) hs f1 ps (fun j _ q => Or.inl q) (fun j hj _ q => ?_) (fun j hj _ q => ?_) (fun j hj _ _ q1 q2 => ?_) (fun w w1 w2 => ⟨va_up_ne _ _ w2, va_up_ne _ _ w2⟩) hg.2⟩
      · have q : bt (va_up _ t (lN 0) s) j = true := q
        rw [va_up_ne _ _ (fun z => hst z.symm)] at q
        exact q
      · have q : bt (va_up _ t (lN 0) t) j = true := q
        rw [va_up_self, bt_0 j hj] at q
        cases q
      · have q2 : bt (va_up _ t (lN 0) t) j = true := q2
        rw [va_up_self, bt_0 j hj] at q2
        cases q2
theorem va_up_same {α : Type} (f : Nat → α) (s w : Nat) : va_up f s (f s) w = f w := by
  by_cases e : w = s
  · rw [e, va_up_self]
  · rw [va_up_ne _ _ e]
theorem va_up_pr {c : Ci} {s w : Nat} (ps : pr c s = true) : va_up (pr c) s true w = pr c w := by
  by_cases e : w = s
  · rw [e, va_up_self, ps]
  · rw [va_up_ne _ _ e]
theorem good_happen {c : Ci} {x : Int32} (hg : good c) : good (happenO c (stN c x)).2 := by
  cases hx : stN c x with
  | none => exact hg
  | some s =>
    obtain ⟨hs, ps⟩ := stN_some hx
    refine ci_in (Q := fun z : Int32 × Ci => good z.2) (fun _ => hg) (fun _ => ci_in (Q := fun z : Int32 × Ci => good z.2) (fun _ => hg) (fun q => ⟨?_, apart_sub hg.2 (fun w hw pw => ⟨?_, va_up_same (nm c) s w⟩)⟩))
    · show hn c + 1 ≤ 60
      omega
    · have pw : va_up (pr c) s true w = true := pw
      rw [va_up_pr ps] at pw
      exact pw
theorem good_hear {c : Ci} {x y : Int32} (hg : good c) : good (hearO c (stN c x) (stN c y)).2 := by
  cases hx : stN c x with
  | none => exact hg
  | some s =>
    cases hy : stN c y with
    | none => exact hg
    | some t =>
      obtain ⟨hs, ps⟩ := stN_some hx
      refine ci_in (Q := fun z : Int32 × Ci => good z.2) (fun _ => hg) (fun _ => ⟨hg.1, apart_sub hg.2 (fun w hw pw => ⟨?_, va_up_same (nm c) s w⟩)⟩)
      have pw : va_up (pr c) s true w = true := pw
      rw [va_up_pr ps] at pw
      exact pw
theorem good_drop {c : Ci} {x : Int32} (hg : good c) : good (dropO c (stN c x)).2 := by
  cases hx : stN c x with
  | none => exact hg
  | some s =>
    obtain ⟨hs, ps⟩ := stN_some hx
    refine ci_in (Q := fun z : Int32 × Ci => good z.2) (fun _ => ⟨hg.1, apart_sub hg.2 (fun w hw pw => ⟨?_, va_up_same (nm c) s w⟩)⟩) (fun _ => hg)
    have pw : va_up (pr c) s false w = true := pw
    by_cases e : w = s
    · rw [e, va_up_self] at pw
      cases pw
    · rw [va_up_ne _ _ e] at pw
      exact pw
theorem good_join {c : Ci} {x y : Int32} (hg : good c) : good (joinO c (stN c x) (stN c y)).2 := by
  cases hx : stN c x with
  | none => exact hg
  | some s =>
    cases hy : stN c y with
    | none => exact hg
    | some t =>
      obtain ⟨hs, ps⟩ := stN_some hx
      obtain ⟨ht', pt⟩ := stN_some hy
      refine ci_in (Q := fun z : Int32 × Ci => good z.2) (fun _ => hg) (fun hst => ⟨hg.1, apart_two (c := c) (s := s) (t := t) (U := nm c s ||| nm c t) hs ht' ps (fun j _ q => ?_) (fun j hj _ q => ?_) (fun j hj p _ => ?_) (fun j hj _ p _ _ => ?_) (fun w w1 w2 => ⟨?_, ?_⟩) hg.2⟩)
      · rw [bt_or, Bool.or_eq_true] at q
        exact q.elim Or.inl (fun q => Or.inr ⟨pt, q⟩)
      · have q : bt (va_up (va_up _ s (nm c s ||| nm c t)) t _ s) j = true := q
        rw [va_up_ne _ _ hst, va_up_self] at q
        exact q
      · have p : va_up _ t false t = true := p
        rw [va_up_self] at p
        cases p
      · have p : va_up _ t false t = true := p
        rw [va_up_self] at p
        cases p
      · show va_up (va_up _ s _) t _ w = _
        rw [va_up_ne _ _ w2, va_up_ne _ _ w1]
      · show va_up (va_up _ s _) t _ w = _
        rw [va_up_ne _ _ w2, va_up_ne _ _ w1]
theorem good_share {c : Ci} {x y : Int32} (hg : good c) : good (shareO c (stN c x) (stN c y)).2 := by
  cases hx : stN c x with
  | none => exact hg
  | some s =>
    cases hy : stN c y with
    | none => exact hg
    | some t =>
      obtain ⟨hs, ps⟩ := stN_some hx
      obtain ⟨ht', pt⟩ := stN_some hy
      refine ci_in (Q := fun z : Int32 × Ci => good z.2) (fun _ => hg) (fun hst => ci_in (Q := fun z : Int32 × Ci => good z.2) (fun _ => hg) (fun _ => ci_in (Q := fun z : Int32 × Ci => good z.2) (fun _ => hg) (fun _ => ⟨hg.1, apart_two (c := c) (s := s) (t := t) (U := nm c s ||| nm c t) hs ht' ps (fun j _ q => ?_) (fun j hj _ q => ?_) (fun j hj _ q => ?_) (fun j hj _ _ q1 q2 => ?_) (fun w w1 w2 => ⟨?_, ?_⟩) hg.2⟩)))
      · rw [bt_or, Bool.or_eq_true] at q
        exact q.elim Or.inl (fun q => Or.inr ⟨pt, q⟩)
      · have q : bt (va_up (va_up _ s (lowN (nm c s ||| nm c t))) t _ s) j = true := q
        rw [va_up_ne _ _ hst, va_up_self] at q
        exact (low_bt q).1
      · have q : bt (va_up _ t (uppN (nm c s ||| nm c t)) t) j = true := q
        rw [va_up_self] at q
        exact (upp_bt hj q).1
      · have q1 : bt (va_up (va_up _ s (lowN (nm c s ||| nm c t))) t _ s) j = true := q1
        have q2 : bt (va_up _ t (uppN (nm c s ||| nm c t)) t) j = true := q2
        rw [va_up_ne _ _ hst, va_up_self] at q1
        rw [va_up_self] at q2
        have a := (low_bt q1).2
        rw [(upp_bt hj q2).2] at a
        cases a
      · show va_up (va_up _ s _) t _ w = _
        rw [va_up_ne _ _ w2, va_up_ne _ _ w1]
      · show va_up (va_up _ s _) t _ w = _
        rw [va_up_ne _ _ w2, va_up_ne _ _ w1]
theorem inv.cur {σ : Sg} {c : Ci} (h : inv σ) (hc : good c) : inv (c, σ.2) := ⟨hc, h.2⟩
theorem inv_img {σ : Sg} {k : Int32} (h : inv σ) : inv (imgF σ k).2 := by
  refine ci_in (Q := fun z : Int32 × Sg => inv z.2) (fun _ => h) (fun _ => ⟨h.1, fun k' hk' => ?_⟩)
  show good (va_up σ.2.1 _ σ.1 k')
  by_cases e : k' = k.toNatClampNeg
  · rw [e, va_up_self]
    exact h.1
  · rw [va_up_ne _ _ e]
    exact h.2 k' hk'
theorem inv_res {σ : Sg} {k : Int32} (h : inv σ) : inv (resF σ k).2 := by
  refine ci_in (Q := fun z : Int32 × Sg => inv z.2) (fun _ => h) (fun q => ci_in (Q := fun z : Int32 × Sg => inv z.2) (fun _ => ⟨?_, h.2⟩) (fun _ => h))
  rcases pk_ix k (n := 2) (by decide) with z | z | ⟨j, hj, rfl⟩
  · exact absurd (Or.inl z) q
  · exact absurd (Or.inr z) q
  · show good (σ.2.1 (nI j).toNatClampNeg)
    rw [nI_clamp (by omega)]
    exact h.2 j hj
theorem relC.kept {h h' : ab_H} {σ : Sg} (hR : relC h σ) (hk : ∀ i, i < 84 → h'[i]? = h[i]?) : relC h' σ := by
  obtain ⟨r0, r1, ⟨q, r2, r3⟩, ⟨x1, x2, x3, x4, x5, r4⟩, ⟨g, r5⟩, ⟨z, r6⟩, ⟨g2, r7⟩, r8, r9⟩ := hR
  exact ⟨(hk _ (by omega)).trans r0, r1.kept (fun i h1 h2 => hk i (by omega)), ⟨q, (hk _ (by omega)).trans r2, r3⟩, ⟨x1, x2, x3, x4, x5, (hk _ (by omega)).trans r4⟩, ⟨g, (hk _ (by omega)).trans r5⟩, ⟨z, (hk _ (by omega)).trans r6⟩, ⟨g2, (hk _ (by omega)).trans r7⟩, r8.kept (fun i h1 h2 => hk i (by omega)), r9.kept (fun i h1 h2 => hk i (by omega))⟩
theorem relM.kept {h h' : ab_H} {σ : Sg} (hR : relM h σ) (hk : ∀ i, 84 ≤ i → h'[i]? = h[i]?) : relM h' σ := by
  obtain ⟨⟨sz, op, h0⟩, hB, hN, hK, hH, ⟨s1, s2, s3, s4, s5⟩, -⟩ := id hR
  exact hR.cur (c' := σ.1) ⟨sz, op, (hk _ (by omega)).trans h0⟩ (hB.kept (hk _ (by omega))) (hN.kept (hk _ (by omega))) (hK.kept (hk _ (by omega))) (hH.kept (hk _ (by omega))) ⟨s1.kept (hk _ (by omega)), s2.kept (hk _ (by omega)), s3.kept (hk _ (by omega)), s4.kept (hk _ (by omega)), s5.kept (hk _ (by omega))⟩ (fun i hi => hk i (by omega))
