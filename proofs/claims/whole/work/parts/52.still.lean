/-! WHERE NOTHING IS FILLED every piece is alike -/
theorem up_in : ∀ k, k < 128 → ∀ j, j ≤ 6 → 1 ≤ k / 2 ^ j → beg (k / 2 ^ j) ≤ beg k ∧ beg k + siz k ≤ beg (k / 2 ^ j) + siz (k / 2 ^ j) := by decide +kernel
theorem up_par : ∀ k, k < 128 → ∀ j, j ≤ 5 → 1 ≤ k / 2 ^ (j + 1) → 1 ≤ k / 2 ∧ beg (k / 2 ^ (j + 1)) ≤ beg (k / 2) ∧ beg (k / 2) + siz (k / 2) ≤ beg (k / 2 ^ (j + 1)) + siz (k / 2 ^ (j + 1)) := by decide +kernel
theorem top_no {N : Int64} {k j : Nat} (hk : k < 128) (hp : isP N k) (hj : j ≤ 5) (h1 : 1 ≤ k / 2 ^ (j + 1)) (hl : lies N (k / 2 ^ (j + 1))) : False := by
  obtain ⟨a1, a2, a3⟩ := up_par k hk j hj h1
  have hm : k / 2 ^ (j + 1) < 128 := Nat.lt_of_le_of_lt (Nat.div_le_self _ _) hk
  have h2 : lies N (k / 2) := (lies_iff a1 (by omega)).mpr fun c hc => (lies_iff h1 hm).mp hl c ⟨Nat.le_trans a2 hc.1, Nat.lt_of_lt_of_le hc.2 a3⟩
  rcases hp.2 with z | z
  · rw [z] at a1
    exact absurd a1 (by decide)
  · exact z h2
theorem still_alike (N : Int64) (f : Nat → Int32) : ∀ n m, 1 ≤ m → m < 128 → dep m + n = 6 → (∀ c, inK m c → fl N n m f c = f c) → ∀ k j, 1 ≤ k → k < 128 → isP N k → j ≤ 6 → k / 2 ^ j = m → alk f k := by
  intro n
  induction n with
  | zero =>
    intro m h1 hm hd _ k j k1 k2 _ _ e
    have m64 : 64 ≤ m := (sp_deep m hm h1).mp (by omega)
    have k64 : 64 ≤ k := by rw [← e] at m64; exact Nat.le_trans m64 (Nat.div_le_self _ _)
    intro c hc
    have l := (sp_leaf k k2 k64).2
    have a := hc.1
    have b := hc.2
    rw [show c = beg k by omega]
  | succ n ih =>
    intro m h1 hm hd hfl k j k1 k2 hp hj e
    have hm64 := dep_lt h1 hm hd
    obtain ⟨e1, e2, -⟩ := sp_half m hm64 h1
    have d1 : dep (2 * m) + n = 6 := by omega
    have d2 : dep (2 * m + 1) + n = 6 := by omega
    have o1 := fl_out N n (2 * m) (by omega) (by omega) d1
    have o2 := fl_out N n (2 * m + 1) (by omega) (by omega) d2
    have x12 : ∀ {j}, inK (2 * m) j → ¬ inK (2 * m + 1) j := fun p q => half_not h1 hm64 ⟨p, q⟩
    have x21 : ∀ {j}, inK (2 * m + 1) j → ¬ inK (2 * m) j := fun p q => half_not h1 hm64 ⟨q, p⟩
    have i1 : ∀ {c}, inK (2 * m) c → inK m c := fun z => (half_in h1 hm64).mpr (Or.inl z)
    have i2 : ∀ {c}, inK (2 * m + 1) c → inK m c := fun z => (half_in h1 hm64).mpr (Or.inr z)
    obtain ⟨u1, u2⟩ := up_in k k2 j hj (by rw [e]; exact h1)
    rw [e] at u1 u2
    have sub : ∀ c, inK k c → inK m c := fun c hc => ⟨Nat.le_trans u1 hc.1, Nat.lt_of_lt_of_le hc.2 u2⟩
    have bk := inK_beg k1 k2
    have kids : ¬ k = m → ∃ i, i ≤ 5 ∧ (k / 2 ^ i = 2 * m ∨ k / 2 ^ i = 2 * m + 1) := by
      intro z
      match j, e, hj with
      | 0, e, _ => exact absurd ((Nat.div_one k).symm.trans e) z
      | i + 1, e, hj =>
        have e3 : k / 2 ^ i / 2 = m := by rw [Nat.div_div_eq_div_mul, ← Nat.pow_succ]; exact e
        exact ⟨i, by omega, by omega⟩
    have one : ∀ i q, k / 2 ^ i = q → i ≤ 5 → 1 ≤ q → lies N q → k = q := by
      intro i q eq hi hq hl
      match i, eq, hi with
      | 0, eq, _ => exact (Nat.div_one k).symm.trans eq
      | i + 1, eq, hi => exact (top_no (j := i) k2 hp (by omega) (by rw [eq]; exact hq) (by rw [eq]; exact hl)).elim
    by_cases q1 : ¬ hits N m ∨ alk f m
    · rcases q1 with q1 | q1
      · exact absurd ((hits_iff h1 hm).mpr ⟨beg k, sub _ bk, (lies_iff k1 k2).mp hp.1 _ bk⟩) q1
      · intro c hc
        rw [q1 c (sub c hc), q1 _ (sub _ bk)]
    · by_cases q3 : lies N m
      · have ek : k = m := by
          rcases Nat.lt_or_ge j 6 with z | z
          · exact one j m e (by omega) h1 q3
          · have : j = 6 := by omega
            subst this
            exact (top_no k2 hp (j := 5) (by omega) (by rw [e]; exact h1) (by rw [e]; exact q3)).elim
        subst ek
        have v : ∀ c, inK k c → f c = mx f k := fun c hc => by
          have := hfl c hc
          rw [show fl N (n + 1) k f = _ from (ci_f q1).trans (ci_t q3), lev_in hc] at this
          exact this.symm
        intro c hc
        rw [v c hc, v _ bk]
      · have nk : ¬ k = m := fun z => q3 (by rw [← z]; exact hp.1)
        obtain ⟨i, hi, hh⟩ := kids nk
        by_cases q4 : lies N (2 * m)
        · have hfl' := hfl
          rw [show fl N (n + 1) m f = _ from (ci_f q1).trans ((ci_f q3).trans (ci_t q4))] at hfl'
          unfold lft at hfl'
          rcases hh with hh | hh
          · have ek := one i _ hh hi (by omega) q4
            have v : ∀ c, inK (2 * m) c → f c = mxI (mx (fl N n (2 * m + 1) f) (2 * m)) (mn (fl N n (2 * m + 1) f) (2 * m + 1)) := fun c hc => by
              have := hfl' c (i1 hc)
              rw [lev_in hc] at this
              exact this.symm
            intro c hc
            rw [v c (by rw [← ek]; exact hc), v _ (by rw [← ek]; exact bk)]
          · refine ih (2 * m + 1) (by omega) (by omega) d2 (fun c hc => ?_) k i k1 k2 hp (by omega) hh
            have := hfl' c (i2 hc)
            rw [lev_out (x21 hc)] at this
            exact this
        · by_cases q5 : lies N (2 * m + 1)
          · have hfl' := hfl
            rw [show fl N (n + 1) m f = _ from (ci_f q1).trans ((ci_f q3).trans ((ci_f q4).trans (ci_t q5)))] at hfl'
            unfold lft at hfl'
            rcases hh with hh | hh
            · refine ih (2 * m) (by omega) (by omega) d1 (fun c hc => ?_) k i k1 k2 hp (by omega) hh
              have := hfl' c (i1 hc)
              rw [lev_out (x12 hc)] at this
              exact this
            · have ek := one i _ hh hi (by omega) q5
              have v : ∀ c, inK (2 * m + 1) c → f c = mxI (mx (fl N n (2 * m) f) (2 * m + 1)) (mn (fl N n (2 * m) f) (2 * m)) := fun c hc => by
                have := hfl' c (i2 hc)
                rw [lev_in hc] at this
                exact this.symm
              intro c hc
              rw [v c (by rw [← ek]; exact hc), v _ (by rw [← ek]; exact bk)]
          · have hfl' := hfl
            rw [show fl N (n + 1) m f = _ from (ci_f q1).trans ((ci_f q3).trans ((ci_f q4).trans (ci_f q5)))] at hfl'
            rcases hh with hh | hh
            · refine ih (2 * m) (by omega) (by omega) d1 (fun c hc => ?_) k i k1 k2 hp (by omega) hh
              have := hfl' c (i1 hc)
              rw [o2 _ c (x12 hc)] at this
              exact this
            · refine ih (2 * m + 1) (by omega) (by omega) d2 (fun c hc => ?_) k i k1 k2 hp (by omega) hh
              have := hfl' c (i2 hc)
              rw [fl_loc N n (2 * m + 1) (by omega) (by omega) d2 _ f (fun j hj => o1 f j (x21 hj)) c hc] at this
              exact this
theorem up_one : ∀ k, k < 128 → 1 ≤ k → dep k ≤ 6 ∧ k / 2 ^ dep k = 1 := by decide +kernel
theorem piece_alike {N : Int64} {f : Nat → Int32} (h : nch N f = 0) {k : Nat} (h1 : 1 ≤ k) (hk : k < 128) (hp : isP N k) : alk f k := by
  obtain ⟨u1, u2⟩ := up_one k hk h1
  refine still_alike N f 6 1 (by decide) (by decide) (by decide) (fun c hc => ?_) k (dep k) h1 hk hp u1 u2
  exact Classical.not_not.mp (cn_zero h c (inK_lt (by decide) (by decide) hc))
/-- raising an alike piece is levelling it one higher -/
theorem lev_rs {f : Nat → Int32} {k : Nat} (h : alk f k) : lev f k (f (beg k) + nI 1) = rsF f (beg k) (beg k + siz k) := by
  funext c
  unfold rsF
  by_cases q : inK k c
  · rw [lev_in q, if_pos (show beg k ≤ c ∧ c < beg k + siz k from q), h c q]
  · rw [lev_out q, if_neg (show ¬ (beg k ≤ c ∧ c < beg k + siz k) from q)]
