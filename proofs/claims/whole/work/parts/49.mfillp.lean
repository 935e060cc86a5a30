/-! THE REFERENCE'S FILLING in two passes makes what the recursion makes -/
def fld (W : Nat → Nat) (k : Nat) : Prop := k = 1 ∨ W (k / 2) = 4 ∨ W (k / 2) = (if k % 2 = 0 then 3 else 2)
def isW (N : Int64) (f : Nat → Int32) (W : Nat → Nat) : Prop := ∀ k, 1 ≤ k → k < 128 → W k = ci (fld W k) (wayF N f k) 0
noncomputable def fstp (W : Nat → Nat) (k : Nat) (g : Nat → Int32) : Nat → Int32 := if W k = 1 then lev g k (mx g k) else if W k = 2 then lft g (2 * k) (2 * k + 1) else if W k = 3 then lft g (2 * k + 1) (2 * k) else g
noncomputable def FLk (N : Int64) (f : Nat → Int32) (W : Nat → Nat) (k : Nat) : Nat → Int32 := ci (fld W k) (fl N (6 - dep k) k f) f
def PQ (N : Int64) (f : Nat → Int32) (W : Nat → Nat) (m : Nat) (G : Nat → Int32) : Prop := (∀ k, m ≤ k → k < 128 → k / 2 < m → ∀ c, inK k c → G c = FLk N f W k c) ∧ (∀ k, 64 ≤ k → k < m → G (beg k) = f (beg k))
theorem far_apart : ∀ m, m < 128 → ∀ k, k < 128 → (1 ≤ m ∧ m < k ∧ k / 2 < m) → beg k + siz k ≤ beg m ∨ beg m + siz m ≤ beg k := by decide +kernel
theorem W_leaf {N : Int64} {f : Nat → Int32} {W : Nat → Nat} (hW : isW N f W) {m : Nat} (h1 : 64 ≤ m) (hm : m < 128) : W m = 0 := by
  rw [hW m (by omega) hm]
  by_cases q : fld W m
  · rw [ci_t q]
    refine ci_t (Or.inr (fun j hj => ?_))
    have e := (sp_leaf m hm h1).2
    have a := hj.1
    have b := hj.2
    rw [show j = beg m by omega]
  · exact ci_f q
theorem fstp_0 {W : Nat → Nat} {m : Nat} {g : Nat → Int32} (h : W m = 0 ∨ W m = 4) : fstp W m g = g := by
  unfold fstp
  rw [if_neg (by omega), if_neg (by omega), if_neg (by omega)]
theorem fstp_out {W : Nat → Nat} {m c : Nat} {g : Nat → Int32} (h1 : 1 ≤ m) (hm : m < 64) (hc : ¬ inK m c) : fstp W m g c = g c := by
  have c1 : ¬ inK (2 * m) c := fun z => hc ((half_in h1 hm).mpr (Or.inl z))
  have c2 : ¬ inK (2 * m + 1) c := fun z => hc ((half_in h1 hm).mpr (Or.inr z))
  unfold fstp
  by_cases a : W m = 1
  · rw [if_pos a]; exact lev_out hc
  · rw [if_neg a]
    by_cases b : W m = 2
    · rw [if_pos b]; exact lev_out c1
    · rw [if_neg b]
      by_cases d : W m = 3
      · rw [if_pos d]; exact lev_out c2
      · rw [if_neg d]
theorem way_cases (N : Int64) (f : Nat → Int32) (k : Nat) : (wayF N f k = 0 ∧ (¬ hits N k ∨ alk f k)) ∨ (wayF N f k = 1 ∧ ¬ (¬ hits N k ∨ alk f k) ∧ lies N k) ∨ (wayF N f k = 2 ∧ ¬ (¬ hits N k ∨ alk f k) ∧ ¬ lies N k ∧ lies N (2 * k)) ∨ (wayF N f k = 3 ∧ ¬ (¬ hits N k ∨ alk f k) ∧ ¬ lies N k ∧ ¬ lies N (2 * k) ∧ lies N (2 * k + 1)) ∨ (wayF N f k = 4 ∧ ¬ (¬ hits N k ∨ alk f k) ∧ ¬ lies N k ∧ ¬ lies N (2 * k) ∧ ¬ lies N (2 * k + 1)) := by
  unfold wayF
  by_cases a : ¬ hits N k ∨ alk f k
  · exact Or.inl ⟨ci_t a, a⟩
  · rw [ci_f a]
    by_cases b : lies N k
    · exact Or.inr (Or.inl ⟨ci_t b, a, b⟩)
    · rw [ci_f b]
      by_cases c : lies N (2 * k)
      · exact Or.inr (Or.inr (Or.inl ⟨ci_t c, a, b, c⟩))
      · rw [ci_f c]
        by_cases d : lies N (2 * k + 1)
        · exact Or.inr (Or.inr (Or.inr (Or.inl ⟨ci_t d, a, b, c, d⟩)))
        · exact Or.inr (Or.inr (Or.inr (Or.inr ⟨ci_f d, a, b, c, d⟩)))
theorem PQ_step {N : Int64} {f : Nat → Int32} {W : Nat → Nat} (hW : isW N f W) {m : Nat} (h1 : 1 ≤ m) (hm : m < 128) {G : Nat → Int32} (h : PQ N f W (m + 1) G) : PQ N f W m (fstp W m G) := by
  obtain ⟨hP, hQ⟩ := h
  rcases Nat.lt_or_ge m 64 with hm64 | hm64
  · refine ⟨fun k k1 k2 k3 c hc => ?_, fun k k1 k2 => absurd k1 (by omega)⟩
    by_cases e : k = m
    · subst e
      obtain ⟨e1, e2, -⟩ := sp_half k hm64 h1
      obtain ⟨n, hn⟩ : ∃ n, dep k + (n + 1) = 6 := ⟨5 - dep k, by have := (sp_half k hm64 h1).2.2.2.2.2.2.2; omega⟩
      have d1 : dep (2 * k) + n = 6 := by omega
      have d2 : dep (2 * k + 1) + n = 6 := by omega
      have A1 := hP (2 * k) (by omega) (by omega) (by omega)
      have A2 := hP (2 * k + 1) (by omega) (by omega) (by omega)
      have p1 : fld W (2 * k) ↔ (W k = 4 ∨ W k = 3) := by
        unfold fld
        rw [show 2 * k / 2 = k by omega, if_pos (show 2 * k % 2 = 0 by omega)]
        exact ⟨fun z => z.elim (fun y => absurd y (by omega)) id, Or.inr⟩
      have p2 : fld W (2 * k + 1) ↔ (W k = 4 ∨ W k = 2) := by
        unfold fld
        rw [show (2 * k + 1) / 2 = k by omega, if_neg (show ¬ (2 * k + 1) % 2 = 0 by omega)]
        exact ⟨fun z => z.elim (fun y => absurd y (by omega)) id, Or.inr⟩
      unfold FLk at A1 A2 ⊢
      rw [show 6 - dep (2 * k) = n by omega] at A1
      rw [show 6 - dep (2 * k + 1) = n by omega] at A2
      rw [show 6 - dep k = n + 1 by omega]
      have x12 : ∀ {j}, inK (2 * k) j → ¬ inK (2 * k + 1) j := fun p q => half_not h1 hm64 ⟨p, q⟩
      have x21 : ∀ {j}, inK (2 * k + 1) j → ¬ inK (2 * k) j := fun p q => half_not h1 hm64 ⟨q, p⟩
      have o1 := fl_out N n (2 * k) (by omega) (by omega) d1
      have o2 := fl_out N n (2 * k + 1) (by omega) (by omega) d2
      have hc2 := (half_in h1 hm64).mp hc
      have flat : W k = 0 ∨ W k = 1 → ∀ j, inK k j → G j = f j := by
        intro w j hj
        rcases (half_in h1 hm64).mp hj with z | z
        · rw [A1 j z, ci_f (fun y => by have := p1.mp y; omega)]
        · rw [A2 j z, ci_f (fun y => by have := p2.mp y; omega)]
      by_cases q : fld W k
      · have w := (hW k h1 hm).trans (ci_t q)
        rw [ci_t q]
        rcases way_cases N f k with ⟨a, b⟩ | ⟨a, b, b1⟩ | ⟨a, b, b1, b2⟩ | ⟨a, b, b1, b2, b3⟩ | ⟨a, b, b1, b2, b3⟩
        · rw [a] at w
          rw [fstp_0 (Or.inl w), show fl N (n + 1) k f = f from ci_t b]
          exact flat (Or.inl w) c hc
        · rw [a] at w
          rw [show fl N (n + 1) k f = _ from (ci_f b).trans (ci_t b1), show fstp W k G = lev G k (mx G k) from if_pos w, lev_in hc, lev_in hc]
          exact mx_congr h1 hm (flat (Or.inr w))
        · rw [a] at w
          have g1 : ∀ j, inK (2 * k) j → G j = f j := fun j z => by rw [A1 j z, ci_f (fun y => by have := p1.mp y; omega)]
          have g2 : ∀ j, inK (2 * k + 1) j → G j = fl N n (2 * k + 1) f j := fun j z => by rw [A2 j z, ci_t (p2.mpr (Or.inr w))]
          rw [show fl N (n + 1) k f = _ from (ci_f b).trans ((ci_f b1).trans (ci_t b2)), show fstp W k G = lft G (2 * k) (2 * k + 1) from (if_neg (by omega)).trans (if_pos w)]
          unfold lft
          rcases hc2 with z | z
          · rw [lev_in z, lev_in z, mx_congr (f := G) (g := fl N n (2 * k + 1) f) (by omega) (by omega) (fun j hj => by rw [o2 f j (x12 hj)]; exact g1 j hj), mn_congr (by omega) (by omega) g2]
          · rw [lev_out (x21 z), lev_out (x21 z)]
            exact g2 c z
        · rw [a] at w
          have g1 : ∀ j, inK (2 * k) j → G j = fl N n (2 * k) f j := fun j z => by rw [A1 j z, ci_t (p1.mpr (Or.inr w))]
          have g2 : ∀ j, inK (2 * k + 1) j → G j = f j := fun j z => by rw [A2 j z, ci_f (fun y => by have := p2.mp y; omega)]
          rw [show fl N (n + 1) k f = _ from (ci_f b).trans ((ci_f b1).trans ((ci_f b2).trans (ci_t b3))), show fstp W k G = lft G (2 * k + 1) (2 * k) from (if_neg (by omega)).trans ((if_neg (by omega)).trans (if_pos w))]
          unfold lft
          rcases hc2 with z | z
          · rw [lev_out (x12 z), lev_out (x12 z)]
            exact g1 c z
          · rw [lev_in z, lev_in z, mx_congr (f := G) (g := fl N n (2 * k) f) (by omega) (by omega) (fun j hj => by rw [o1 f j (x21 hj)]; exact g2 j hj), mn_congr (by omega) (by omega) g1]
        · rw [a] at w
          rw [fstp_0 (Or.inr w), show fl N (n + 1) k f = _ from (ci_f b).trans ((ci_f b1).trans ((ci_f b2).trans (ci_f b3)))]
          rcases hc2 with z | z
          · rw [A1 c z, ci_t (p1.mpr (Or.inl w)), o2 _ c (x12 z)]
          · rw [A2 c z, ci_t (p2.mpr (Or.inl w))]
            exact fl_loc N n (2 * k + 1) (by omega) (by omega) d2 _ _ (fun j hj => (o1 f j (x21 hj)).symm) c z
      · have w := (hW k h1 hm).trans (ci_f q)
        rw [ci_f q, fstp_0 (Or.inl w)]
        exact flat (Or.inl w) c hc
    · have hf := far_apart m hm k k2 ⟨h1, by omega, k3⟩
      have hn : ¬ inK m c := fun z => by
        have a := z.1
        have b := z.2
        have a' := hc.1
        have b' := hc.2
        omega
      rw [fstp_out h1 hm64 hn]
      exact hP k (by omega) k2 (by omega) c hc
  · have w := W_leaf hW hm64 hm
    rw [fstp_0 (Or.inl w)]
    refine ⟨fun k k1 k2 k3 c hc => ?_, fun k k1 k2 => hQ k k1 (by omega)⟩
    by_cases e : k = m
    · subst e
      obtain ⟨l1, l2⟩ := sp_leaf k hm hm64
      have a := hc.1
      have b := hc.2
      have ec : c = beg k := by omega
      rw [ec, hQ k hm64 (by omega)]
      unfold FLk
      rw [l1]
      by_cases q : fld W k
      · rw [ci_t q]; rfl
      · rw [ci_f q]
    · exact hP k (by omega) k2 (by omega) c hc
theorem PQ_end {N : Int64} {f : Nat → Int32} {W : Nat → Nat} {G : Nat → Int32} (h : PQ N f W 1 G) : ∀ c, c < 64 → G c = fl N 6 1 f c := by
  intro c hc
  rw [h.1 1 (by decide) (by decide) (by decide) c (inK_1 hc)]
  unfold FLk
  rw [ci_t (show fld W 1 from Or.inl rfl)]
  rfl
theorem PQ_start (N : Int64) (f : Nat → Int32) (W : Nat → Nat) : PQ N f W 128 f := ⟨fun k k1 k2 => absurd k1 (by omega), fun _ _ _ => rfl⟩
