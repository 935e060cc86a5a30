/-! bits of sets; the class's fill -/
noncomputable def ci {α : Type} (p : Prop) (a b : α) : α := @ite α p (Classical.propDecidable p) a b
theorem ci_t {α : Type} {p : Prop} {a b : α} (h : p) : ci p a b = a := if_pos h
theorem ci_f {α : Type} {p : Prop} {a b : α} (h : ¬ p) : ci p a b = b := if_neg h
theorem bt_ext {A B : Int64} (h : ∀ j, j < 64 → bt A j = bt B j) : A = B := by
  rw [← Int64.toBitVec_inj]
  apply BitVec.eq_of_getLsbD_eq
  intro j hj
  exact h j hj
theorem bt_and (A B : Int64) (j : Nat) : bt (A &&& B) j = (bt A j && bt B j) := by
  unfold bt
  rw [Int64.toBitVec_and, BitVec.getLsbD_and]
theorem bt_or (A B : Int64) (j : Nat) : bt (A ||| B) j = (bt A j || bt B j) := by
  unfold bt
  rw [Int64.toBitVec_or, BitVec.getLsbD_or]
theorem bt_xor (A B : Int64) (j : Nat) : bt (A ^^^ B) j = (bt A j ^^ bt B j) := by
  unfold bt
  rw [Int64.toBitVec_xor, BitVec.getLsbD_xor]
theorem bt_m1 : ∀ j, j < 64 → bt (-(lN 1)) j = true := by decide +kernel
theorem bt_0 : ∀ j, j < 64 → bt (lN 0) j = false := by decide +kernel
theorem bt_not (A : Int64) {j : Nat} (hj : j < 64) : bt (A ^^^ (-(lN 1))) j = !(bt A j) := by
  rw [bt_xor, bt_m1 j hj]
  cases bt A j <;> rfl
theorem bt_sub (A N : Int64) : (A &&& (N ^^^ (-(lN 1)))) = lN 0 ↔ ∀ j, j < 64 → bt A j = true → bt N j = true := by
  constructor
  · intro h j hj ha
    have h1 : bt (A &&& (N ^^^ (-(lN 1)))) j = bt (lN 0) j := by rw [h]
    rw [bt_and, bt_not N hj, bt_0 j hj, ha] at h1
    cases hn : bt N j with
    | true => rfl
    | false => rw [hn] at h1; cases h1
  · intro h
    apply bt_ext
    intro j hj
    rw [bt_and, bt_not N hj, bt_0 j hj]
    cases ha : bt A j with
    | false => rfl
    | true => rw [h j hj ha]; rfl
theorem bt_cut (A N : Int64) : (A &&& N) = lN 0 ↔ ∀ j, j < 64 → bt A j = true → bt N j = false := by
  constructor
  · intro h j hj ha
    have h1 : bt (A &&& N) j = bt (lN 0) j := by rw [h]
    rw [bt_and, bt_0 j hj, ha] at h1
    exact h1
  · intro h
    apply bt_ext
    intro j hj
    rw [bt_and, bt_0 j hj]
    cases ha : bt A j with
    | false => rfl
    | true => rw [h j hj ha]; rfl
theorem and_comm64 (A B : Int64) : A &&& B = B &&& A := by
  apply bt_ext
  intro j _
  rw [bt_and, bt_and, Bool.and_comm]
theorem inK_lt {k j : Nat} (h1 : 1 ≤ k) (hk : k < 128) (h : inK k j) : j < 64 := by
  have := sp_le k hk h1
  have := h.2
  omega
theorem msk_in {k j : Nat} (h1 : 1 ≤ k) (hk : k < 128) (hj : j < 64) : bt (msk k) j = true ↔ inK k j := by
  rw [msk_bt k hk h1 j hj, Bool.and_eq_true, decide_eq_true_eq, decide_eq_true_eq]
  rfl
theorem lies_iff {N : Int64} {k : Nat} (h1 : 1 ≤ k) (hk : k < 128) : lies N k ↔ ∀ j, inK k j → bt N j = true := by
  unfold lies
  rw [bt_sub]
  exact ⟨fun h j hj => h j (inK_lt h1 hk hj) ((msk_in h1 hk (inK_lt h1 hk hj)).mpr hj), fun h j hj ha => h j ((msk_in h1 hk hj).mp ha)⟩
theorem hits_iff {N : Int64} {k : Nat} (h1 : 1 ≤ k) (hk : k < 128) : hits N k ↔ ∃ j, inK k j ∧ bt N j = true := by
  unfold hits
  rw [bt_cut]
  constructor
  · intro h
    apply Classical.byContradiction
    intro hn
    apply h
    intro j hj ha
    cases hb : bt N j with
    | false => rfl
    | true => exact absurd ⟨j, (msk_in h1 hk hj).mp ha, hb⟩ hn
  · rintro ⟨j, hj, hb⟩ h
    have hl := inK_lt h1 hk hj
    rw [h j hl ((msk_in h1 hk hl).mpr hj)] at hb
    cases hb
def mxI (x y : Int32) : Int32 := if x < y then y else x
def lft (g : Nat → Int32) (own oth : Nat) : Nat → Int32 := lev g own (mxI (mx g own) (mn g oth))
/-- what FILLING a span makes of heights; n: how many levels are below it -/
noncomputable def fl (N : Int64) : Nat → Nat → (Nat → Int32) → Nat → Int32
  | 0, _, f => f
  | n + 1, k, f => ci (¬ hits N k ∨ alk f k) f (ci (lies N k) (lev f k (mx f k)) (ci (lies N (2 * k)) (lft (fl N n (2 * k + 1) f) (2 * k) (2 * k + 1)) (ci (lies N (2 * k + 1)) (lft (fl N n (2 * k) f) (2 * k + 1) (2 * k)) (fl N n (2 * k + 1) (fl N n (2 * k) f)))))
theorem sp_lift (d : Nat) {h : ab_H} {a own oth δ : Nat} {f : Nat → Int32} (ha : a < h.length) (h1 : 1 ≤ own) (hk : own < 128) (h2 : 1 ≤ oth) (hk2 : oth < 128) (e1 : dep own = δ) (e2 : dep oth = δ) {post : ab_P} (hp : post none (hA h a (lft f own oth))) : mCC (d + 3) kForecast_lift [.ref a, .int (nI (beg own)), .int (nI (beg oth)), .int (nI δ)] (hA h a f) post := by
  refine ⟨rfl, ?_⟩
  show ab_W _ _ _ (0, [.ref a, .int (nI (beg own)), .int (nI (beg oth)), .int (nI δ), .retAddr 0], [], (0, 0), hA h a f)
  refine ab_W.go (mm _) 3 (c' := (3, [.ref a, .int (nI (beg own)), .int (nI (beg oth)), .int (nI δ), .retAddr 0], [.int (nI δ), .int (nI (beg own)), .ref a], (0, 0), hA h a f)) rfl ?_
  refine ab_W.call (mm _) (k := 33) (av := [.ref a, .int (nI (beg own)), .int (nI δ)]) (c' := (6, [.ref a, .int (nI (beg own)), .int (nI (beg oth)), .int (nI δ), .retAddr 0], [], (0, 0), hA h a f)) rfl ?_
  rw [← e1]
  refine sp_greatestOf _ (hA_at ha) h1 hk ?_
  rw [e1]
  show ab_W _ _ _ (6, [.ref a, .int (nI (beg own)), .int (nI (beg oth)), .int (nI δ), .retAddr 0], [.int (mx f own)], (0, 0), hA h a f)
  refine ab_W.go (mm _) 3 (c' := (9, [.ref a, .int (nI (beg own)), .int (nI (beg oth)), .int (nI δ), .retAddr 0], [.int (nI δ), .int (nI (beg oth)), .ref a, .int (mx f own)], (0, 0), hA h a f)) rfl ?_
  refine ab_W.call (mm _) (k := 34) (av := [.ref a, .int (nI (beg oth)), .int (nI δ)]) (c' := (12, [.ref a, .int (nI (beg own)), .int (nI (beg oth)), .int (nI δ), .retAddr 0], [.int (mx f own)], (0, 0), hA h a f)) rfl ?_
  rw [← e2]
  refine sp_leastOf _ (hA_at ha) h2 hk2 ?_
  rw [e2]
  show ab_W _ _ _ (12, [.ref a, .int (nI (beg own)), .int (nI (beg oth)), .int (nI δ), .retAddr 0], [.int (mn f oth), .int (mx f own)], (0, 0), hA h a f)
  refine ab_W.go (mm _) 6 (c' := (22, [.ref a, .int (nI (beg own)), .int (nI (beg oth)), .int (nI δ), .int (if (mx f own) < (mn f oth) then (mn f oth) else (mx f own))], [.int (if (mx f own) < (mn f oth) then (mn f oth) else (mx f own)), .int (nI δ), .int (nI (beg own)), .ref a], (0, 0), hA h a f)) rfl ?_
  refine ab_W.call (mm _) (k := 35) (av := [.ref a, .int (nI (beg own)), .int (nI δ), .int (mxI (mx f own) (mn f oth))]) (c' := (25, [.ref a, .int (nI (beg own)), .int (nI (beg oth)), .int (nI δ), .int (mxI (mx f own) (mn f oth))], [], (0, 0), hA h a f)) rfl ?_
  rw [← e1]
  refine sp_level _ ha h1 hk ?_
  rw [e1]
  show ab_W _ _ _ (25, [.ref a, .int (nI (beg own)), .int (nI (beg oth)), .int (nI δ), .int (mxI (mx f own) (mn f oth))], [], (0, 0), hA h a (lft f own oth))
  refine ab_W.ret (mm _) (v := none) rfl ?_
  exact hp
theorem sp_fill {h : ab_H} {a : Nat} {N : Int64} (ha : a < h.length) : ∀ (n k : Nat), 1 ≤ k → k < 128 → dep k + n = 6 → ∀ (D : Nat), n + 4 ≤ D → ∀ (f : Nat → Int32) {post : ab_P}, post none (hA h a (fl N n k f)) → mCC D kForecast_fill [.ref a, .long N, .int (nI (beg k)), .int (nI (dep k))] (hA h a f) post := by
  intro n
  induction n with
  | zero =>
    intro k h1 hk hd D hD f post hp
    obtain ⟨x, rfl⟩ : ∃ x, D = x + 1 := ⟨D - 1, by omega⟩
    refine ⟨rfl, ?_⟩
    show ab_W _ _ _ (0, [.ref a, .long N, .retAddr 0, .int (nI (beg k)), .int (nI (dep k)), .retAddr 0, .retAddr 0], [], (0, 0), hA h a f)
    refine ab_W.go (mm _) 2 (c' := (4, [.ref a, .long N, .retAddr 0, .int (nI (beg k)), .int (nI (dep k)), .retAddr 0, .retAddr 0], [.int (nI 6), .int (nI (dep k))], (0, 0), hA h a f)) rfl ?_
    refine ab_W.itT (mm _) (p := (nI 6) ≤ (nI (dep k))) (c1 := (30, [.ref a, .long N, .retAddr 0, .int (nI (beg k)), .int (nI (dep k)), .retAddr 0, .retAddr 0], [], (0, 0), hA h a f)) (c2 := (7, [.ref a, .long N, .retAddr 0, .int (nI (beg k)), .int (nI (dep k)), .retAddr 0, .retAddr 0], [], (0, 0), hA h a f)) rfl (by rw [show dep k = 6 by omega]; decide) ?_
    refine ab_W.ret (mm _) (v := none) rfl ?_
    exact hp
  | succ n ih =>
    intro k h1 hk hd D hD f post hp
    obtain ⟨x, rfl⟩ : ∃ x, D = x + 5 := ⟨D - 5, by omega⟩
    have h6 := (sp_le k hk h1).1
    have hk64 : k < 64 := by
      rcases Nat.lt_or_ge k 64 with q | q
      · exact q
      · have := (sp_leaf k hk q).1
        omega
    obtain ⟨e1, e2, e3, e4, e5, e6, e7, e8⟩ := sp_half k hk64 h1
    refine ⟨rfl, ?_⟩
    show ab_W _ _ _ (0, [.ref a, .long N, .retAddr 0, .int (nI (beg k)), .int (nI (dep k)), .retAddr 0, .retAddr 0], [], (0, 0), hA h a f)
    refine ab_W.go (mm _) 2 (c' := (4, [.ref a, .long N, .retAddr 0, .int (nI (beg k)), .int (nI (dep k)), .retAddr 0, .retAddr 0], [.int (nI 6), .int (nI (dep k))], (0, 0), hA h a f)) rfl ?_
    refine ab_W.itF (mm _) (p := (nI 6) ≤ (nI (dep k))) (c1 := (30, [.ref a, .long N, .retAddr 0, .int (nI (beg k)), .int (nI (dep k)), .retAddr 0, .retAddr 0], [], (0, 0), hA h a f)) (c2 := (7, [.ref a, .long N, .retAddr 0, .int (nI (beg k)), .int (nI (dep k)), .retAddr 0, .retAddr 0], [], (0, 0), hA h a f)) rfl (fun z => absurd ((nI_leI (by omega) (by omega)).mp z) (by omega)) ?_
    refine ab_W.go (mm _) 3 (c' := (11, [.ref a, .long N, .retAddr 0, .int (nI (beg k)), .int (nI (dep k)), .retAddr 0, .retAddr 0], [.int (nI (dep k)), .int (nI (beg k)), .long N], (0, 0), hA h a f)) rfl ?_
    refine ab_W.call (mm _) (k := 23) (av := [.int (nI (beg k)), .int (nI (dep k))]) (c' := (14, [.ref a, .long N, .retAddr 0, .int (nI (beg k)), .int (nI (dep k)), .retAddr 0, .retAddr 0], [.long N], (0, 0), hA h a f)) rfl ?_
    refine sp_cellsOf (x + 2) h1 hk ?_
    show ab_W _ _ _ (14, [.ref a, .long N, .retAddr 0, .int (nI (beg k)), .int (nI (dep k)), .retAddr 0, .retAddr 0], [.long (msk k), .long N], (0, 0), hA h a f)
    refine ab_W.go (mm _) 3 (c' := (17, [.ref a, .long N, .retAddr 0, .int (nI (beg k)), .int (nI (dep k)), .retAddr 0, .retAddr 0], [.int (lg_cmp (N &&& (msk k)) (lN 0))], (0, 0), hA h a f)) rfl ?_
    refine ab_W.ite (mm _) (p := (lg_cmp (N &&& (msk k)) (lN 0)) = 0) (c1 := (30, [.ref a, .long N, .retAddr 0, .int (nI (beg k)), .int (nI (dep k)), .retAddr 0, .retAddr 0], [], (0, 0), hA h a f)) (c2 := (20, [.ref a, .long N, .retAddr 0, .int (nI (beg k)), .int (nI (dep k)), .retAddr 0, .retAddr 0], [], (0, 0), hA h a f)) rfl (fun q1 => ?_) (fun q1 => ?_)
    · skip
      have q1 := (lg_cmp0 _ _).mp q1
      rw [and_comm64] at q1
      refine ab_W.ret (mm _) (v := none) rfl ?_
      rw [show fl N (n + 1) k f = f from ci_t (Or.inl (fun z => z q1))] at hp
      exact hp
    · skip
      have q1 : hits N k := fun z => q1 ((lg_cmp0 _ _).mpr (by rw [and_comm64]; exact z))
      refine ab_W.go (mm _) 3 (c' := (24, [.ref a, .long N, .retAddr 0, .int (nI (beg k)), .int (nI (dep k)), .retAddr 0, .retAddr 0], [.int (nI (dep k)), .int (nI (beg k)), .ref a], (0, 0), hA h a f)) rfl ?_
      refine ab_W.call (mm _) (k := 32) (av := [.ref a, .int (nI (beg k)), .int (nI (dep k))]) (c' := (27, [.ref a, .long N, .retAddr 0, .int (nI (beg k)), .int (nI (dep k)), .retAddr 0, .retAddr 0], [], (0, 0), hA h a f)) rfl ?_
      refine sp_isAlike (x + 2) (hA_at ha) h1 hk (fun v hv => ?_)
      rcases hv with ⟨q2, rfl⟩ | ⟨q2, rfl⟩
      · skip
        show ab_W _ _ _ (27, [.ref a, .long N, .retAddr 0, .int (nI (beg k)), .int (nI (dep k)), .retAddr 0, .retAddr 0], [.int (nI 1)], (0, 0), hA h a f)
        refine ab_W.itF (mm _) (p := (nI 1) = 0) (c1 := (31, [.ref a, .long N, .retAddr 0, .int (nI (beg k)), .int (nI (dep k)), .retAddr 0, .retAddr 0], [], (0, 0), hA h a f)) (c2 := (30, [.ref a, .long N, .retAddr 0, .int (nI (beg k)), .int (nI (dep k)), .retAddr 0, .retAddr 0], [], (0, 0), hA h a f)) rfl (nI_ne01) ?_
        refine ab_W.ret (mm _) (v := none) rfl ?_
        rw [show fl N (n + 1) k f = f from ci_t (Or.inr q2)] at hp
        exact hp
      · skip
        show ab_W _ _ _ (27, [.ref a, .long N, .retAddr 0, .int (nI (beg k)), .int (nI (dep k)), .retAddr 0, .retAddr 0], [.int (nI 0)], (0, 0), hA h a f)
        refine ab_W.itT (mm _) (p := (nI 0) = 0) (c1 := (31, [.ref a, .long N, .retAddr 0, .int (nI (beg k)), .int (nI (dep k)), .retAddr 0, .retAddr 0], [], (0, 0), hA h a f)) (c2 := (30, [.ref a, .long N, .retAddr 0, .int (nI (beg k)), .int (nI (dep k)), .retAddr 0, .retAddr 0], [], (0, 0), hA h a f)) rfl (nI_0) ?_
        have hno : ¬ (¬ hits N k ∨ alk f k) := fun z => z.elim (fun y => y q1) q2
        refine ab_W.go (mm _) 3 (c' := (35, [.ref a, .long N, .retAddr 0, .int (nI (beg k)), .int (nI (dep k)), .retAddr 0, .retAddr 0], [.int ((nI (dep k)) + (nI 1))], (0, 0), hA h a f)) rfl ?_
        refine ab_W.topi (nI_add (dep k) 1) ?_
        refine ab_W.go (mm _) 3 (c' := (40, [.ref a, .long N, .retAddr 0, .int (nI (beg k)), .int (nI (dep k)), .int (nI ((dep k) + 1)), .retAddr 0], [.int (nI (dep k)), .int (nI (beg k))], (0, 0), hA h a f)) rfl ?_
        refine ab_W.call (mm _) (k := 24) (av := [.int (nI (beg k)), .int (nI (dep k))]) (c' := (43, [.ref a, .long N, .retAddr 0, .int (nI (beg k)), .int (nI (dep k)), .int (nI ((dep k) + 1)), .retAddr 0], [], (0, 0), hA h a f)) rfl ?_
        refine sp_upperFirst (x + 2) h1 hk64 ?_
        show ab_W _ _ _ (43, [.ref a, .long N, .retAddr 0, .int (nI (beg k)), .int (nI (dep k)), .int (nI ((dep k) + 1)), .retAddr 0], [.int (nI (beg (2 * k + 1)))], (0, 0), hA h a f)
        refine ab_W.go (mm _) 4 (c' := (49, [.ref a, .long N, .retAddr 0, .int (nI (beg k)), .int (nI (dep k)), .int (nI ((dep k) + 1)), .int (nI (beg (2 * k + 1)))], [.int (nI (dep k)), .int (nI (beg k)), .long N], (0, 0), hA h a f)) rfl ?_
        refine ab_W.call (mm _) (k := 26) (av := [.long N, .int (nI (beg k)), .int (nI (dep k))]) (c' := (52, [.ref a, .long N, .retAddr 0, .int (nI (beg k)), .int (nI (dep k)), .int (nI (dep k + 1)), .int (nI (beg (2 * k + 1)))], [], (0, 0), hA h a f)) rfl ?_
        refine sp_liesIn (x + 1) h1 hk (fun v hv => ?_)
        rcases hv with ⟨q3, rfl⟩ | ⟨q3, rfl⟩
        · skip
          show ab_W _ _ _ (52, [.ref a, .long N, .retAddr 0, .int (nI (beg k)), .int (nI (dep k)), .int (nI (dep k + 1)), .int (nI (beg (2 * k + 1)))], [.int (nI 1)], (0, 0), hA h a f)
          refine ab_W.itF (mm _) (p := (nI 1) = 0) (c1 := (72, [.ref a, .long N, .retAddr 0, .int (nI (beg k)), .int (nI (dep k)), .int (nI (dep k + 1)), .int (nI (beg (2 * k + 1)))], [], (0, 0), hA h a f)) (c2 := (55, [.ref a, .long N, .retAddr 0, .int (nI (beg k)), .int (nI (dep k)), .int (nI (dep k + 1)), .int (nI (beg (2 * k + 1)))], [], (0, 0), hA h a f)) rfl (nI_ne01) ?_
          refine ab_W.go (mm _) 6 (c' := (63, [.ref a, .long N, .retAddr 0, .int (nI (beg k)), .int (nI (dep k)), .int (nI (dep k + 1)), .int (nI (beg (2 * k + 1)))], [.int (nI (dep k)), .int (nI (beg k)), .ref a, .int (nI (dep k)), .int (nI (beg k)), .ref a], (0, 0), hA h a f)) rfl ?_
          refine ab_W.call (mm _) (k := 33) (av := [.ref a, .int (nI (beg k)), .int (nI (dep k))]) (c' := (66, [.ref a, .long N, .retAddr 0, .int (nI (beg k)), .int (nI (dep k)), .int (nI (dep k + 1)), .int (nI (beg (2 * k + 1)))], [.int (nI (dep k)), .int (nI (beg k)), .ref a], (0, 0), hA h a f)) rfl ?_
          refine sp_greatestOf (x + 2) (hA_at ha) h1 hk ?_
          show ab_W _ _ _ (66, [.ref a, .long N, .retAddr 0, .int (nI (beg k)), .int (nI (dep k)), .int (nI (dep k + 1)), .int (nI (beg (2 * k + 1)))], [.int (mx f k), .int (nI (dep k)), .int (nI (beg k)), .ref a], (0, 0), hA h a f)
          refine ab_W.call (mm _) (k := 35) (av := [.ref a, .int (nI (beg k)), .int (nI (dep k)), .int (mx f k)]) (c' := (69, [.ref a, .long N, .retAddr 0, .int (nI (beg k)), .int (nI (dep k)), .int (nI (dep k + 1)), .int (nI (beg (2 * k + 1)))], [], (0, 0), hA h a f)) rfl ?_
          refine sp_level (x + 2) ha h1 hk ?_
          show ab_W _ _ _ (69, [.ref a, .long N, .retAddr 0, .int (nI (beg k)), .int (nI (dep k)), .int (nI (dep k + 1)), .int (nI (beg (2 * k + 1)))], [], (0, 0), hA h a (lev f k (mx f k)))
          refine ab_W.go (mm _) 1 (c' := (151, [.ref a, .long N, .retAddr 0, .int (nI (beg k)), .int (nI (dep k)), .int (nI (dep k + 1)), .int (nI (beg (2 * k + 1)))], [], (0, 0), hA h a (lev f k (mx f k)))) rfl ?_
          refine ab_W.ret (mm _) (v := none) rfl ?_
          rw [show fl N (n + 1) k f = _ from (ci_f hno).trans (ci_t q3)] at hp
          exact hp
        · skip
          show ab_W _ _ _ (52, [.ref a, .long N, .retAddr 0, .int (nI (beg k)), .int (nI (dep k)), .int (nI (dep k + 1)), .int (nI (beg (2 * k + 1)))], [.int (nI 0)], (0, 0), hA h a f)
          refine ab_W.itT (mm _) (p := (nI 0) = 0) (c1 := (72, [.ref a, .long N, .retAddr 0, .int (nI (beg k)), .int (nI (dep k)), .int (nI (dep k + 1)), .int (nI (beg (2 * k + 1)))], [], (0, 0), hA h a f)) (c2 := (55, [.ref a, .long N, .retAddr 0, .int (nI (beg k)), .int (nI (dep k)), .int (nI (dep k + 1)), .int (nI (beg (2 * k + 1)))], [], (0, 0), hA h a f)) rfl (nI_0) ?_
          refine ab_W.go (mm _) 3 (c' := (76, [.ref a, .long N, .retAddr 0, .int (nI (beg k)), .int (nI (dep k)), .int (nI (dep k + 1)), .int (nI (beg (2 * k + 1)))], [.int (nI (dep k + 1)), .int (nI (beg k)), .long N], (0, 0), hA h a f)) rfl ?_
          rw [← e1]
          show ab_W _ _ _ (76, [.ref a, .long N, .retAddr 0, .int (nI (beg k)), .int (nI (dep k)), .int (nI (dep (2 * k))), .int (nI (beg (2 * k + 1)))], [.int (nI (dep (2 * k))), .int (nI (beg k)), .long N], (0, 0), hA h a f)
          refine ab_W.call (mm _) (k := 26) (av := [.long N, .int (nI (beg k)), .int (nI (dep (2 * k)))]) (c' := (79, [.ref a, .long N, .retAddr 0, .int (nI (beg k)), .int (nI (dep k)), .int (nI (dep (2 * k))), .int (nI (beg (2 * k + 1)))], [], (0, 0), hA h a f)) rfl ?_
          have eb : nI (beg k) = nI (beg (2 * k)) := by rw [e3]
          have ed : nI (dep (2 * k)) = nI (dep (2 * k + 1)) := by rw [e1, e2]
          rw [eb]
          refine sp_liesIn (x + 1) (k := 2 * k) (by omega) (by omega) (fun v hv => ?_)
          rcases hv with ⟨q4, rfl⟩ | ⟨q4, rfl⟩
          · skip
            show ab_W _ _ _ (79, [.ref a, .long N, .retAddr 0, .int (nI (beg (2 * k))), .int (nI (dep k)), .int (nI (dep (2 * k))), .int (nI (beg (2 * k + 1)))], [.int (nI 1)], (0, 0), hA h a f)
            refine ab_W.itF (mm _) (p := (nI 1) = 0) (c1 := (103, [.ref a, .long N, .retAddr 0, .int (nI (beg (2 * k))), .int (nI (dep k)), .int (nI (dep (2 * k))), .int (nI (beg (2 * k + 1)))], [], (0, 0), hA h a f)) (c2 := (82, [.ref a, .long N, .retAddr 0, .int (nI (beg (2 * k))), .int (nI (dep k)), .int (nI (dep (2 * k))), .int (nI (beg (2 * k + 1)))], [], (0, 0), hA h a f)) rfl (nI_ne01) ?_
            refine ab_W.go (mm _) 4 (c' := (88, [.ref a, .long N, .retAddr 0, .int (nI (beg (2 * k))), .int (nI (dep k)), .int (nI (dep (2 * k))), .int (nI (beg (2 * k + 1)))], [.int (nI (dep (2 * k))), .int (nI (beg (2 * k + 1))), .long N, .ref a], (0, 0), hA h a f)) rfl ?_
            refine ab_W.call (mm _) (k := 14) (av := [.ref a, .long N, .int (nI (beg (2 * k + 1))), .int (nI (dep (2 * k)))]) (c' := (91, [.ref a, .long N, .retAddr 0, .int (nI (beg (2 * k))), .int (nI (dep k)), .int (nI (dep (2 * k))), .int (nI (beg (2 * k + 1)))], [], (0, 0), hA h a f)) rfl ?_
            rw [ed]
            refine ih (2 * k + 1) (by omega) (by omega) (by omega) (x + 4) (by omega) f ?_
            rw [← ed]
            show ab_W _ _ _ (91, [.ref a, .long N, .retAddr 0, .int (nI (beg (2 * k))), .int (nI (dep k)), .int (nI (dep (2 * k))), .int (nI (beg (2 * k + 1)))], [], (0, 0), hA h a (fl N n (2 * k + 1) f))
            refine ab_W.go (mm _) 4 (c' := (97, [.ref a, .long N, .retAddr 0, .int (nI (beg (2 * k))), .int (nI (dep k)), .int (nI (dep (2 * k))), .int (nI (beg (2 * k + 1)))], [.int (nI (dep (2 * k))), .int (nI (beg (2 * k + 1))), .int (nI (beg (2 * k))), .ref a], (0, 0), hA h a (fl N n (2 * k + 1) f))) rfl ?_
            refine ab_W.call (mm _) (k := 15) (av := [.ref a, .int (nI (beg (2 * k))), .int (nI (beg (2 * k + 1))), .int (nI (dep (2 * k)))]) (c' := (100, [.ref a, .long N, .retAddr 0, .int (nI (beg (2 * k))), .int (nI (dep k)), .int (nI (dep (2 * k))), .int (nI (beg (2 * k + 1)))], [], (0, 0), hA h a (fl N n (2 * k + 1) f))) rfl ?_
            refine sp_lift (x + 1) ha (own := 2 * k) (oth := 2 * k + 1) (by omega) (by omega) (by omega) (by omega) rfl (by rw [e1, e2]) ?_
            show ab_W _ _ _ (100, [.ref a, .long N, .retAddr 0, .int (nI (beg (2 * k))), .int (nI (dep k)), .int (nI (dep (2 * k))), .int (nI (beg (2 * k + 1)))], [], (0, 0), hA h a (lft (fl N n (2 * k + 1) f) (2 * k) (2 * k + 1)))
            refine ab_W.go (mm _) 1 (c' := (151, [.ref a, .long N, .retAddr 0, .int (nI (beg (2 * k))), .int (nI (dep k)), .int (nI (dep (2 * k))), .int (nI (beg (2 * k + 1)))], [], (0, 0), hA h a (lft (fl N n (2 * k + 1) f) (2 * k) (2 * k + 1)))) rfl ?_
            refine ab_W.ret (mm _) (v := none) rfl ?_
            rw [show fl N (n + 1) k f = _ from (ci_f hno).trans ((ci_f q3).trans (ci_t q4))] at hp
            exact hp
          · skip
            show ab_W _ _ _ (79, [.ref a, .long N, .retAddr 0, .int (nI (beg (2 * k))), .int (nI (dep k)), .int (nI (dep (2 * k))), .int (nI (beg (2 * k + 1)))], [.int (nI 0)], (0, 0), hA h a f)
            refine ab_W.itT (mm _) (p := (nI 0) = 0) (c1 := (103, [.ref a, .long N, .retAddr 0, .int (nI (beg (2 * k))), .int (nI (dep k)), .int (nI (dep (2 * k))), .int (nI (beg (2 * k + 1)))], [], (0, 0), hA h a f)) (c2 := (82, [.ref a, .long N, .retAddr 0, .int (nI (beg (2 * k))), .int (nI (dep k)), .int (nI (dep (2 * k))), .int (nI (beg (2 * k + 1)))], [], (0, 0), hA h a f)) rfl (nI_0) ?_
            refine ab_W.go (mm _) 3 (c' := (108, [.ref a, .long N, .retAddr 0, .int (nI (beg (2 * k))), .int (nI (dep k)), .int (nI (dep (2 * k))), .int (nI (beg (2 * k + 1)))], [.int (nI (dep (2 * k))), .int (nI (beg (2 * k + 1))), .long N], (0, 0), hA h a f)) rfl ?_
            refine ab_W.call (mm _) (k := 26) (av := [.long N, .int (nI (beg (2 * k + 1))), .int (nI (dep (2 * k)))]) (c' := (111, [.ref a, .long N, .retAddr 0, .int (nI (beg (2 * k))), .int (nI (dep k)), .int (nI (dep (2 * k))), .int (nI (beg (2 * k + 1)))], [], (0, 0), hA h a f)) rfl ?_
            rw [ed]
            refine sp_liesIn (x + 1) (k := 2 * k + 1) (by omega) (by omega) (fun v hv => ?_)
            rw [← ed]
            rcases hv with ⟨q5, rfl⟩ | ⟨q5, rfl⟩
            · skip
              show ab_W _ _ _ (111, [.ref a, .long N, .retAddr 0, .int (nI (beg (2 * k))), .int (nI (dep k)), .int (nI (dep (2 * k))), .int (nI (beg (2 * k + 1)))], [.int (nI 1)], (0, 0), hA h a f)
              refine ab_W.itF (mm _) (p := (nI 1) = 0) (c1 := (134, [.ref a, .long N, .retAddr 0, .int (nI (beg (2 * k))), .int (nI (dep k)), .int (nI (dep (2 * k))), .int (nI (beg (2 * k + 1)))], [], (0, 0), hA h a f)) (c2 := (114, [.ref a, .long N, .retAddr 0, .int (nI (beg (2 * k))), .int (nI (dep k)), .int (nI (dep (2 * k))), .int (nI (beg (2 * k + 1)))], [], (0, 0), hA h a f)) rfl (nI_ne01) ?_
              refine ab_W.go (mm _) 4 (c' := (119, [.ref a, .long N, .retAddr 0, .int (nI (beg (2 * k))), .int (nI (dep k)), .int (nI (dep (2 * k))), .int (nI (beg (2 * k + 1)))], [.int (nI (dep (2 * k))), .int (nI (beg (2 * k))), .long N, .ref a], (0, 0), hA h a f)) rfl ?_
              refine ab_W.call (mm _) (k := 14) (av := [.ref a, .long N, .int (nI (beg (2 * k))), .int (nI (dep (2 * k)))]) (c' := (122, [.ref a, .long N, .retAddr 0, .int (nI (beg (2 * k))), .int (nI (dep k)), .int (nI (dep (2 * k))), .int (nI (beg (2 * k + 1)))], [], (0, 0), hA h a f)) rfl ?_
              refine ih (2 * k) (by omega) (by omega) (by omega) (x + 4) (by omega) f ?_
              show ab_W _ _ _ (122, [.ref a, .long N, .retAddr 0, .int (nI (beg (2 * k))), .int (nI (dep k)), .int (nI (dep (2 * k))), .int (nI (beg (2 * k + 1)))], [], (0, 0), hA h a (fl N n (2 * k) f))
              refine ab_W.go (mm _) 4 (c' := (128, [.ref a, .long N, .retAddr 0, .int (nI (beg (2 * k))), .int (nI (dep k)), .int (nI (dep (2 * k))), .int (nI (beg (2 * k + 1)))], [.int (nI (dep (2 * k))), .int (nI (beg (2 * k))), .int (nI (beg (2 * k + 1))), .ref a], (0, 0), hA h a (fl N n (2 * k) f))) rfl ?_
              refine ab_W.call (mm _) (k := 15) (av := [.ref a, .int (nI (beg (2 * k + 1))), .int (nI (beg (2 * k))), .int (nI (dep (2 * k)))]) (c' := (131, [.ref a, .long N, .retAddr 0, .int (nI (beg (2 * k))), .int (nI (dep k)), .int (nI (dep (2 * k))), .int (nI (beg (2 * k + 1)))], [], (0, 0), hA h a (fl N n (2 * k) f))) rfl ?_
              refine sp_lift (x + 1) ha (own := 2 * k + 1) (oth := 2 * k) (by omega) (by omega) (by omega) (by omega) (by rw [e1, e2]) rfl ?_
              show ab_W _ _ _ (131, [.ref a, .long N, .retAddr 0, .int (nI (beg (2 * k))), .int (nI (dep k)), .int (nI (dep (2 * k))), .int (nI (beg (2 * k + 1)))], [], (0, 0), hA h a (lft (fl N n (2 * k) f) (2 * k + 1) (2 * k)))
              refine ab_W.go (mm _) 1 (c' := (151, [.ref a, .long N, .retAddr 0, .int (nI (beg (2 * k))), .int (nI (dep k)), .int (nI (dep (2 * k))), .int (nI (beg (2 * k + 1)))], [], (0, 0), hA h a (lft (fl N n (2 * k) f) (2 * k + 1) (2 * k)))) rfl ?_
              refine ab_W.ret (mm _) (v := none) rfl ?_
              rw [show fl N (n + 1) k f = _ from (ci_f hno).trans ((ci_f q3).trans ((ci_f q4).trans (ci_t q5)))] at hp
              exact hp
            · skip
              show ab_W _ _ _ (111, [.ref a, .long N, .retAddr 0, .int (nI (beg (2 * k))), .int (nI (dep k)), .int (nI (dep (2 * k))), .int (nI (beg (2 * k + 1)))], [.int (nI 0)], (0, 0), hA h a f)
              refine ab_W.itT (mm _) (p := (nI 0) = 0) (c1 := (134, [.ref a, .long N, .retAddr 0, .int (nI (beg (2 * k))), .int (nI (dep k)), .int (nI (dep (2 * k))), .int (nI (beg (2 * k + 1)))], [], (0, 0), hA h a f)) (c2 := (114, [.ref a, .long N, .retAddr 0, .int (nI (beg (2 * k))), .int (nI (dep k)), .int (nI (dep (2 * k))), .int (nI (beg (2 * k + 1)))], [], (0, 0), hA h a f)) rfl (nI_0) ?_
              refine ab_W.go (mm _) 4 (c' := (139, [.ref a, .long N, .retAddr 0, .int (nI (beg (2 * k))), .int (nI (dep k)), .int (nI (dep (2 * k))), .int (nI (beg (2 * k + 1)))], [.int (nI (dep (2 * k))), .int (nI (beg (2 * k))), .long N, .ref a], (0, 0), hA h a f)) rfl ?_
              refine ab_W.call (mm _) (k := 14) (av := [.ref a, .long N, .int (nI (beg (2 * k))), .int (nI (dep (2 * k)))]) (c' := (142, [.ref a, .long N, .retAddr 0, .int (nI (beg (2 * k))), .int (nI (dep k)), .int (nI (dep (2 * k))), .int (nI (beg (2 * k + 1)))], [], (0, 0), hA h a f)) rfl ?_
              refine ih (2 * k) (by omega) (by omega) (by omega) (x + 4) (by omega) f ?_
              show ab_W _ _ _ (142, [.ref a, .long N, .retAddr 0, .int (nI (beg (2 * k))), .int (nI (dep k)), .int (nI (dep (2 * k))), .int (nI (beg (2 * k + 1)))], [], (0, 0), hA h a (fl N n (2 * k) f))
              refine ab_W.go (mm _) 4 (c' := (148, [.ref a, .long N, .retAddr 0, .int (nI (beg (2 * k))), .int (nI (dep k)), .int (nI (dep (2 * k))), .int (nI (beg (2 * k + 1)))], [.int (nI (dep (2 * k))), .int (nI (beg (2 * k + 1))), .long N, .ref a], (0, 0), hA h a (fl N n (2 * k) f))) rfl ?_
              refine ab_W.call (mm _) (k := 14) (av := [.ref a, .long N, .int (nI (beg (2 * k + 1))), .int (nI (dep (2 * k)))]) (c' := (151, [.ref a, .long N, .retAddr 0, .int (nI (beg (2 * k))), .int (nI (dep k)), .int (nI (dep (2 * k))), .int (nI (beg (2 * k + 1)))], [], (0, 0), hA h a (fl N n (2 * k) f))) rfl ?_
              rw [ed]
              refine ih (2 * k + 1) (by omega) (by omega) (by omega) (x + 4) (by omega) (fl N n (2 * k) f) ?_
              rw [← ed]
              show ab_W _ _ _ (151, [.ref a, .long N, .retAddr 0, .int (nI (beg (2 * k))), .int (nI (dep k)), .int (nI (dep (2 * k))), .int (nI (beg (2 * k + 1)))], [], (0, 0), hA h a (fl N n (2 * k + 1) (fl N n (2 * k) f)))
              refine ab_W.ret (mm _) (v := none) rfl ?_
              rw [show fl N (n + 1) k f = _ from (ci_f hno).trans ((ci_f q3).trans ((ci_f q4).trans (ci_f q5)))] at hp
              exact hp
