/-! Long.bitCount, Integer.bitCount; the least cell; the least span around a name -/
def cntB (x : Nat) : Nat → Nat
  | 0 => 0
  | j + 1 => cntB x j + x / 2 ^ j % 2
theorem bt_div (N : Int64) (i : Nat) : (if bt N i = true then 1 else 0) = uN N / 2 ^ i % 2 := by
  have e : bt N i = decide (uN N / 2 ^ i % 2 = 1) := Nat.testBit_eq_decide_div_mod_eq
  rw [e]
  by_cases h : uN N / 2 ^ i % 2 = 1
  · rw [h]; rfl
  · have := Nat.mod_two_eq_zero_or_one (uN N / 2 ^ i)
    rw [if_neg (by simpa using h)]
    omega
theorem cnt_B (N : Int64) : ∀ j, cnt N j = cntB (uN N) j := by
  intro j
  induction j with
  | zero => rfl
  | succ j ih =>
    show cnt N j + (if bt N j = true then 1 else 0) = cntB (uN N) j + uN N / 2 ^ j % 2
    rw [ih, bt_div]
theorem cntB_8 (x : Nat) : ∀ j, cntB x (8 + j) = pop8 (x % 256) + cntB (x / 256) j := by
  intro j
  induction j with
  | zero =>
    show ((((((((0 + x / 2 ^ 0 % 2) + x / 2 ^ 1 % 2) + x / 2 ^ 2 % 2) + x / 2 ^ 3 % 2) + x / 2 ^ 4 % 2) + x / 2 ^ 5 % 2) + x / 2 ^ 6 % 2) + x / 2 ^ 7 % 2) = pop8 (x % 256) + 0
    unfold pop8
    omega
  | succ j ih =>
    show cntB x (8 + j) + x / 2 ^ (8 + j) % 2 = _
    rw [ih, Nat.pow_add, ← Nat.div_div_eq_div_mul]
    show _ = pop8 (x % 256) + (cntB (x / 256) j + x / 256 / 2 ^ j % 2)
    rw [show (2 : Nat) ^ 8 = 256 by decide]
    omega
theorem popN_B : ∀ (n x : Nat), popN n x = cntB x (8 * n) := by
  intro n
  induction n with
  | zero => intro x; rfl
  | succ n ih =>
    intro x
    rw [show 8 * (n + 1) = 8 + 8 * n by omega, cntB_8]
    show popN n (x / 256) + pop8 (x % 256) = _
    rw [ih]
    omega
theorem toI32_low (A : Int64) : (A.toInt32 &&& nI 127) = nI (uN A % 128) := by
  rw [pk_and A.toInt32 7 (by decide)]
  have e : A.toInt32.toBitVec.toNat = uN A % 2 ^ 32 := by
    rw [Int64.toBitVec_toInt32, BitVec.signExtend_eq_setWidth_of_le _ (by decide), BitVec.toNat_setWidth]
    rfl
  rw [e]
  congr 1
  omega
theorem uc1 : uN (lN 6148914691236517205) = Mk 85 8 := by decide +kernel
theorem uc2 : uN (lN 3689348814741910323) = Mk 51 8 := by decide +kernel
theorem uc3 : uN (lN 1085102592571150095) = Mk 15 8 := by decide +kernel
theorem Mk51 : Mk 51 8 = 3689348814741910323 := by decide +kernel
section BC
variable {N A1 A2 A3 A4 A5 A6 : Int64}
theorem bc1 (h : A1 = N - ((N.toUInt64 >>> ((nI 1).toInt64.toUInt64 &&& Int64.toUInt64 63)).toInt64 &&& lN 6148914691236517205)) : uN A1 = p1 8 (uN N) := by
  have e : uN ((N.toUInt64 >>> ((nI 1).toInt64.toUInt64 &&& Int64.toUInt64 63)).toInt64 &&& lN 6148914691236517205) = (uN N / 2 &&& Mk 85 8) := by
    rw [uN_and, uN_shr N (by decide), uc1]
  have hle : (uN N / 2 &&& Mk 85 8) ≤ uN N := Nat.le_trans Nat.and_le_left (Nat.div_le_self _ _)
  rw [h, uN_subL (by rw [e]; exact hle), e]
  rfl
theorem bc2 (h : A2 = (A1 &&& lN 3689348814741910323) + ((A1.toUInt64 >>> ((nI 2).toInt64.toUInt64 &&& Int64.toUInt64 63)).toInt64 &&& lN 3689348814741910323)) : uN A2 = p2 8 (uN A1) ∧ uN A2 ≤ 7378697629483820646 := by
  have e : uN A2 = ((uN A1 &&& Mk 51 8) + ((uN A1 / 4) &&& Mk 51 8)) % 18446744073709551616 := by
    rw [h, uN_add, uN_and, uN_and, uN_shr A1 (by decide), uc2]
  have h1 : uN A1 &&& Mk 51 8 ≤ Mk 51 8 := Nat.and_le_right
  have h2 : (uN A1 / 4) &&& Mk 51 8 ≤ Mk 51 8 := Nat.and_le_right
  rw [Mk51] at h1 h2
  have e2 : uN A2 = (uN A1 &&& Mk 51 8) + ((uN A1 / 4) &&& Mk 51 8) := by
    rw [e, Mk51]
    generalize uN A1 &&& 3689348814741910323 = a at *
    generalize uN A1 / 4 &&& 3689348814741910323 = b at *
    omega
  refine ⟨e2, ?_⟩
  rw [e2, Mk51]
  omega
theorem bc3 (h : A3 = (A2 + (A2.toUInt64 >>> ((nI 4).toInt64.toUInt64 &&& Int64.toUInt64 63)).toInt64) &&& lN 1085102592571150095) (h2 : uN A2 ≤ 7378697629483820646) : uN A3 = p3 8 (uN A2) := by
  rw [h, uN_and, uN_add, uN_shr A2 (by decide), uc3]
  unfold p3
  rw [Nat.mod_eq_of_lt (by omega)]
theorem bcS {A B : Int64} {i k : Nat} (hi : i < 64) (hk : 2 ^ i = k) (h : B = A + (A.toUInt64 >>> ((nI i).toInt64.toUInt64 &&& Int64.toUInt64 63)).toInt64) (hA : uN A < 4611686018427387904) (h0 : 2 ≤ k) : uN B = uN A + uN A / k ∧ uN B < 2 * (uN A + 1) := by
  have hd : uN A / k ≤ uN A := Nat.div_le_self _ _
  have e : uN B = (uN A + uN A / k) % 18446744073709551616 := by rw [h, uN_add, uN_shr A hi, hk]
  rw [Nat.mod_eq_of_lt (by omega)] at e
  exact ⟨e, by omega⟩
end BC
theorem bit_count (d : Nat) {h : ab_H} {N : Int64} {post : ab_P} (hp : post (some (.int (nI (cnt N 64)))) h) : mCC (d + 1) kLong_bitCount [.long N] h post := by
  obtain ⟨A1, h1⟩ : ∃ A : Int64, A = N - ((N.toUInt64 >>> ((nI 1).toInt64.toUInt64 &&& Int64.toUInt64 63)).toInt64 &&& lN 6148914691236517205) := ⟨_, rfl⟩
  obtain ⟨A2, h2⟩ : ∃ A : Int64, A = (A1 &&& lN 3689348814741910323) + ((A1.toUInt64 >>> ((nI 2).toInt64.toUInt64 &&& Int64.toUInt64 63)).toInt64 &&& lN 3689348814741910323) := ⟨_, rfl⟩
  obtain ⟨A3, h3⟩ : ∃ A : Int64, A = (A2 + (A2.toUInt64 >>> ((nI 4).toInt64.toUInt64 &&& Int64.toUInt64 63)).toInt64) &&& lN 1085102592571150095 := ⟨_, rfl⟩
  obtain ⟨A4, h4⟩ : ∃ A : Int64, A = A3 + (A3.toUInt64 >>> ((nI 8).toInt64.toUInt64 &&& Int64.toUInt64 63)).toInt64 := ⟨_, rfl⟩
  obtain ⟨A5, h5⟩ : ∃ A : Int64, A = A4 + (A4.toUInt64 >>> ((nI 16).toInt64.toUInt64 &&& Int64.toUInt64 63)).toInt64 := ⟨_, rfl⟩
  obtain ⟨A6, h6⟩ : ∃ A : Int64, A = A5 + (A5.toUInt64 >>> ((nI 32).toInt64.toUInt64 &&& Int64.toUInt64 63)).toInt64 := ⟨_, rfl⟩
  have e1 := bc1 h1
  have e2 := bc2 h2
  have e3 : uN A3 = dg 8 (uN N) := by
    rw [bc3 h3 e2.2, e2.1, e1]
    exact p123_dg 8 (uN N) (uN_lt N)
  have hl := (dg_lt 8 (uN N)).resolve_right (by decide)
  rw [show (256 : Nat) ^ 8 = 18446744073709551616 by decide, ← e3] at hl
  have e4 := bcS (by decide) rfl h4 (by omega) (by decide)
  have e5 := bcS (by decide) rfl h5 (by omega) (by decide)
  have e6 := bcS (by decide) rfl h6 (by omega) (by decide)
  have fin : (A6.toInt32 &&& nI 127) = nI (cnt N 64) := by
    rw [toI32_low, e6.1, e5.1, e4.1, e3, cnt_B, ← popN_B 8, ← dg_fin]
    rfl
  refine ⟨rfl, ?_⟩
  show ab_W _ _ _ (0, [.long N, .retAddr 0], [], (0, 0), h)
  refine ab_W.go (mm _) 7 (c' := (9, [.long N, .retAddr 0], [.long (N - (((N.toUInt64 >>> ((nI 1).toInt64.toUInt64 &&& Int64.toUInt64 63)).toInt64) &&& (lN 6148914691236517205)))], (0, 0), h)) rfl ?_
  refine ab_W.topl (h1.symm) ?_
  refine ab_W.go (mm _) 10 (c' := (23, [.long A1, .retAddr 0], [.long ((A1 &&& (lN 3689348814741910323)) + (((A1.toUInt64 >>> ((nI 2).toInt64.toUInt64 &&& Int64.toUInt64 63)).toInt64) &&& (lN 3689348814741910323)))], (0, 0), h)) rfl ?_
  refine ab_W.topl (h2.symm) ?_
  refine ab_W.go (mm _) 8 (c' := (33, [.long A2, .retAddr 0], [.long ((A2 + ((A2.toUInt64 >>> ((nI 4).toInt64.toUInt64 &&& Int64.toUInt64 63)).toInt64)) &&& (lN 1085102592571150095))], (0, 0), h)) rfl ?_
  refine ab_W.topl (h3.symm) ?_
  refine ab_W.go (mm _) 6 (c' := (40, [.long A3, .retAddr 0], [.long (A3 + ((A3.toUInt64 >>> ((nI 8).toInt64.toUInt64 &&& Int64.toUInt64 63)).toInt64))], (0, 0), h)) rfl ?_
  refine ab_W.topl (h4.symm) ?_
  refine ab_W.go (mm _) 6 (c' := (47, [.long A4, .retAddr 0], [.long (A4 + ((A4.toUInt64 >>> ((nI 16).toInt64.toUInt64 &&& Int64.toUInt64 63)).toInt64))], (0, 0), h)) rfl ?_
  refine ab_W.topl (h5.symm) ?_
  refine ab_W.go (mm _) 6 (c' := (54, [.long A5, .retAddr 0], [.long (A5 + ((A5.toUInt64 >>> ((nI 32).toInt64.toUInt64 &&& Int64.toUInt64 63)).toInt64))], (0, 0), h)) rfl ?_
  refine ab_W.topl (h6.symm) ?_
  refine ab_W.go (mm _) 5 (c' := (60, [.long A6, .retAddr 0], [.int (A6.toInt32 &&& (nI 127))], (0, 0), h)) rfl ?_
  refine ab_W.topi (fin) ?_
  refine ab_W.retI (mm _) (rt := some .int) (v := nI (cnt N 64)) rfl rfl ?_
  exact hp
/-- the least cell of a name -/
def low (N : Int64) (c : Nat) : Prop := c < 64 ∧ bt N c = true ∧ ∀ j, j < c → bt N j = false
theorem low_ex {N : Int64} (h : ¬ N = lN 0) : ∃ c, low N c := by
  have h1 : ∃ c, c < 64 ∧ bt N c = true := by
    apply Classical.byContradiction
    intro hn
    apply h
    apply bt_ext
    intro j hj
    rw [bt_0 j hj]
    cases hb : bt N j with
    | false => rfl
    | true => exact absurd ⟨j, hj, hb⟩ hn
  obtain ⟨c, ⟨c1, c2⟩, c3⟩ := pk_least (fun c => c < 64 ∧ bt N c = true) h1
  refine ⟨c, c1, c2, fun j hj => ?_⟩
  cases hb : bt N j with
  | false => rfl
  | true => exact absurd ⟨by omega, hb⟩ (c3 j hj)
theorem bt_pow : ∀ c, c < 64 → ∀ j, j < 64 → bt (lN (2 ^ c)) j = decide (j = c) := by decide +kernel
theorem low_and {N : Int64} {c : Nat} (h : low N c) : (N &&& (-N)) = lN (2 ^ c) := by
  obtain ⟨h1, h2, h3⟩ := h
  apply bt_ext
  intro j hj
  rw [bt_and, bt_pow c h1 j hj]
  have e : bt (-N) j = (bt N j ^^ (decide (j < 64) && decide (∃ i, i < j ∧ bt N i = true))) := by
    unfold bt
    rw [Int64.toBitVec_neg, BitVec.getLsbD_neg]
  rw [e, decide_eq_true hj, Bool.true_and]
  rcases Nat.lt_trichotomy j c with q | q | q
  · rw [h3 j q, decide_eq_false (show ¬ j = c by omega)]
    rfl
  · subst q
    rw [h2, decide_eq_true rfl, decide_eq_false]
    · rfl
    · rintro ⟨i, i1, i2⟩
      rw [h3 i i1] at i2
      cases i2
  · rw [decide_eq_false (by omega : ¬ j = c), decide_eq_true ⟨c, q, h2⟩]
    cases bt N j <;> rfl
theorem cnt_pow : ∀ c, c < 64 → cnt (lN (2 ^ c) - lN 1) 64 = c := by decide +kernel
theorem sp_lowestCell (d : Nat) {h : ab_H} {N : Int64} {c : Nat} (hc : low N c) {post : ab_P} (hp : post (some (.int (nI c))) h) : mCC (d + 2) kSpan_lowestCell [.long N] h post := by
  refine ⟨rfl, ?_⟩
  show ab_W _ _ _ (0, [.long N, .retAddr 0], [], (0, 0), h)
  refine ab_W.go (mm _) 4 (c' := (4, [.long N, .retAddr 0], [.long (N &&& (-N))], (0, 0), h)) rfl ?_
  refine ab_W.topl (low_and hc) ?_
  refine ab_W.go (mm _) 2 (c' := (6, [.long N, .retAddr 0], [.long ((lN (2 ^ c)) - (lN 1))], (0, 0), h)) rfl ?_
  refine ab_W.call (mm _) (k := 122) (av := [.long ((lN (2 ^ c)) - (lN 1))]) (c' := (9, [.long N, .retAddr 0], [], (0, 0), h)) rfl ?_
  refine bit_count _ ?_
  show ab_W _ _ _ (9, [.long N, .retAddr 0], [.int (nI (cnt (lN (2 ^ c) - lN 1) 64))], (0, 0), h)
  rw [cnt_pow c hc.1]
  refine ab_W.retI (mm _) (rt := some .int) (v := nI c) rfl rfl ?_
  exact hp
theorem inS_iff {N : Int64} {k : Nat} (h1 : 1 ≤ k) (hk : k < 128) : inS N k ↔ ∀ j, j < 64 → bt N j = true → inK k j := by
  unfold inS
  rw [bt_sub]
  exact ⟨fun h j hj hb => (msk_in h1 hk hj).mp (h j hj hb), fun h j hj hb => (msk_in h1 hk hj).mpr (h j hj hb)⟩
theorem inS_1 (N : Int64) : inS N 1 := (inS_iff (by decide) (by decide)).mpr (fun j hj _ => inK_1 hj)
theorem lsp_ok (N : Int64) : ∀ m, m ≤ 128 → (1 ≤ lsp N m ∧ inS N (lsp N m) ∧ (lsp N m < m ∨ lsp N m = 1) ∧ ∀ k, lsp N m < k → k < m → ¬ inS N k) := by
  intro m
  induction m with
  | zero => intro _; exact ⟨Nat.le_refl 1, inS_1 N, Or.inr rfl, fun k _ h => absurd h (Nat.not_lt_zero k)⟩
  | succ m ih =>
    intro hm
    obtain ⟨i1, i2, i3, i4⟩ := ih (by omega)
    by_cases q : 1 ≤ m ∧ (N &&& (msk m ^^^ (-(lN 1)))) = lN 0
    · rw [show lsp N (m + 1) = m from if_pos q]
      exact ⟨q.1, q.2, Or.inl (by omega), fun k h1 h2 => by omega⟩
    · rw [show lsp N (m + 1) = lsp N m from if_neg q]
      refine ⟨i1, i2, i3.imp (by omega) id, fun k h1 h2 => ?_⟩
      rcases Nat.lt_or_ge k m with z | z
      · exact i4 k h1 z
      · rw [show k = m by omega]
        exact fun w => q ⟨by omega, w⟩
/-- the least span around a name -/
def lsN (N : Int64) : Nat := lsp N 128
theorem lsN_ok (N : Int64) : 1 ≤ lsN N ∧ lsN N < 128 ∧ inS N (lsN N) ∧ ∀ k, lsN N < k → k < 128 → ¬ inS N k := by
  obtain ⟨i1, i2, i3, i4⟩ := lsp_ok N 128 (Nat.le_refl _)
  exact ⟨i1, by unfold lsN; rcases i3 with q | q <;> omega, i2, i4⟩
theorem anc_rng : ∀ δ, δ ≤ 6 → ∀ c, c < 64 → 2 ^ δ ≤ anc c δ ∧ anc c δ < 2 ^ (δ + 1) := by decide +kernel
theorem lsN_anc {N : Int64} {c δ : Nat} (hc : low N c) (hδ : δ ≤ 6) (h1 : inS N (anc c δ)) (h2 : ∀ i, δ < i → i ≤ 6 → ¬ inS N (anc c i)) : lsN N = anc c δ := by
  obtain ⟨k1, k2, k3, k4⟩ := lsN_ok N
  obtain ⟨s1, s2, s3, s4⟩ := sp_le _ k2 k1
  obtain ⟨a1, a2, a3, a4, a5⟩ := anc_ok δ hδ c hc.1
  have hin := (inS_iff k1 k2).mp k3 c hc.1 hc.2.1
  have e := anc_of _ k2 k1 c hc.1 hin.1 hin.2
  have hge : anc c δ ≤ lsN N := by
    rcases Nat.lt_or_ge (lsN N) (anc c δ) with z | z
    · exact absurd h1 (k4 _ z a2)
    · exact z
  rcases Nat.lt_trichotomy (dep (lsN N)) δ with q | q | q
  · have r1 := anc_rng _ s1 c hc.1
    have r2 := anc_rng _ hδ c hc.1
    rw [e] at r1
    have : 2 ^ (dep (lsN N) + 1) ≤ 2 ^ δ := Nat.pow_le_pow_right (by decide) q
    omega
  · rw [← q]; exact e.symm
  · exact absurd (by rw [e]; exact k3) (h2 _ q s1)
theorem pk_m1' (n : Nat) : nI n + 1 + -1 = nI n := by
  have := pk_m1 n
  rw [nI_succ] at this
  exact this
theorem sp_depthAround (d : Nat) {h : ab_H} {N : Int64} (hN : ¬ N = lN 0) {post : ab_P} (hp : post (some (.int (nI (dep (lsN N))))) h) : mCC (d + 3) kSpan_depthAround [.long N] h post := by
  obtain ⟨c, hc⟩ := low_ex hN
  have loop : ∀ δ, δ ≤ 6 → (∀ i, δ < i → i ≤ 6 → ¬ inS N (anc c i)) → ab_W (ab_st (mT kSpan_depthAround) mB mF (mR kSpan_depthAround) none) (mCC (d + 2)) post (8, [.long N, .retAddr 0, .int (nI c), .int (nI δ)], [], (0, 0), h) := by
    intro δ
    induction δ with
    | zero =>
      intro _ hno
      have e := lsN_anc hc (by decide) (by rw [anc_0 c hc.1]; exact inS_1 N) hno
      rw [e, anc_0 c hc.1] at hp
      refine ab_W.go (mm _) 1 (c' := (9, [.long N, .retAddr 0, .int (nI c), .int (nI 0)], [.int (nI 0)], (0, 0), h)) rfl ?_
      refine ab_W.itT (mm _) (p := (nI 0) ≤ 0) (c1 := (40, [.long N, .retAddr 0, .int (nI c), .int (nI 0)], [], (0, 0), h)) (c2 := (12, [.long N, .retAddr 0, .int (nI c), .int (nI 0)], [], (0, 0), h)) rfl ((by decide)) ?_
      refine ab_W.go (mm _) 1 (c' := (41, [.long N, .retAddr 0, .int (nI c), .int (nI 0)], [.int (nI 0)], (0, 0), h)) rfl ?_
      refine ab_W.retI (mm _) (rt := some .int) (v := nI 0) rfl rfl ?_
      exact hp
    | succ δ ih =>
      intro hδ hno
      obtain ⟨a1, a2, a3, a4, a5⟩ := anc_ok (δ + 1) hδ c hc.1
      refine ab_W.go (mm _) 1 (c' := (9, [.long N, .retAddr 0, .int (nI c), .int (nI (δ + 1))], [.int (nI (δ + 1))], (0, 0), h)) rfl ?_
      refine ab_W.itF (mm _) (p := (nI (δ + 1)) ≤ 0) (c1 := (40, [.long N, .retAddr 0, .int (nI c), .int (nI (δ + 1))], [], (0, 0), h)) (c2 := (12, [.long N, .retAddr 0, .int (nI c), .int (nI (δ + 1))], [], (0, 0), h)) rfl (nI_nle (by omega) (by omega)) ?_
      refine ab_W.go (mm _) 3 (c' := (15, [.long N, .retAddr 0, .int (nI c), .int (nI (δ + 1))], [.int (nI (δ + 1)), .int (nI c), .long N], (0, 0), h)) rfl ?_
      refine ab_W.call (mm _) (k := 25) (av := [.int (nI c), .int (nI (δ + 1))]) (c' := (18, [.long N, .retAddr 0, .int (nI c), .int (nI (δ + 1))], [.long N], (0, 0), h)) rfl ?_
      refine sp_firstAround _ hc.1 hδ ?_
      show ab_W _ _ _ (18, [.long N, .retAddr 0, .int (nI c), .int (nI (δ + 1))], [.int (nI (beg (anc c (δ + 1)))), .long N], (0, 0), h)
      refine ab_W.go (mm _) 1 (c' := (19, [.long N, .retAddr 0, .int (nI c), .int (nI (δ + 1))], [.int (nI (δ + 1)), .int (nI (beg (anc c (δ + 1)))), .long N], (0, 0), h)) rfl ?_
      refine ab_W.call (mm _) (k := 23) (av := [.int (nI (beg (anc c (δ + 1)))), .int (nI (δ + 1))]) (c' := (22, [.long N, .retAddr 0, .int (nI c), .int (nI (δ + 1))], [.long N], (0, 0), h)) rfl ?_
      have key : mCC (d + 2) kSpan_cellsOf [.int (nI (beg (anc c (δ + 1)))), .int (nI (dep (anc c (δ + 1))))] h (fun v h' => ab_W (ab_st (mT kSpan_depthAround) mB mF (mR kSpan_depthAround) none) (mCC (d + 2)) post (22, [.long N, .retAddr 0, .int (nI c), .int (nI (δ + 1))], v.toList ++ [.long N], (0, 0), h')) := by
        refine sp_cellsOf _ a1 a2 ?_
        show ab_W _ _ _ (22, [.long N, .retAddr 0, .int (nI c), .int (nI (δ + 1))], [.long (msk (anc c (δ + 1))), .long N], (0, 0), h)
        refine ab_W.go (mm _) 5 (c' := (29, [.long N, .retAddr 0, .int (nI c), .int (nI (δ + 1))], [.int (lg_cmp (N &&& ((msk (anc c (δ + 1))) ^^^ (-(lN 1)))) (lN 0))], (0, 0), h)) rfl ?_
        refine ab_W.ite (mm _) (p := (lg_cmp (N &&& ((msk (anc c (δ + 1))) ^^^ (-(lN 1)))) (lN 0)) = 0) (c1 := (32, [.long N, .retAddr 0, .int (nI c), .int (nI (δ + 1))], [], (0, 0), h)) (c2 := (34, [.long N, .retAddr 0, .int (nI c), .int (nI (δ + 1))], [], (0, 0), h)) rfl (fun q => ?_) (fun q => ?_)
        · skip
          have q : inS N (anc c (δ + 1)) := (lg_cmp0 _ _).mp q
          have e := lsN_anc hc hδ q hno
          rw [e, a3] at hp
          refine ab_W.go (mm _) 1 (c' := (33, [.long N, .retAddr 0, .int (nI c), .int (nI (δ + 1))], [.int (nI (δ + 1))], (0, 0), h)) rfl ?_
          refine ab_W.retI (mm _) (rt := some .int) (v := nI (δ + 1)) rfl rfl ?_
          exact hp
        · skip
          have q : ¬ inS N (anc c (δ + 1)) := fun z => q ((lg_cmp0 _ _).mpr z)
          refine ab_W.go (mm _) 1 (c' := (37, [.long N, .retAddr 0, .int (nI c), .int (nI (δ + 1) + -(nI 1))], [], (0, 0), h)) rfl ?_
          rw [show nI (δ + 1) + -(nI 1) = nI δ from (by rw [nI_succ]; show nI δ + 1 + -1 = nI δ; exact pk_m1' δ)]
          refine ab_W.go (mm _) 1 (c' := (8, [.long N, .retAddr 0, .int (nI c), .int (nI δ)], [], (0, 0), h)) rfl ?_
          exact ih (by omega) (fun i h1 h2 => by
            rcases Nat.lt_or_ge (δ + 1) i with z | z
            · exact hno i z h2
            · rw [show i = δ + 1 by omega]; exact q)
      rw [a3] at key
      exact key
  refine ⟨rfl, ?_⟩
  show ab_W _ _ _ (0, [.long N, .retAddr 0, .retAddr 0, .retAddr 0], [], (0, 0), h)
  refine ab_W.go (mm _) 1 (c' := (1, [.long N, .retAddr 0, .retAddr 0, .retAddr 0], [.long N], (0, 0), h)) rfl ?_
  refine ab_W.call (mm _) (k := 29) (av := [.long N]) (c' := (4, [.long N, .retAddr 0, .retAddr 0, .retAddr 0], [], (0, 0), h)) rfl ?_
  refine sp_lowestCell _ hc ?_
  show ab_W _ _ _ (4, [.long N, .retAddr 0, .retAddr 0, .retAddr 0], [.int (nI c)], (0, 0), h)
  refine ab_W.go (mm _) 3 (c' := (8, [.long N, .retAddr 0, .int (nI c), .int (nI 6)], [], (0, 0), h)) rfl ?_
  exact loop 6 (by decide) (fun i h1 h2 => by omega)
