/-! how many bits: Long.bitCount against a plain count -/
def uN (x : Int64) : Nat := x.toBitVec.toNat
theorem uN_lt (x : Int64) : uN x < 18446744073709551616 := x.toBitVec.isLt
theorem uN_and (x y : Int64) : uN (x &&& y) = uN x &&& uN y := by
  unfold uN
  rw [Int64.toBitVec_and, BitVec.toNat_and]
theorem uN_add (x y : Int64) : uN (x + y) = (uN x + uN y) % 18446744073709551616 := by
  unfold uN
  rw [Int64.toBitVec_add, BitVec.toNat_add]
theorem uN_subL {x y : Int64} (h : uN y ≤ uN x) : uN (x - y) = uN x - uN y := by
  have h1 := uN_lt x
  unfold uN at *
  rw [Int64.toBitVec_sub, BitVec.toNat_sub]
  omega
theorem sh_amtU : ∀ i, i < 64 → ((nI i).toInt64.toUInt64 &&& Int64.toUInt64 63).toNat % 64 = i := by decide +kernel
theorem uN_shr (x : Int64) {i : Nat} (hi : i < 64) : uN (x.toUInt64 >>> ((nI i).toInt64.toUInt64 &&& Int64.toUInt64 63)).toInt64 = uN x / 2 ^ i := by
  show (x.toUInt64 >>> ((nI i).toInt64.toUInt64 &&& Int64.toUInt64 63)).toNat = _
  rw [UInt64.toNat_shiftRight, sh_amtU i hi, Nat.shiftRight_eq_div_pow]
  rfl
theorem and_dig {a b c e : Nat} (hb : b < 256) (he : e < 256) : (a * 256 + b) &&& (c * 256 + e) = (a &&& c) * 256 + (b &&& e) := by
  apply Nat.eq_of_testBit_eq
  intro i
  have h8 : (256 : Nat) = 2 ^ 8 := by decide
  have hbe : b &&& e < 2 ^ 8 := Nat.lt_of_le_of_lt Nat.and_le_left (by omega)
  rw [Nat.testBit_and, Nat.mul_comm a, Nat.mul_comm c, Nat.mul_comm (a &&& c), h8, Nat.testBit_two_pow_mul_add _ (by omega), Nat.testBit_two_pow_mul_add _ (by omega), Nat.testBit_two_pow_mul_add _ hbe]
  by_cases hi : i < 8
  · simp [hi, Nat.testBit_and]
  · simp [hi, Nat.testBit_and]
def pop8 (b : Nat) : Nat := b % 2 + b / 2 % 2 + b / 4 % 2 + b / 8 % 2 + b / 16 % 2 + b / 32 % 2 + b / 64 % 2 + b / 128 % 2
def Mk (m : Nat) : Nat → Nat
  | 0 => 0
  | n + 1 => Mk m n * 256 + m
def q1 (b : Nat) : Nat := b - ((b / 2) &&& 85)
def q2 (b : Nat) : Nat := (b &&& 51) + ((b / 4) &&& 51)
def p1 (n x : Nat) : Nat := x - ((x / 2) &&& Mk 85 n)
def p2 (n x : Nat) : Nat := (x &&& Mk 51 n) + ((x / 4) &&& Mk 51 n)
def p3 (n x : Nat) : Nat := (x + x / 16) &&& Mk 15 n
theorem pk_1 : ∀ t, t < 2 → ∀ b, b < 256 → (t * 128 + b / 2) &&& 85 = (b / 2) &&& 85 := by decide +kernel
theorem pk_2 : ∀ t, t < 4 → ∀ b, b < 256 → (t * 64 + b / 4) &&& 51 = (b / 4) &&& 51 := by decide +kernel
theorem pk_3 : ∀ b, b < 256 → q1 b < 256 ∧ q2 (q1 b) < 256 ∧ q2 (q1 b) % 16 ≤ 4 := by decide +kernel
theorem pk_4 : ∀ t, t ≤ 4 → ∀ b, b < 256 → q2 (q1 b) + (t * 16 + q2 (q1 b) / 16) < 256 ∧ (q2 (q1 b) + (t * 16 + q2 (q1 b) / 16)) &&& 15 = pop8 b := by decide +kernel
theorem p1_s {n x b : Nat} (hb : b < 256) : p1 (n + 1) (x * 256 + b) = p1 n x * 256 + q1 b := by
  unfold p1 q1
  have e : (x * 256 + b) / 2 = (x / 2) * 256 + ((x % 2) * 128 + b / 2) := by omega
  rw [e, show Mk 85 (n + 1) = Mk 85 n * 256 + 85 from rfl, and_dig (by omega) (by omega), pk_1 (x % 2) (by omega) b hb]
  have h1 : (x / 2) &&& Mk 85 n ≤ x / 2 := Nat.and_le_left
  have h2 : (b / 2) &&& 85 ≤ b / 2 := Nat.and_le_left
  omega
theorem p2_s {n x b : Nat} (hb : b < 256) : p2 (n + 1) (x * 256 + b) = p2 n x * 256 + q2 b := by
  unfold p2 q2
  have e : (x * 256 + b) / 4 = (x / 4) * 256 + ((x % 4) * 64 + b / 4) := by omega
  rw [e, show Mk 51 (n + 1) = Mk 51 n * 256 + 51 from rfl, and_dig hb (by omega), and_dig (by omega) (by omega), pk_2 (x % 4) (by omega) b hb]
  omega
theorem p12_mod {n x : Nat} (hn : 1 ≤ n) : p2 n (p1 n x) % 16 ≤ 4 := by
  obtain ⟨m, rfl⟩ : ∃ m, n = m + 1 := ⟨n - 1, by omega⟩
  have hb : x % 256 < 256 := Nat.mod_lt _ (by decide)
  have h3 := pk_3 (x % 256) hb
  rw [show x = (x / 256) * 256 + x % 256 by omega, p1_s hb, p2_s h3.1]
  have := h3.2.2
  omega
theorem p12_0 (x : Nat) : p2 0 x = 0 := by
  show (x &&& 0) + ((x / 4) &&& 0) = 0
  rw [Nat.and_zero, Nat.and_zero]
theorem p123_s {n x b : Nat} (hb : b < 256) (hx : n = 0 → x = 0) : p3 (n + 1) (p2 (n + 1) (p1 (n + 1) (x * 256 + b))) = p3 n (p2 n (p1 n x)) * 256 + pop8 b := by
  have h3 := pk_3 b hb
  have ht : p2 n (p1 n x) % 16 ≤ 4 := by
    rcases Nat.eq_zero_or_pos n with z | z
    · subst z
      rw [p12_0]; decide
    · exact p12_mod z
  rw [p1_s hb, p2_s h3.1]
  generalize p2 n (p1 n x) = z at ht
  obtain ⟨h4, h5⟩ := pk_4 (z % 16) ht b hb
  generalize q2 (q1 b) = y at h3 h4 h5
  unfold p3
  have e : z * 256 + y + (z * 256 + y) / 16 = (z + z / 16) * 256 + (y + (z % 16 * 16 + y / 16)) := by omega
  rw [e, show Mk 15 (n + 1) = Mk 15 n * 256 + 15 from rfl, and_dig h4 (by omega), h5]
def dg : Nat → Nat → Nat
  | 0, _ => 0
  | n + 1, x => dg n (x / 256) * 256 + pop8 (x % 256)
def popN : Nat → Nat → Nat
  | 0, _ => 0
  | n + 1, x => popN n (x / 256) + pop8 (x % 256)
theorem p123_dg : ∀ (n x : Nat), x < 256 ^ n → p3 n (p2 n (p1 n x)) = dg n x := by
  intro n
  induction n with
  | zero =>
    intro x _
    show (_ &&& 0) = 0
    rw [Nat.and_zero]
  | succ n ih =>
    intro x hx
    have hb : x % 256 < 256 := Nat.mod_lt _ (by decide)
    have hx2 : x / 256 < 256 ^ n := by
      rw [Nat.pow_succ] at hx
      exact Nat.div_lt_of_lt_mul (by rw [Nat.mul_comm]; exact hx)
    have e : x = (x / 256) * 256 + x % 256 := by omega
    have h1 := p123_s (n := n) (x := x / 256) hb (fun z => by subst z; simpa using hx2)
    rw [← e] at h1
    rw [h1, ih _ hx2]
    rfl
theorem pop8_le : ∀ b, pop8 b ≤ 8 := by
  intro b
  unfold pop8
  omega
def fin7 (w : Nat) : Nat := (((w + w / 256) + (w + w / 256) / 65536) + ((w + w / 256) + (w + w / 256) / 65536) / 4294967296) % 128
theorem fin_dig {g0 g1 g2 g3 g4 g5 g6 g7 W0 W1 W2 W3 W4 W5 W6 W7 : Nat} (b0 : g0 ≤ 8) (b1 : g1 ≤ 8) (b2 : g2 ≤ 8) (b3 : g3 ≤ 8) (b4 : g4 ≤ 8) (b5 : g5 ≤ 8) (b6 : g6 ≤ 8) (b7 : g7 ≤ 8) (h7 : W7 = 0 * 256 + g7) (h6 : W6 = W7 * 256 + g6) (h5 : W5 = W6 * 256 + g5) (h4 : W4 = W5 * 256 + g4) (h3 : W3 = W4 * 256 + g3) (h2 : W2 = W3 * 256 + g2) (h1 : W1 = W2 * 256 + g1) (h0 : W0 = W1 * 256 + g0) : fin7 W0 = 0 + g7 + g6 + g5 + g4 + g3 + g2 + g1 + g0 := by
  unfold fin7
  have a1 : W0 / 256 = W1 := by clear h1 h2 h3 h4 h5 h6 h7; omega
  rw [a1]
  have a2 : (W0 + W1) / 65536 = W2 + W3 := by clear a1 h3 h4 h5 h6 h7; omega
  rw [a2]
  obtain ⟨S0, e0⟩ : ∃ S, S = W0 + W1 + (W2 + W3) := ⟨_, rfl⟩
  obtain ⟨S1, e1⟩ : ∃ S, S = W1 + W2 + (W3 + W4) := ⟨_, rfl⟩
  obtain ⟨S2, e2⟩ : ∃ S, S = W2 + W3 + (W4 + W5) := ⟨_, rfl⟩
  obtain ⟨S3, e3⟩ : ∃ S, S = W3 + W4 + (W5 + W6) := ⟨_, rfl⟩
  obtain ⟨S4, e4⟩ : ∃ S, S = W4 + W5 + (W6 + W7) := ⟨_, rfl⟩
  obtain ⟨S5, e5⟩ : ∃ S, S = W5 + W6 + W7 := ⟨_, rfl⟩
  have f0 : S0 = S1 * 256 + (g0 + g1 + (g2 + g3)) := by clear a1 a2; omega
  have f1 : S1 = S2 * 256 + (g1 + g2 + (g3 + g4)) := by clear a1 a2; omega
  have f2 : S2 = S3 * 256 + (g2 + g3 + (g4 + g5)) := by clear a1 a2; omega
  have f3 : S3 = S4 * 256 + (g3 + g4 + (g5 + g6)) := by clear a1 a2; omega
  have f4 : S4 = S5 * 256 + (g4 + g5 + (g6 + g7)) := by clear a1 a2; omega
  rw [← e0]
  clear e0 e1 e2 e3 e4 e5 a1 a2 h0 h1 h2 h3 h4 h5 h6 h7
  have d1 : S0 / 256 = S1 := by clear f1 f2 f3 f4; omega
  have d2 : S1 / 256 = S2 := by clear f0 f2 f3 f4 d1; omega
  have d3 : S2 / 256 = S3 := by clear f0 f1 f3 f4 d1 d2; omega
  have d4 : S3 / 256 = S4 := by clear f0 f1 f2 f4 d1 d2 d3; omega
  have a3 : S0 / 4294967296 = S4 := by
    rw [show (4294967296 : Nat) = 256 * 256 * 256 * 256 by decide, ← Nat.div_div_eq_div_mul, ← Nat.div_div_eq_div_mul, ← Nat.div_div_eq_div_mul, d1, d2, d3, d4]
  rw [a3]
  clear a3 d1 d2 d3 d4 f1 f2 f3
  omega
theorem dg_lt : ∀ (n x : Nat), dg n x * 16 < 256 ^ n ∨ n = 0 := by
  intro n
  induction n with
  | zero => intro x; exact Or.inr rfl
  | succ n ih =>
    intro x
    left
    have h8 := pop8_le (x % 256)
    show (dg n (x / 256) * 256 + pop8 (x % 256)) * 16 < _
    rw [Nat.pow_succ]
    rcases ih (x / 256) with h | h
    · generalize 256 ^ n = P at h
      omega
    · subst h
      show (0 * 256 + pop8 (x % 256)) * 16 < 256 ^ 0 * 256
      omega
theorem dg_fin (x : Nat) : fin7 (dg 8 x) = popN 8 x := fin_dig (pop8_le _) (pop8_le _) (pop8_le _) (pop8_le _) (pop8_le _) (pop8_le _) (pop8_le _) (pop8_le _) rfl rfl rfl rfl rfl rfl rfl rfl
