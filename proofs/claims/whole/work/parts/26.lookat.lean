/-! the class's forecast, whole -/
def rsF (g : Nat → Int32) (b c : Nat) : Nat → Int32 := fun j => if b ≤ j ∧ j < c then g j + nI 1 else g j
theorem rsF_0 (g : Nat → Int32) (b : Nat) : rsF g b b = g := by
  funext j
  exact if_neg (by omega)
theorem rsF_s (g : Nat → Int32) {b c : Nat} (h : b ≤ c) : upd (rsF g b c) c (rsF g b c c + nI 1) = rsF g b (c + 1) := by
  funext j
  unfold upd rsF
  by_cases hj : j = c
  · subst hj
    rw [if_pos rfl, if_neg (by omega), if_pos (by omega)]
  · rw [if_neg hj]
    by_cases h1 : b ≤ j ∧ j < c
    · rw [if_pos h1, if_pos (by omega)]
    · rw [if_neg h1, if_neg (by omega)]
theorem sp_raisePiece (d : Nat) {h : ab_H} {o oh k : Nat} {x1 x2 x3 : Int32} {g : Nat → Int32} (hlen : o < h.length) (hlen2 : oh < h.length) (hne : o ≠ oh) (h1 : 1 ≤ k) (hk : k < 128) {post : ab_P} (hp : post none (hA (hF h o oh x1 (nI (siz k)) x3 (nI (beg k)) (nI (dep k))) oh (rsF g (beg k) (beg k + siz k)))) : mCC (d + 2) kForecast_raisePiece [.ref o] (hA (hF h o oh x1 x2 x3 (nI (beg k)) (nI (dep k))) oh g) post := by
  obtain ⟨s1, s2, s3, s4⟩ := sp_le k hk h1
  have hl : oh < (hF h o oh x1 x2 x3 (nI (beg k)) (nI (dep k))).length := by rw [hF_len]; exact hlen2
  have ho : ∀ f, (hA (hF h o oh x1 x2 x3 (nI (beg k)) (nI (dep k))) oh f)[o]? = some (.inr (1, [.ref oh, .int x1, .int x2, .int x3, .int (nI (beg k)), .int (nI (dep k))])) := fun f => (hA_ne (fun z => hne z.symm)).trans (hF_at hlen)
  have loop : ∀ c, c ≤ beg k + siz k → beg k ≤ c → ab_W (ab_st (mT kForecast_raisePiece) mB mF (mR kForecast_raisePiece) none) (mCC (d + 1)) post (28, [.ref o, .int (nI (beg k + siz k)), .int (nI c)], [], (0, 0), hA (hF h o oh x1 x2 x3 (nI (beg k)) (nI (dep k))) oh (rsF g (beg k) c)) := by
    refine down (beg k + siz k) ?_ ?_
    · intro h2
      refine ab_W.go (mm _) 2 (c' := (30, [.ref o, .int (nI (beg k + siz k)), .int (nI (beg k + siz k))], [.int (nI (beg k + siz k)), .int (nI (beg k + siz k))], (0, 0), hA (hF h o oh x1 x2 x3 (nI (beg k)) (nI (dep k))) oh (rsF g (beg k) (beg k + siz k)))) rfl ?_
      refine ab_W.itT (mm _) (p := (nI (beg k + siz k)) ≤ (nI (beg k + siz k))) (c1 := (49, [.ref o, .int (nI (beg k + siz k)), .int (nI (beg k + siz k))], [], (0, 0), hA (hF h o oh x1 x2 x3 (nI (beg k)) (nI (dep k))) oh (rsF g (beg k) (beg k + siz k)))) (c2 := (33, [.ref o, .int (nI (beg k + siz k)), .int (nI (beg k + siz k))], [], (0, 0), hA (hF h o oh x1 x2 x3 (nI (beg k)) (nI (dep k))) oh (rsF g (beg k) (beg k + siz k)))) rfl ((nI_leI (by omega) (by omega)).mpr (Nat.le_refl _)) ?_
      refine ab_W.go (mm _) 2 (c' := (51, [.ref o, .int (nI (beg k + siz k)), .int (nI (beg k + siz k))], [.ref o, .ref o], (0, 0), hA (hF h o oh x1 x2 x3 (nI (beg k)) (nI (dep k))) oh (rsF g (beg k) (beg k + siz k)))) rfl ?_
      refine ab_W.o (mm _) (ho _) rfl (c' := (54, [.ref o, .int (nI (beg k + siz k)), .int (nI (beg k + siz k))], [.int (nI (dep k)), .ref o], (0, 0), hA (hF h o oh x1 x2 x3 (nI (beg k)) (nI (dep k))) oh (rsF g (beg k) (beg k + siz k)))) rfl ?_
      refine ab_W.call (mm _) (k := 22) (av := [.int (nI (dep k))]) (c' := (57, [.ref o, .int (nI (beg k + siz k)), .int (nI (beg k + siz k))], [.ref o], (0, 0), hA (hF h o oh x1 x2 x3 (nI (beg k)) (nI (dep k))) oh (rsF g (beg k) (beg k + siz k)))) rfl ?_
      refine sp_sizeOf _ s1 ?_
      show ab_W _ _ _ (57, [.ref o, .int (nI (beg k + siz k)), .int (nI (beg k + siz k))], [.int (nI (siz k)), .ref o], (0, 0), hA (hF h o oh x1 x2 x3 (nI (beg k)) (nI (dep k))) oh (rsF g (beg k) (beg k + siz k)))
      refine ab_W.o (mm _) (ho _) rfl (c' := (60, [.ref o, .int (nI (beg k + siz k)), .int (nI (beg k + siz k))], [], (0, 0), (hA (hF h o oh x1 x2 x3 (nI (beg k)) (nI (dep k))) oh (rsF g (beg k) (beg k + siz k))).set o (.inr (1, [.ref oh, .int x1, .int (nI (siz k)), .int x3, .int (nI (beg k)), .int (nI (dep k))])))) rfl ?_
      have e : (hA (hF h o oh x1 x2 x3 (nI (beg k)) (nI (dep k))) oh (rsF g (beg k) (beg k + siz k))).set o (.inr (1, [.ref oh, .int x1, .int (nI (siz k)), .int x3, .int (nI (beg k)), .int (nI (dep k))])) = hA (hF h o oh x1 (nI (siz k)) x3 (nI (beg k)) (nI (dep k))) oh (rsF g (beg k) (beg k + siz k)) := by
        show ((hF h o oh x1 x2 x3 (nI (beg k)) (nI (dep k))).set oh _).set o _ = _
        rw [List.set_comm _ _ (fun z => hne z.symm), hF_hF]
        rfl
      refine ab_W.hp (e) ?_
      show ab_W _ _ _ (60, [.ref o, .int (nI (beg k + siz k)), .int (nI (beg k + siz k))], [], (0, 0), hA (hF h o oh x1 (nI (siz k)) x3 (nI (beg k)) (nI (dep k))) oh (rsF g (beg k) (beg k + siz k)))
      refine ab_W.ret (mm _) (v := none) rfl ?_
      exact hp
    · intro c hc ih h2
      refine ab_W.go (mm _) 2 (c' := (30, [.ref o, .int (nI (beg k + siz k)), .int (nI c)], [.int (nI (beg k + siz k)), .int (nI c)], (0, 0), hA (hF h o oh x1 x2 x3 (nI (beg k)) (nI (dep k))) oh (rsF g (beg k) c))) rfl ?_
      refine ab_W.itF (mm _) (p := (nI (beg k + siz k)) ≤ (nI c)) (c1 := (49, [.ref o, .int (nI (beg k + siz k)), .int (nI c)], [], (0, 0), hA (hF h o oh x1 x2 x3 (nI (beg k)) (nI (dep k))) oh (rsF g (beg k) c))) (c2 := (33, [.ref o, .int (nI (beg k + siz k)), .int (nI c)], [], (0, 0), hA (hF h o oh x1 x2 x3 (nI (beg k)) (nI (dep k))) oh (rsF g (beg k) c))) rfl (fun z => absurd ((nI_leI (by omega) (by omega)).mp z) (by omega)) ?_
      refine ab_W.go (mm _) 1 (c' := (34, [.ref o, .int (nI (beg k + siz k)), .int (nI c)], [.ref o], (0, 0), hA (hF h o oh x1 x2 x3 (nI (beg k)) (nI (dep k))) oh (rsF g (beg k) c))) rfl ?_
      refine ab_W.o (mm _) (ho _) rfl (c' := (37, [.ref o, .int (nI (beg k + siz k)), .int (nI c)], [.ref oh], (0, 0), hA (hF h o oh x1 x2 x3 (nI (beg k)) (nI (dep k))) oh (rsF g (beg k) c))) rfl ?_
      refine ab_W.go (mm _) 2 (c' := (39, [.ref o, .int (nI (beg k + siz k)), .int (nI c)], [.int (nI c), .ref oh, .int (nI c), .ref oh], (0, 0), hA (hF h o oh x1 x2 x3 (nI (beg k)) (nI (dep k))) oh (rsF g (beg k) c))) rfl ?_
      refine ab_W.iald (mm _) (j := c) (hA_at hl) rfl (by omega) rfl rfl ?_
      show ab_W _ _ _ (40, [.ref o, .int (nI (beg k + siz k)), .int (nI c)], [.int (rsF g (beg k) c c), .int (nI c), .ref oh], (0, 0), hA (hF h o oh x1 x2 x3 (nI (beg k)) (nI (dep k))) oh (rsF g (beg k) c))
      refine ab_W.go (mm _) 2 (c' := (42, [.ref o, .int (nI (beg k + siz k)), .int (nI c)], [.int ((rsF g (beg k) c c) + (nI 1)), .int (nI c), .ref oh], (0, 0), hA (hF h o oh x1 x2 x3 (nI (beg k)) (nI (dep k))) oh (rsF g (beg k) c))) rfl ?_
      refine ab_W.iast (mm _) (j := c) (hA_at hl) rfl (by omega) rfl rfl ?_
      refine ab_W.hp (hA_hA.trans (congrArg (hA _ oh) (rsF_s g h2))) ?_
      show ab_W _ _ _ (43, [.ref o, .int (nI (beg k + siz k)), .int (nI c)], [], (0, 0), hA (hF h o oh x1 x2 x3 (nI (beg k)) (nI (dep k))) oh (rsF g (beg k) (c + 1)))
      refine ab_W.go (mm _) 1 (c' := (46, [.ref o, .int (nI (beg k + siz k)), .int (nI c + nI 1)], [], (0, 0), hA (hF h o oh x1 x2 x3 (nI (beg k)) (nI (dep k))) oh (rsF g (beg k) (c + 1)))) rfl ?_
      rw [nI_add c 1]
      refine ab_W.go (mm _) 1 (c' := (28, [.ref o, .int (nI (beg k + siz k)), .int (nI (c + 1))], [], (0, 0), hA (hF h o oh x1 x2 x3 (nI (beg k)) (nI (dep k))) oh (rsF g (beg k) (c + 1)))) rfl ?_
      exact ih (by omega)
  refine ⟨rfl, ?_⟩
  show ab_W _ _ _ (0, [.ref o, .retAddr 0, .retAddr 0], [], (0, 0), hA (hF h o oh x1 x2 x3 (nI (beg k)) (nI (dep k))) oh g)
  refine ab_W.go (mm _) 1 (c' := (1, [.ref o, .retAddr 0, .retAddr 0], [.ref o], (0, 0), hA (hF h o oh x1 x2 x3 (nI (beg k)) (nI (dep k))) oh g)) rfl ?_
  refine ab_W.o (mm _) (ho _) rfl (c' := (4, [.ref o, .retAddr 0, .retAddr 0], [.int (nI (beg k))], (0, 0), hA (hF h o oh x1 x2 x3 (nI (beg k)) (nI (dep k))) oh g)) rfl ?_
  refine ab_W.go (mm _) 1 (c' := (6, [.ref o, .retAddr 0, .retAddr 0], [.int (-(nI 6)), .int (nI (beg k))], (0, 0), hA (hF h o oh x1 x2 x3 (nI (beg k)) (nI (dep k))) oh g)) rfl ?_
  have key : ∀ b, b < 64 → ¬ nI b = -(nI 6) := by decide +kernel
  refine ab_W.itF (mm _) (p := (nI (beg k)) = (-(nI 6))) (c1 := (9, [.ref o, .retAddr 0, .retAddr 0], [], (0, 0), hA (hF h o oh x1 x2 x3 (nI (beg k)) (nI (dep k))) oh g)) (c2 := (10, [.ref o, .retAddr 0, .retAddr 0], [], (0, 0), hA (hF h o oh x1 x2 x3 (nI (beg k)) (nI (dep k))) oh g)) rfl (key _ s4) ?_
  refine ab_W.go (mm _) 1 (c' := (11, [.ref o, .retAddr 0, .retAddr 0], [.ref o], (0, 0), hA (hF h o oh x1 x2 x3 (nI (beg k)) (nI (dep k))) oh g)) rfl ?_
  refine ab_W.o (mm _) (ho _) rfl (c' := (14, [.ref o, .retAddr 0, .retAddr 0], [.int (nI (beg k))], (0, 0), hA (hF h o oh x1 x2 x3 (nI (beg k)) (nI (dep k))) oh g)) rfl ?_
  refine ab_W.go (mm _) 1 (c' := (15, [.ref o, .retAddr 0, .retAddr 0], [.ref o, .int (nI (beg k))], (0, 0), hA (hF h o oh x1 x2 x3 (nI (beg k)) (nI (dep k))) oh g)) rfl ?_
  refine ab_W.o (mm _) (ho _) rfl (c' := (18, [.ref o, .retAddr 0, .retAddr 0], [.int (nI (dep k)), .int (nI (beg k))], (0, 0), hA (hF h o oh x1 x2 x3 (nI (beg k)) (nI (dep k))) oh g)) rfl ?_
  refine ab_W.call (mm _) (k := 22) (av := [.int (nI (dep k))]) (c' := (21, [.ref o, .retAddr 0, .retAddr 0], [.int (nI (beg k))], (0, 0), hA (hF h o oh x1 x2 x3 (nI (beg k)) (nI (dep k))) oh g)) rfl ?_
  refine sp_sizeOf _ s1 ?_
  show ab_W _ _ _ (21, [.ref o, .retAddr 0, .retAddr 0], [.int (nI (siz k)), .int (nI (beg k))], (0, 0), hA (hF h o oh x1 x2 x3 (nI (beg k)) (nI (dep k))) oh g)
  refine ab_W.go (mm _) 1 (c' := (22, [.ref o, .retAddr 0, .retAddr 0], [.int ((nI (beg k)) + (nI (siz k)))], (0, 0), hA (hF h o oh x1 x2 x3 (nI (beg k)) (nI (dep k))) oh g)) rfl ?_
  refine ab_W.topi (nI_add (beg k) (siz k)) ?_
  refine ab_W.go (mm _) 2 (c' := (24, [.ref o, .int (nI ((beg k) + (siz k))), .retAddr 0], [.ref o], (0, 0), hA (hF h o oh x1 x2 x3 (nI (beg k)) (nI (dep k))) oh g)) rfl ?_
  refine ab_W.o (mm _) (ho _) rfl (c' := (27, [.ref o, .int (nI ((beg k) + (siz k))), .retAddr 0], [.int (nI (beg k))], (0, 0), hA (hF h o oh x1 x2 x3 (nI (beg k)) (nI (dep k))) oh g)) rfl ?_
  refine ab_W.go (mm _) 1 (c' := (28, [.ref o, .int (nI ((beg k) + (siz k))), .int (nI (beg k))], [], (0, 0), hA (hF h o oh x1 x2 x3 (nI (beg k)) (nI (dep k))) oh g)) rfl ?_
  have := loop (beg k) (by omega) (by omega)
  rw [rsF_0] at this
  exact this
/-! what filling reads and writes lies in its span -/
theorem mnF_congr {f g : Nat → Int32} {b : Nat} : ∀ n, (∀ j, b ≤ j → j < b + n → f j = g j) → f b = g b → mnF f b n = mnF g b n := by
  intro n
  induction n with
  | zero => intro _ h; exact h
  | succ n ih =>
    intro h h0
    show (if f (b + n) < mnF f b n then f (b + n) else mnF f b n) = _
    rw [ih (fun j h1 h2 => h j h1 (by omega)) h0, h (b + n) (by omega) (by omega)]
    rfl
theorem mxF_congr {f g : Nat → Int32} {b : Nat} : ∀ n, (∀ j, b ≤ j → j < b + n → f j = g j) → f b = g b → mxF f b n = mxF g b n := by
  intro n
  induction n with
  | zero => intro _ h; exact h
  | succ n ih =>
    intro h h0
    show (if mxF f b n < f (b + n) then f (b + n) else mxF f b n) = _
    rw [ih (fun j h1 h2 => h j h1 (by omega)) h0, h (b + n) (by omega) (by omega)]
    rfl
section LOC
variable {f g : Nat → Int32} {k : Nat}
theorem mn_congr (h1 : 1 ≤ k) (hk : k < 128) (h : ∀ j, inK k j → f j = g j) : mn f k = mn g k := mnF_congr _ (fun j a b => h j ⟨a, b⟩) (h _ (inK_beg h1 hk))
theorem mx_congr (h1 : 1 ≤ k) (hk : k < 128) (h : ∀ j, inK k j → f j = g j) : mx f k = mx g k := mxF_congr _ (fun j a b => h j ⟨a, b⟩) (h _ (inK_beg h1 hk))
theorem alk_congr (h1 : 1 ≤ k) (hk : k < 128) (h : ∀ j, inK k j → f j = g j) : alk f k ↔ alk g k := by
  have h0 := h _ (inK_beg h1 hk)
  constructor
  · intro ha j hj
    rw [← h j hj, ← h0]; exact ha j hj
  · intro ha j hj
    rw [h j hj, h0]; exact ha j hj
theorem lev_in {v : Int32} {j : Nat} (h : inK k j) : lev f k v j = v := if_pos h
theorem lev_out {v : Int32} {j : Nat} (h : ¬ inK k j) : lev f k v j = f j := if_neg h
theorem half_in {j : Nat} (h1 : 1 ≤ k) (hk : k < 64) : inK k j ↔ inK (2 * k) j ∨ inK (2 * k + 1) j := by
  obtain ⟨e1, e2, e3, e4, e5, e6, e7, e8⟩ := sp_half k hk h1
  unfold inK
  rw [e3, e4, e5, e6, e7]
  omega
theorem half_not {j : Nat} (h1 : 1 ≤ k) (hk : k < 64) : ¬ (inK (2 * k) j ∧ inK (2 * k + 1) j) := by
  obtain ⟨e1, e2, e3, e4, e5, e6, e7, e8⟩ := sp_half k hk h1
  unfold inK
  rw [e3, e4, e6, e7]
  omega
end LOC
theorem dep_lt {k n : Nat} (h1 : 1 ≤ k) (hk : k < 128) (hd : dep k + (n + 1) = 6) : k < 64 := by
  rcases Nat.lt_or_ge k 64 with q | q
  · exact q
  · have := (sp_leaf k hk q).1
    omega
/-- the five ways -/
theorem fl_cases (N : Int64) (n k : Nat) (f : Nat → Int32) : ((¬ hits N k ∨ alk f k) ∧ fl N (n + 1) k f = f) ∨ (hits N k ∧ ¬ alk f k ∧ lies N k ∧ fl N (n + 1) k f = lev f k (mx f k)) ∨ (hits N k ∧ ¬ alk f k ∧ ¬ lies N k ∧ lies N (2 * k) ∧ fl N (n + 1) k f = lft (fl N n (2 * k + 1) f) (2 * k) (2 * k + 1)) ∨ (hits N k ∧ ¬ alk f k ∧ ¬ lies N k ∧ ¬ lies N (2 * k) ∧ lies N (2 * k + 1) ∧ fl N (n + 1) k f = lft (fl N n (2 * k) f) (2 * k + 1) (2 * k)) ∨ (hits N k ∧ ¬ alk f k ∧ ¬ lies N k ∧ ¬ lies N (2 * k) ∧ ¬ lies N (2 * k + 1) ∧ fl N (n + 1) k f = fl N n (2 * k + 1) (fl N n (2 * k) f)) := by
  by_cases q1 : ¬ hits N k ∨ alk f k
  · exact Or.inl ⟨q1, ci_t q1⟩
  · have q0 : hits N k ∧ ¬ alk f k := ⟨Classical.byContradiction fun z => q1 (Or.inl z), fun z => q1 (Or.inr z)⟩
    refine Or.inr ?_
    have e0 : fl N (n + 1) k f = _ := ci_f q1
    by_cases q3 : lies N k
    · exact Or.inl ⟨q0.1, q0.2, q3, e0.trans (ci_t q3)⟩
    · refine Or.inr ?_
      by_cases q4 : lies N (2 * k)
      · exact Or.inl ⟨q0.1, q0.2, q3, q4, e0.trans ((ci_f q3).trans (ci_t q4))⟩
      · refine Or.inr ?_
        by_cases q5 : lies N (2 * k + 1)
        · exact Or.inl ⟨q0.1, q0.2, q3, q4, q5, e0.trans ((ci_f q3).trans ((ci_f q4).trans (ci_t q5)))⟩
        · exact Or.inr ⟨q0.1, q0.2, q3, q4, q5, e0.trans ((ci_f q3).trans ((ci_f q4).trans (ci_f q5)))⟩
theorem fl_out (N : Int64) : ∀ (n k : Nat), 1 ≤ k → k < 128 → dep k + n = 6 → ∀ (f : Nat → Int32) (j : Nat), ¬ inK k j → fl N n k f j = f j := by
  intro n
  induction n with
  | zero => intro k _ _ _ f j _; rfl
  | succ n ih =>
    intro k h1 hk hd f j hj
    have hk64 := dep_lt h1 hk hd
    obtain ⟨e1, e2, e3, e4, e5, e6, e7, e8⟩ := sp_half k hk64 h1
    have hh := half_in (j := j) h1 hk64
    have n1 : ¬ inK (2 * k) j := fun z => hj (hh.mpr (Or.inl z))
    have n2 : ¬ inK (2 * k + 1) j := fun z => hj (hh.mpr (Or.inr z))
    have i1 := ih (2 * k) (by omega) (by omega) (by omega)
    have i2 := ih (2 * k + 1) (by omega) (by omega) (by omega)
    rcases fl_cases N n k f with ⟨-, e⟩ | ⟨-, -, -, e⟩ | ⟨-, -, -, -, e⟩ | ⟨-, -, -, -, -, e⟩ | ⟨-, -, -, -, -, e⟩
    · rw [e]
    · rw [e, lev_out hj]
    · rw [e]; unfold lft; rw [lev_out n1, i2 f j n2]
    · rw [e]; unfold lft; rw [lev_out n2, i1 f j n1]
    · rw [e, i2 _ j n2, i1 f j n1]
theorem fl_loc (N : Int64) : ∀ (n k : Nat), 1 ≤ k → k < 128 → dep k + n = 6 → ∀ (f g : Nat → Int32), (∀ j, inK k j → f j = g j) → ∀ j, inK k j → fl N n k f j = fl N n k g j := by
  intro n
  induction n with
  | zero => intro k _ _ _ f g h j hj; exact h j hj
  | succ n ih =>
    intro k h1 hk hd f g h j hj
    have hk64 := dep_lt h1 hk hd
    obtain ⟨e1, e2, e3, e4, e5, e6, e7, e8⟩ := sp_half k hk64 h1
    have k1 : 1 ≤ 2 * k := by omega
    have k2 : 2 * k < 128 := by omega
    have k3 : 1 ≤ 2 * k + 1 := by omega
    have k4 : 2 * k + 1 < 128 := by omega
    have d1 : dep (2 * k) + n = 6 := by omega
    have d2 : dep (2 * k + 1) + n = 6 := by omega
    have a1 : ∀ j, inK (2 * k) j → f j = g j := fun j hj => h j ((half_in h1 hk64).mpr (Or.inl hj))
    have a2 : ∀ j, inK (2 * k + 1) j → f j = g j := fun j hj => h j ((half_in h1 hk64).mpr (Or.inr hj))
    have x12 : ∀ {j}, inK (2 * k) j → ¬ inK (2 * k + 1) j := fun p q => half_not h1 hk64 ⟨p, q⟩
    have x21 : ∀ {j}, inK (2 * k + 1) j → ¬ inK (2 * k) j := fun p q => half_not h1 hk64 ⟨q, p⟩
    have hal := alk_congr h1 hk h
    have u1 := ih (2 * k) k1 k2 d1 f g a1
    have u2 := ih (2 * k + 1) k3 k4 d2 f g a2
    have o1 := fl_out N n (2 * k) k1 k2 d1
    have o2 := fl_out N n (2 * k + 1) k3 k4 d2
    by_cases q1 : ¬ hits N k ∨ alk f k
    · rw [show fl N (n + 1) k f = f from ci_t q1, show fl N (n + 1) k g = g from ci_t (q1.imp id hal.mp)]
      exact h j hj
    · have q1' : ¬ (¬ hits N k ∨ alk g k) := fun z => q1 (z.imp id hal.mpr)
      by_cases q3 : lies N k
      · rw [show fl N (n + 1) k f = _ from (ci_f q1).trans (ci_t q3), show fl N (n + 1) k g = _ from (ci_f q1').trans (ci_t q3), lev_in hj, lev_in hj]
        exact mx_congr h1 hk h
      · by_cases q4 : lies N (2 * k)
        · rw [show fl N (n + 1) k f = _ from (ci_f q1).trans ((ci_f q3).trans (ci_t q4)), show fl N (n + 1) k g = _ from (ci_f q1').trans ((ci_f q3).trans (ci_t q4))]
          unfold lft
          rcases (half_in h1 hk64).mp hj with z | z
          · rw [lev_in z, lev_in z, mx_congr (f := fl N n (2 * k + 1) f) (g := fl N n (2 * k + 1) g) k1 k2 (fun j hj => by rw [o2 f j (x12 hj), o2 g j (x12 hj)]; exact a1 j hj), mn_congr k3 k4 u2]
          · rw [lev_out (x21 z), lev_out (x21 z)]
            exact u2 j z
        · by_cases q5 : lies N (2 * k + 1)
          · rw [show fl N (n + 1) k f = _ from (ci_f q1).trans ((ci_f q3).trans ((ci_f q4).trans (ci_t q5))), show fl N (n + 1) k g = _ from (ci_f q1').trans ((ci_f q3).trans ((ci_f q4).trans (ci_t q5)))]
            unfold lft
            rcases (half_in h1 hk64).mp hj with z | z
            · rw [lev_out (x12 z), lev_out (x12 z)]
              exact u1 j z
            · rw [lev_in z, lev_in z, mx_congr (f := fl N n (2 * k) f) (g := fl N n (2 * k) g) k3 k4 (fun j hj => by rw [o1 f j (x21 hj), o1 g j (x21 hj)]; exact a2 j hj), mn_congr k1 k2 u1]
          · rw [show fl N (n + 1) k f = _ from (ci_f q1).trans ((ci_f q3).trans ((ci_f q4).trans (ci_f q5))), show fl N (n + 1) k g = _ from (ci_f q1').trans ((ci_f q3).trans ((ci_f q4).trans (ci_f q5)))]
            rcases (half_in h1 hk64).mp hj with z | z
            · rw [o2 _ j (x12 z), o2 _ j (x12 z)]
              exact u1 j z
            · refine ih (2 * k + 1) k3 k4 d2 _ _ (fun j hj => ?_) j z
              rw [o1 f j (x21 hj), o1 g j (x21 hj)]
              exact a2 j hj
theorem inK_1 {j : Nat} (h : j < 64) : inK 1 j := by
  have e1 : beg 1 = 0 := by decide
  have e2 : siz 1 = 64 := by decide
  unfold inK
  rw [e1, e2]
  omega
theorem fl_all {N : Int64} {f g : Nat → Int32} (h : ∀ c, c < 64 → f c = g c) : ∀ c, c < 64 → fl N 6 1 f c = fl N 6 1 g c := fun c hc => fl_loc N 6 1 (by decide) (by decide) (by decide) f g (fun j hj => h j (inK_lt (by decide) (by decide) hj)) c (inK_1 hc)
