/-! THE CONSTRUCTORS, evaluated -/
noncomputable def ab_ev : Nat → Nat → Nat → ab_S → Option (Option Value × ab_H)
  | 0, _, _, _ => none
  | f + 1, d, k, c => match ab_st (mT k) mB mF (mR k) none c with
    | none => none
    | some (.inl c') => ab_ev f d k c'
    | some (.inr (.inr v)) => some (v, c.2.2.2.2)
    | some (.inr (.inl (k', av, c'))) => match d with
      | 0 => none
      | d' + 1 => match Nat.ble (ab_ws av) (mL k') with
        | false => none
        | true => match ab_ev f d' k' (0, ab_lv (mL k') av, [], mB k', c'.2.2.2.2) with
          | none => none
          | some (v, h') => ab_ev f (d' + 1) k (c'.1, c'.2.1, v.toList ++ c'.2.2.1, c'.2.2.2.1, h')
theorem ab_ev.ok : ∀ (f d k : Nat) (c : ab_S) (v : Option Value) (h' : ab_H) (post : ab_P), ab_ev f d k c = some (v, h') → post v h' → ab_W (ab_st (mT k) mB mF (mR k) none) (mCC d) post c := by
  intro f
  induction f with
  | zero =>
    intro d k c v h' post e _
    cases e
  | succ f ih =>
    intro d k c v h' post e hp
    refine ab_W.fold (mm d) ?_
    rw [ab_ev] at e
    revert e
    cases ab_st (mT k) mB mF (mR k) none c with
    | none => intro e; cases e
    | some r =>
      rcases r with c' | ⟨k', av, c'⟩ | v'
      · intro e
        exact ih d k c' v h' post e hp
      · cases d with
        | zero => intro e; cases e
        | succ d =>
          intro e
          have e : (match Nat.ble (ab_ws av) (mL k') with
            | false => none
            | true => match ab_ev f d k' (0, ab_lv (mL k') av, [], mB k', c'.2.2.2.2) with
              | none => none
              | some (v, h') => ab_ev f (d + 1) k (c'.1, c'.2.1, v.toList ++ c'.2.2.1, c'.2.2.2.1, h')) = some (v, h') := e
          revert e
          cases hb : Nat.ble (ab_ws av) (mL k') with
          | false => intro e; cases e
          | true =>
            cases hx : ab_ev f d k' (0, ab_lv (mL k') av, [], mB k', c'.2.2.2.2) with
            | none => intro e; cases e
            | some y =>
              obtain ⟨v1, h1⟩ := y
              intro e
              exact ⟨hb, ih d k' _ v1 h1 _ hx (ih (d + 1) k _ v h' post e hp)⟩
      · intro e
        cases e
        exact hp
def ck_v (v w : Value) : Bool := match v, w with
  | .int x, .int y => decide (x = y)
  | .long x, .long y => decide (x = y)
  | .ref x, .ref y => Nat.beq x y
  | .null, .null => true
  | _, _ => false
theorem ck_v.ok {v w : Value} (h : ck_v v w = true) : v = w := by
  unfold ck_v at h
  split at h
  · rw [of_decide_eq_true h]
  · rw [of_decide_eq_true h]
  · rw [Nat.eq_of_beq_eq_true h]
  · rfl
  · cases h
def ck_vs : List Value → List Value → Bool
  | [], [] => true
  | v :: r, w :: q => ck_v v w && ck_vs r q
  | _, _ => false
theorem ck_vs.ok : ∀ {v w : List Value}, ck_vs v w = true → v = w
  | [], [], _ => rfl
  | v :: r, w :: q, h => by
    have h : (ck_v v w && ck_vs r q) = true := h
    rw [Bool.and_eq_true] at h
    rw [ck_v.ok h.1, ck_vs.ok h.2]
  | [], _ :: _, h => by cases h
  | _ :: _, [], h => by cases h
def ck_o (h : ab_H) (a ci : Nat) (fs : List Value) : Bool := match h[a]? with
  | some (.inr (c, gs)) => Nat.beq c ci && ck_vs gs fs
  | _ => false
theorem ck_o.ok {h : ab_H} {a ci : Nat} {fs : List Value} (e : ck_o h a ci fs = true) : h[a]? = some (.inr (ci, fs)) := by
  unfold ck_o at e
  split at e
  · rename_i c gs hh
    rw [Bool.and_eq_true] at e
    rw [hh, Nat.eq_of_beq_eq_true e.1, ck_vs.ok e.2]
  · cases e
def ck_al (n : Nat) (p : Nat → Bool) : Bool := (List.range n).all p
theorem ck_al.ok {n : Nat} {p : Nat → Bool} (e : ck_al n p = true) : ∀ j, j < n → p j = true := fun j hj => List.all_eq_true.mp e j (List.mem_range.mpr hj)
def ck_i (h : ab_H) (a t n : Nat) (f : Nat → Int32) : Bool := match h[a]? with
  | some (.inl (t', n', .inl g)) => Nat.beq t' t && (Nat.beq n' n && ck_al n (fun j => decide (g j = f j)))
  | _ => false
theorem ck_i.ok {h : ab_H} {a t n : Nat} {f : Nat → Int32} (e : ck_i h a t n f = true) : ∃ g, h[a]? = some (.inl (t, n, .inl g)) ∧ ∀ j, j < n → g j = f j := by
  unfold ck_i at e
  split at e
  · rename_i t' n' g hh
    rw [Bool.and_eq_true, Bool.and_eq_true] at e
    refine ⟨g, ?_, fun j hj => of_decide_eq_true (ck_al.ok e.2.2 j hj)⟩
    rw [hh, Nat.eq_of_beq_eq_true e.1, Nat.eq_of_beq_eq_true e.2.1]
  · cases e
def ck_l (h : ab_H) (a t n : Nat) (f : Nat → Int64) : Bool := match h[a]? with
  | some (.inl (t', n', .inr (.inl g))) => Nat.beq t' t && (Nat.beq n' n && ck_al n (fun j => decide (g j = f j)))
  | _ => false
theorem ck_l.ok {h : ab_H} {a t n : Nat} {f : Nat → Int64} (e : ck_l h a t n f = true) : ∃ g, h[a]? = some (.inl (t, n, .inr (.inl g))) ∧ ∀ j, j < n → g j = f j := by
  unfold ck_l at e
  split at e
  · rename_i t' n' g hh
    rw [Bool.and_eq_true, Bool.and_eq_true] at e
    refine ⟨g, ?_, fun j hj => of_decide_eq_true (ck_al.ok e.2.2 j hj)⟩
    rw [hh, Nat.eq_of_beq_eq_true e.1, Nat.eq_of_beq_eq_true e.2.1]
  · cases e
def ck_q (h : ab_H) (a t n : Nat) (f : Nat → Option Nat) : Bool := match h[a]? with
  | some (.inl (t', n', .inr (.inr (.inr (.inr g))))) => Nat.beq t' t && (Nat.beq n' n && ck_al n (fun j => decide (g j = f j)))
  | _ => false
theorem ck_q.ok {h : ab_H} {a t n : Nat} {f : Nat → Option Nat} (e : ck_q h a t n f = true) : ∃ g, h[a]? = some (.inl (t, n, .inr (.inr (.inr (.inr g))))) ∧ ∀ j, j < n → g j = f j := by
  unfold ck_q at e
  split at e
  · rename_i t' n' g hh
    rw [Bool.and_eq_true, Bool.and_eq_true] at e
    refine ⟨g, ?_, fun j hj => of_decide_eq_true (ck_al.ok e.2.2 j hj)⟩
    rw [hh, Nat.eq_of_beq_eq_true e.1, Nat.eq_of_beq_eq_true e.2.1]
  · cases e
/-- a circle with these stamps present, by these names, all else 0 -/
def cZ (p : Nat → Bool) (N : Nat → Int64) : Ci := (p, N, fun _ => lN 0, fun _ _ => 0, 0)
def ck_c (h : ab_H) (β : Nat) (p : Nat → Bool) (N : Nat → Int64) : Bool := ck_o h β 0 [.ref (β + 1), .int (nI 0)] && (ck_q h (β + 1) 3 12 (fun s => some (β + 2 + 2 * s)) && ck_al 12 (fun s => ck_o h (β + 2 + 2 * s) 3 [.int (b2i (p s)), .long (N s), .long (lN 0), .ref (β + 2 + 2 * s + 1)] && ck_i h (β + 2 + 2 * s + 1) 0 64 (fun _ => 0)))
theorem ck_c.ok {h : ab_H} {β : Nat} {p : Nat → Bool} {N : Nat → Int64} (e : ck_c h β p N = true) : cir h β (cZ p N) := by
  unfold ck_c at e
  rw [Bool.and_eq_true, Bool.and_eq_true] at e
  obtain ⟨e1, e2, e3⟩ := e
  refine ⟨ck_o.ok e1, ck_q.ok e2, fun s hs => ?_⟩
  have e4 := ck_al.ok e3 s hs
  rw [Bool.and_eq_true] at e4
  obtain ⟨g, g1, g2⟩ := ck_i.ok e4.2
  exact ⟨ck_o.ok e4.1, g, g1, g2⟩
/-- the start -/
def p0 : Nat → Bool := fun s => Nat.beq s 0
def pE : Nat → Bool := fun _ => false
def N0 : Nat → Int64 := fun s => if Nat.beq s 0 = true then -(lN 1) else lN 0
def NE : Nat → Int64 := fun _ => lN 0
def σ0 : Sg := (cZ p0 N0, fun _ => cZ pE NE, fun _ => false)
def ck_C (h : ab_H) : Bool := ck_o h 0 4 [.ref 1, .ref 27, .int (nI 0), .ref 28, .ref 30] && (ck_c h 1 p0 N0 && (ck_q h 27 4 2 (fun s => some (32 + 26 * s)) && (ck_o h 28 1 [.ref 29, .int (nI 0), .int (nI 0), .int (-(nI 6)), .int (-(nI 6)), .int (-(nI 6))] && (ck_i h 29 0 64 (fun _ => 0) && (ck_o h 30 2 [.ref 31, .int (nI 0)] && (ck_i h 31 0 190 (fun _ => 0) && (ck_c h 32 pE NE && ck_c h 58 pE NE)))))))
theorem ck_C.ok {h : ab_H} (e : ck_C h = true) : relC h σ0 := by
  unfold ck_C at e
  rw [Bool.and_eq_true, Bool.and_eq_true, Bool.and_eq_true, Bool.and_eq_true, Bool.and_eq_true, Bool.and_eq_true, Bool.and_eq_true, Bool.and_eq_true] at e
  obtain ⟨e0, e1, e2, e3, e4, e5, e6, e7, e8⟩ := e
  obtain ⟨q, q1, q2⟩ := ck_q.ok e2
  obtain ⟨g4, a4, -⟩ := ck_i.ok e4
  obtain ⟨g6, a6, -⟩ := ck_i.ok e6
  exact ⟨ck_o.ok e0, ck_c.ok e1, ⟨q, q1, q2 0 (by decide), q2 1 (by decide)⟩, ⟨_, _, _, _, _, ck_o.ok e3⟩, ⟨g4, a4⟩, ⟨_, ck_o.ok e5⟩, ⟨g6, a6⟩, ck_c.ok e7, ck_c.ok e8⟩
def ck_M (h : ab_H) : Bool := ck_o h 84 5 [.ref 85, .ref 86, .ref 87, .ref 88, .int (nI 0), .ref 89, .ref 90, .ref 91, .ref 92, .ref 93, .int (nI 0), .int (nI 0), .ref 94, .ref 95, .ref 96, .ref 97, .ref 98, .ref 99] && (ck_i h 85 2 12 (fun s => b2i (p0 s)) && (ck_l h 86 1 12 N0 && (ck_l h 87 1 12 (fun _ => lN 0) && (ck_i h 88 0 768 (fun _ => 0) && (ck_i h 89 0 64 (fun _ => 0) && (ck_i h 90 0 128 (fun _ => 0) && (ck_i h 91 0 256 (fun _ => 0) && (ck_i h 92 0 16 (fun _ => 0) && (ck_i h 93 0 16 (fun _ => 0) && (ck_i h 94 2 2 (fun _ => 0) && (ck_i h 95 2 24 (fun _ => 0) && (ck_l h 96 1 24 (fun _ => lN 0) && (ck_l h 97 1 24 (fun _ => lN 0) && (ck_i h 98 0 1536 (fun _ => 0) && ck_i h 99 0 2 (fun _ => 0)))))))))))))))
theorem b2i_f : b2i false = 0 := by decide
theorem ck_M.ok {h : ab_H} (e : ck_M h = true) : relM h σ0 := by
  unfold ck_M at e
  rw [Bool.and_eq_true, Bool.and_eq_true, Bool.and_eq_true, Bool.and_eq_true, Bool.and_eq_true, Bool.and_eq_true, Bool.and_eq_true, Bool.and_eq_true, Bool.and_eq_true, Bool.and_eq_true, Bool.and_eq_true, Bool.and_eq_true, Bool.and_eq_true, Bool.and_eq_true, Bool.and_eq_true] at e
  obtain ⟨e0, e1, e2, e3, e4, e5, e6, e7, e8, e9, ea, eb, ec, ed, ee, ef⟩ := e
  obtain ⟨g4, a4, b4⟩ := ck_i.ok e4
  obtain ⟨g5, a5, -⟩ := ck_i.ok e5
  obtain ⟨g6, a6, -⟩ := ck_i.ok e6
  obtain ⟨g7, a7, -⟩ := ck_i.ok e7
  obtain ⟨g8, a8, -⟩ := ck_i.ok e8
  obtain ⟨g9, a9, -⟩ := ck_i.ok e9
  obtain ⟨ga, aa, ba⟩ := ck_i.ok ea
  obtain ⟨gb, ab, bb⟩ := ck_i.ok eb
  obtain ⟨gc, ac, bc⟩ := ck_l.ok ec
  obtain ⟨gd, ad, bd⟩ := ck_l.ok ed
  obtain ⟨ge, ae, be⟩ := ck_i.ok ee
  obtain ⟨gf, af, bf⟩ := ck_i.ok ef
  exact ⟨⟨_, _, ck_o.ok e0⟩, ck_i.ok e1, ck_l.ok e2, ck_l.ok e3, ⟨g4, a4, fun s c hs hc => b4 _ (by omega)⟩, ⟨⟨g5, a5⟩, ⟨g6, a6⟩, ⟨g7, a7⟩, ⟨g8, a8⟩, ⟨g9, a9⟩⟩, ⟨ga, aa, fun k hk => (ba k hk).trans b2i_f.symm⟩, ⟨gb, ab, fun k s hk hs => (bb _ (by omega)).trans b2i_f.symm⟩, ⟨gc, ac, fun k s hk hs => bc _ (by omega)⟩, ⟨gd, ad, fun k s hk hs => bd _ (by omega)⟩, ⟨ge, ae, fun k s c hk hs hc => be _ (by omega)⟩, ⟨gf, af, fun k hk => (bf k hk).trans nI_0.symm⟩⟩
theorem inv0 : inv σ0 := by
  refine ⟨⟨Nat.zero_le _, fun s t j hs ht' hj ps pt bs bt' => ?_⟩, fun k hk => ⟨Nat.zero_le _, fun s t j hs ht' hj ps => ?_⟩⟩
  · have ps : Nat.beq s 0 = true := ps
    have pt : Nat.beq t 0 = true := pt
    rw [Nat.eq_of_beq_eq_true ps, Nat.eq_of_beq_eq_true pt]
  · cases ps
