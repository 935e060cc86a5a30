/-! THE ABSTRACT MACHINE IS SOUND, second part: instruction by instruction -/
def ab_cx (p : Program) (l : Launch) (R : Room) (s : State) (m : MethodId) (args : Array Value) (meth : Method) (c : Code) (D : va_G) (dA : Nat → Nat) (sb : Nat) (A : Nat → Prop) (k d : Nat) (X : ab_X) : Prop :=
  p.tables.exec = Jvm.exec ∧ c.code = mC k ∧ c.maxLocals = mL k ∧ s.vm.findClass (mY k).cls = some m.cls ∧ (∀ w ∈ lw_good, w.before args s = true) ∧ va_K D vwCl (ab_tys dA) s ∧ ab_ex s ∧ (∀ q, s.heap.size ≤ q → A q) ∧ ((mY k).name = "<init>" → meth.name = "<init>") ∧ (R.cells = (mB k).1 ∧ R.slots = (mB k).2 ∧ d + 1 ≤ R.frames ∧ 60 * (d + 1) ≤ R.locals) ∧ (∀ x, X = some x → va_X sb x.1 x.2 s s.heap ∧ sb < s.heap.size ∧ ¬ A sb) ∧ ∀ k', k' < mN → ab_met l d k'
def ab_I (p : Program) (l : Launch) (e : Env) (R : Room) (s : State) (m : MethodId) (args : Array Value) (below : List Frame) (meth : Method) (c : Code) (Q : State → Prop) (D : va_G) (dA : Nat → Nat) (sb : Nat) (A : Nat → Prop) (ad0 : Nat → Nat) (n0 k : Nat) (q : ab_S) : Prop :=
  ∀ (ad : Nat → Nat) (H : Heap) (locs : List Loc) (ls : Array Slot), n0 ≤ q.2.2.2.2.length → (∀ i, i < n0 → ad i = ad0 i) → ((mB k).1 = 0 → ad = ad0) → ab_lr ad sb q.2.1 ls → q.2.1.length = mL k → ab_wd D dA sb A ad q.2.2.2.2 H → va_S A s.heap H locs → q.2.2.2.1.1 ≤ (mB k).1 → q.2.2.2.1.2 ≤ (mB k).2 →
    W p l e R s m args below meth c H locs ((mB k).1 - q.2.2.2.1.1) ((mB k).2 - q.2.2.2.1.2) Q (F0 m q.1 ls (q.2.2.1.map (ab_cv ad sb)))
section ABI
variable {C : ab_C} {post : ab_P} {P : ab_S → Prop} {h : ab_H}
theorem ab_i.inv {st : List Value} {f : Int32 → List Value → ab_R} (w : ab_rs C post P h (ab_i st f)) : ∃ x r, st = .int x :: r ∧ ab_rs C post P h (f x r) := by
  unfold ab_i at w
  split at w
  · exact ⟨_, _, rfl, w⟩
  · cases w
theorem ab_l.inv {st : List Value} {f : Int64 → List Value → ab_R} (w : ab_rs C post P h (ab_l st f)) : ∃ x r, st = .long x :: r ∧ ab_rs C post P h (f x r) := by
  unfold ab_l at w
  split at w
  · exact ⟨_, _, rfl, w⟩
  · cases w
theorem ab_r.inv {st : List Value} {f : Nat → List Value → ab_R} (w : ab_rs C post P h (ab_r st f)) : ∃ x r, st = .ref x :: r ∧ ab_rs C post P h (f x r) := by
  unfold ab_r at w
  split at w
  · exact ⟨_, _, rfl, w⟩
  · cases w
theorem ab_v.inv {st : List Value} {f : Value → List Value → ab_R} (w : ab_rs C post P h (ab_v st f)) : ∃ x r, st = x :: r ∧ ab_rs C post P h (f x r) := by
  unfold ab_v at w
  split at w
  · exact ⟨_, _, rfl, w⟩
  · cases w
theorem ab_gd.inv {b : Bool} {r : ab_R} (w : ab_rs C post P h (ab_gd b r)) : b = true ∧ ab_rs C post P h r := by
  cases b with
  | true => exact ⟨rfl, w⟩
  | false => cases w
theorem ab_s1.inv {lv : List Value} {i : Nat} {v : Value} {f : List Value → ab_R} (w : ab_rs C post P h (ab_s1 lv i v f)) : ab_lok lv i = true ∧ i < lv.length ∧ ab_rs C post P h (f (ab_ls lv i v)) := by
  obtain ⟨h1, h2⟩ := ab_gd.inv w
  rw [Bool.and_eq_true] at h1
  exact ⟨h1.1, Nat.le_of_ble_eq_true h1.2, h2⟩
theorem ab_s2.inv {lv : List Value} {i : Nat} {v : Value} {f : List Value → ab_R} (w : ab_rs C post P h (ab_s2 lv i v f)) : ab_lok lv i = true ∧ i + 1 < lv.length ∧ ab_rs C post P h (f (ab_ls (ab_ls lv i v) (i + 1) (.retAddr 0))) := by
  obtain ⟨h1, h2⟩ := ab_gd.inv w
  rw [Bool.and_eq_true] at h1
  exact ⟨h1.1, Nat.le_of_ble_eq_true h1.2, h2⟩
theorem ab_jp.inv {au : List Nat} {f : Nat → ab_R} (w : ab_rs C post P h (ab_jp au f)) : ∃ t r, au = t :: r ∧ ab_rs C post P h (f t) := by
  unfold ab_jp at w
  split at w
  · exact ⟨_, _, rfl, w⟩
  · cases w
theorem ab_o.inv {h1 : ab_H} {a : Nat} {f : Nat → List Value → ab_R} (w : ab_rs C post P h (ab_o h1 a f)) : ∃ ci fs, h1[a]? = some (.inr (ci, fs)) ∧ ab_rs C post P h (f ci fs) := by
  unfold ab_o at w
  split at w
  · rename_i ci fs e
    exact ⟨ci, fs, e, w⟩
  · cases w
theorem ab_ai.inv {h1 : ab_H} {a : Nat} {f : Nat → Nat → (Nat → Int32) → ab_R} (w : ab_rs C post P h (ab_ai h1 a f)) : ∃ t n g, h1[a]? = some (.inl (t, n, .inl g)) ∧ ab_rs C post P h (f t n g) := by
  unfold ab_ai at w
  split at w
  · rename_i t n g e
    exact ⟨t, n, g, e, w⟩
  · cases w
theorem ab_al.inv {h1 : ab_H} {a : Nat} {f : Nat → Nat → (Nat → Int64) → ab_R} (w : ab_rs C post P h (ab_al h1 a f)) : ∃ t n g, h1[a]? = some (.inl (t, n, .inr (.inl g))) ∧ ab_rs C post P h (f t n g) := by
  unfold ab_al at w
  split at w
  · rename_i t n g e
    exact ⟨t, n, g, e, w⟩
  · cases w
theorem ab_aq.inv {h1 : ab_H} {a : Nat} {f : Nat → Nat → (Nat → Option Nat) → ab_R} (w : ab_rs C post P h (ab_aq h1 a f)) : ∃ t n g, h1[a]? = some (.inl (t, n, .inr (.inr (.inr (.inr g))))) ∧ ab_rs C post P h (f t n g) := by
  unfold ab_aq at w
  split at w
  · rename_i t n g e
    exact ⟨t, n, g, e, w⟩
  · cases w
theorem ab_call.inv {B : Nat → Nat × Nat} {k : Nat} {av lv rest : List Value} {nx : Nat} {b : Nat × Nat} {h1 : ab_H} (w : ab_rs C post P h (ab_call B k av lv rest nx b h1)) :
    ab_ws rest ≤ 8 ∧ (B k).1 ≤ b.1 ∧ (B k).2 ≤ b.2 ∧ ((B k).1 = 0 ∨ ab_clo lv rest h1 = true) ∧ C k av h1 (fun v h' => P (nx, lv, v.toList ++ rest, (b.1 - (B k).1, b.2 - (B k).2), h')) := by
  obtain ⟨g, w⟩ := ab_gd.inv w
  simp only [Bool.and_eq_true, Bool.or_eq_true] at g
  obtain ⟨g1, g2, g3, g4⟩ := g
  exact ⟨Nat.le_of_ble_eq_true g1, Nat.le_of_ble_eq_true g2, Nat.le_of_ble_eq_true g3, g4.imp Nat.eq_of_beq_eq_true id, w⟩
theorem ab_ite.inv {p : Prop} [Decidable p] {x y : ab_R} (w : ab_rs C post P h (if p then x else y)) : (p → ab_rs C post P h x) ∧ (¬ p → ab_rs C post P h y) := by
  by_cases hp : p
  · rw [if_pos hp] at w
    exact ⟨fun _ => w, fun q => absurd hp q⟩
  · rw [if_neg hp] at w
    exact ⟨fun q => absurd q hp, fun _ => w⟩
end ABI
theorem ab_in.vp {i : Int32} {n : Nat} (h : ab_in i n = true) : vp_in i n := by
  unfold ab_in at h
  rw [Bool.and_eq_true, Bool.not_eq_true', decide_eq_false_iff_not] at h
  rintro (q | q)
  · exact h.1 q
  · have := Nat.le_of_ble_eq_true h.2
    omega
theorem ab_pop.inv : ∀ {n : Nat} {acc st av r : List Value}, ab_pop n acc st = some (av, r) → ∃ as, as.length = n ∧ st = as.reverse ++ r ∧ av = as ++ acc := by
  intro n
  induction n with
  | zero =>
    intro acc st av r h
    cases h
    exact ⟨[], rfl, rfl, rfl⟩
  | succ n ih =>
    intro acc st av r h
    cases st with
    | nil => cases h
    | cons v st =>
      obtain ⟨as, h1, h2, h3⟩ := ih (show ab_pop n (v :: acc) st = some (av, r) from h)
      refine ⟨as ++ [v], by simp [h1], by simp [h2], by simp [h3]⟩
section ABJ
variable {p : Program} {l : Launch} {e : Env} {R : Room} {s : State} {m : MethodId} {args : Array Value} {below : List Frame} {meth : Method} {c : Code} {Q : State → Prop} {D : va_G} {dA : Nat → Nat} {sb : Nat} {A : Nat → Prop} {ad0 : Nat → Nat} {n0 k d : Nat} {X : ab_X} {post : ab_P}
variable {pc nx n : Nat} {au : List Nat} {lv st : List Value} {b : Nat × Nat} {h : ab_H}
theorem ab_j_iconst (cx : ab_cx p l R s m args meth c D dA sb A k d X) (v : Int) (hd : decode (mC k) pc = .ok (.iconst v, n)) (hn : nx = pc + n) (hln : ab_ln (.iconst v) n = true) (hok : ok_i k pc (.iconst v) au = true) (w : ab_rs (mCC d) post (ab_I p l e R s m args below meth c Q D dA sb A ad0 n0 k) h (ab_do mB mF (mR k) X (.iconst v) nx au lv st b h)) : ab_I p l e R s m args below meth c Q D dA sb A ad0 n0 k (pc, lv, st, b, h) := by
  obtain rfl := Nat.eq_of_beq_eq_true hln
  subst hn
  intro ad H locs ls h1 h2 h3 hl hlen hw hS hb1 hb2
  obtain ⟨hx, hb, hml, hown, hts, hK, hex, hA, hin, hR, hX, hM⟩ := cx
  exact lv_iconst hx hb hd (of_decide_eq_true hok) (w ad H locs ls h1 h2 h3 hl hlen hw hS hb1 hb2)
theorem ab_j_bipush (cx : ab_cx p l R s m args meth c D dA sb A k d X) (v : Int) (hd : decode (mC k) pc = .ok (.bipush v, n)) (hn : nx = pc + n) (hln : ab_ln (.bipush v) n = true) (hok : ok_i k pc (.bipush v) au = true) (w : ab_rs (mCC d) post (ab_I p l e R s m args below meth c Q D dA sb A ad0 n0 k) h (ab_do mB mF (mR k) X (.bipush v) nx au lv st b h)) : ab_I p l e R s m args below meth c Q D dA sb A ad0 n0 k (pc, lv, st, b, h) := by
  obtain rfl := Nat.eq_of_beq_eq_true hln
  subst hn
  intro ad H locs ls h1 h2 h3 hl hlen hw hS hb1 hb2
  obtain ⟨hx, hb, hml, hown, hts, hK, hex, hA, hin, hR, hX, hM⟩ := cx
  exact lv_bipush hx hb hd (of_decide_eq_true hok) (w ad H locs ls h1 h2 h3 hl hlen hw hS hb1 hb2)
theorem ab_j_sipush (cx : ab_cx p l R s m args meth c D dA sb A k d X) (v : Int) (hd : decode (mC k) pc = .ok (.sipush v, n)) (hn : nx = pc + n) (hln : ab_ln (.sipush v) n = true) (hok : ok_i k pc (.sipush v) au = true) (w : ab_rs (mCC d) post (ab_I p l e R s m args below meth c Q D dA sb A ad0 n0 k) h (ab_do mB mF (mR k) X (.sipush v) nx au lv st b h)) : ab_I p l e R s m args below meth c Q D dA sb A ad0 n0 k (pc, lv, st, b, h) := by
  obtain rfl := Nat.eq_of_beq_eq_true hln
  subst hn
  intro ad H locs ls h1 h2 h3 hl hlen hw hS hb1 hb2
  obtain ⟨hx, hb, hml, hown, hts, hK, hex, hA, hin, hR, hX, hM⟩ := cx
  exact lv_sipush hx hb hd (of_decide_eq_true hok) (w ad H locs ls h1 h2 h3 hl hlen hw hS hb1 hb2)
theorem ab_j_lconst (cx : ab_cx p l R s m args meth c D dA sb A k d X) (v : Fin 2) (hd : decode (mC k) pc = .ok (.lconst v, n)) (hn : nx = pc + n) (hln : ab_ln (.lconst v) n = true) (hok : ok_i k pc (.lconst v) au = true) (w : ab_rs (mCC d) post (ab_I p l e R s m args below meth c Q D dA sb A ad0 n0 k) h (ab_do mB mF (mR k) X (.lconst v) nx au lv st b h)) : ab_I p l e R s m args below meth c Q D dA sb A ad0 n0 k (pc, lv, st, b, h) := by
  obtain rfl := Nat.eq_of_beq_eq_true hln
  subst hn
  intro ad H locs ls h1 h2 h3 hl hlen hw hS hb1 hb2
  obtain ⟨hx, hb, hml, hown, hts, hK, hex, hA, hin, hR, hX, hM⟩ := cx
  exact lv_lconst hx hb hd (of_decide_eq_true hok) (w ad H locs ls h1 h2 h3 hl hlen hw hS hb1 hb2)
theorem ab_j_ldc_w (cx : ab_cx p l R s m args meth c D dA sb A k d X) (ix : Nat) (hd : decode (mC k) pc = .ok (.ldc_w ix, n)) (hn : nx = pc + n) (hln : ab_ln (.ldc_w ix) n = true) (hok : ok_i k pc (.ldc_w ix) au = true) (w : ab_rs (mCC d) post (ab_I p l e R s m args below meth c Q D dA sb A ad0 n0 k) h (ab_do mB mF (mR k) X (.ldc_w ix) nx au lv st b h)) : ab_I p l e R s m args below meth c Q D dA sb A ad0 n0 k (pc, lv, st, b, h) := by
  obtain rfl := Nat.eq_of_beq_eq_true hln
  subst hn
  intro ad H locs ls h1 h2 h3 hl hlen hw hS hb1 hb2
  obtain ⟨hx, hb, hml, hown, hts, hK, hex, hA, hin, hR, hX, hM⟩ := cx
  dsimp only [ok_i] at hok
  split at hok
  · exact lv_ldcw hx hb hown (ok_at.use hok hts rfl) hd (w ad H locs ls h1 h2 h3 hl hlen hw hS hb1 hb2)
  · cases hok
theorem ab_j_ldc2_w (cx : ab_cx p l R s m args meth c D dA sb A k d X) (ix : Nat) (hd : decode (mC k) pc = .ok (.ldc2_w ix, n)) (hn : nx = pc + n) (hln : ab_ln (.ldc2_w ix) n = true) (hok : ok_i k pc (.ldc2_w ix) au = true) (w : ab_rs (mCC d) post (ab_I p l e R s m args below meth c Q D dA sb A ad0 n0 k) h (ab_do mB mF (mR k) X (.ldc2_w ix) nx au lv st b h)) : ab_I p l e R s m args below meth c Q D dA sb A ad0 n0 k (pc, lv, st, b, h) := by
  obtain rfl := Nat.eq_of_beq_eq_true hln
  subst hn
  intro ad H locs ls h1 h2 h3 hl hlen hw hS hb1 hb2
  obtain ⟨hx, hb, hml, hown, hts, hK, hex, hA, hin, hR, hX, hM⟩ := cx
  dsimp only [ok_i] at hok
  split at hok
  · exact lv_ldc2 hx hb hown (ok_at.use hok hts rfl) hd (w ad H locs ls h1 h2 h3 hl hlen hw hS hb1 hb2)
  · cases hok
theorem ab_j_aconst_null (cx : ab_cx p l R s m args meth c D dA sb A k d X)  (hd : decode (mC k) pc = .ok (.aconst_null, n)) (hn : nx = pc + n) (hln : ab_ln (.aconst_null) n = true) (hok : ok_i k pc (.aconst_null) au = true) (w : ab_rs (mCC d) post (ab_I p l e R s m args below meth c Q D dA sb A ad0 n0 k) h (ab_do mB mF (mR k) X (.aconst_null) nx au lv st b h)) : ab_I p l e R s m args below meth c Q D dA sb A ad0 n0 k (pc, lv, st, b, h) := by
  obtain rfl := Nat.eq_of_beq_eq_true hln
  subst hn
  intro ad H locs ls h1 h2 h3 hl hlen hw hS hb1 hb2
  obtain ⟨hx, hb, hml, hown, hts, hK, hex, hA, hin, hR, hX, hM⟩ := cx
  exact lv_null hx hb hd (w ad H locs ls h1 h2 h3 hl hlen hw hS hb1 hb2)
theorem ab_j_iload_n (cx : ab_cx p l R s m args meth c D dA sb A k d X) (j : Fin 4) (hd : decode (mC k) pc = .ok (.iload_n j, n)) (hn : nx = pc + n) (hln : ab_ln (.iload_n j) n = true) (hok : ok_i k pc (.iload_n j) au = true) (w : ab_rs (mCC d) post (ab_I p l e R s m args below meth c Q D dA sb A ad0 n0 k) h (ab_do mB mF (mR k) X (.iload_n j) nx au lv st b h)) : ab_I p l e R s m args below meth c Q D dA sb A ad0 n0 k (pc, lv, st, b, h) := by
  obtain rfl := Nat.eq_of_beq_eq_true hln
  subst hn
  intro ad H locs ls h1 h2 h3 hl hlen hw hS hb1 hb2
  obtain ⟨hx, hb, hml, hown, hts, hK, hex, hA, hin, hR, hX, hM⟩ := cx
  obtain ⟨x, r, hg, w⟩ := ab_i.inv w
  have hg : ab_lg lv j = .int x := (List.cons.inj hg).1
  have hv := hl.2.2 j (by show ab_lg lv j ≠ _; rw [hg]; exact fun q => by cases q)
  have hv : ls[(j : Nat)]? = some (.val (ab_cv ad sb (ab_lg lv j))) := hv
  rw [hg] at hv
  exact lv_iload_n hx hb hd rfl hv (w ad H locs ls h1 h2 h3 hl hlen hw hS hb1 hb2)
theorem ab_j_iload (cx : ab_cx p l R s m args meth c D dA sb A k d X) (j : Nat) (hd : decode (mC k) pc = .ok (.iload j, n)) (hn : nx = pc + n) (hln : ab_ln (.iload j) n = true) (hok : ok_i k pc (.iload j) au = true) (w : ab_rs (mCC d) post (ab_I p l e R s m args below meth c Q D dA sb A ad0 n0 k) h (ab_do mB mF (mR k) X (.iload j) nx au lv st b h)) : ab_I p l e R s m args below meth c Q D dA sb A ad0 n0 k (pc, lv, st, b, h) := by
  obtain rfl := Nat.eq_of_beq_eq_true hln
  subst hn
  intro ad H locs ls h1 h2 h3 hl hlen hw hS hb1 hb2
  obtain ⟨hx, hb, hml, hown, hts, hK, hex, hA, hin, hR, hX, hM⟩ := cx
  obtain ⟨x, r, hg, w⟩ := ab_i.inv w
  have hg : ab_lg lv j = .int x := (List.cons.inj hg).1
  have hv := hl.2.2 j (by show ab_lg lv j ≠ _; rw [hg]; exact fun q => by cases q)
  have hv : ls[(j : Nat)]? = some (.val (ab_cv ad sb (ab_lg lv j))) := hv
  rw [hg] at hv
  exact lv_iload hx hb hd hv (w ad H locs ls h1 h2 h3 hl hlen hw hS hb1 hb2)
theorem ab_j_lload_n (cx : ab_cx p l R s m args meth c D dA sb A k d X) (j : Fin 4) (hd : decode (mC k) pc = .ok (.lload_n j, n)) (hn : nx = pc + n) (hln : ab_ln (.lload_n j) n = true) (hok : ok_i k pc (.lload_n j) au = true) (w : ab_rs (mCC d) post (ab_I p l e R s m args below meth c Q D dA sb A ad0 n0 k) h (ab_do mB mF (mR k) X (.lload_n j) nx au lv st b h)) : ab_I p l e R s m args below meth c Q D dA sb A ad0 n0 k (pc, lv, st, b, h) := by
  obtain rfl := Nat.eq_of_beq_eq_true hln
  subst hn
  intro ad H locs ls h1 h2 h3 hl hlen hw hS hb1 hb2
  obtain ⟨hx, hb, hml, hown, hts, hK, hex, hA, hin, hR, hX, hM⟩ := cx
  obtain ⟨x, r, hg, w⟩ := ab_l.inv w
  have hg : ab_lg lv j = .long x := (List.cons.inj hg).1
  have hv := hl.2.2 j (by show ab_lg lv j ≠ _; rw [hg]; exact fun q => by cases q)
  have hv : ls[(j : Nat)]? = some (.val (ab_cv ad sb (ab_lg lv j))) := hv
  rw [hg] at hv
  exact lv_lload_n hx hb hd rfl hv (w ad H locs ls h1 h2 h3 hl hlen hw hS hb1 hb2)
theorem ab_j_lload (cx : ab_cx p l R s m args meth c D dA sb A k d X) (j : Nat) (hd : decode (mC k) pc = .ok (.lload j, n)) (hn : nx = pc + n) (hln : ab_ln (.lload j) n = true) (hok : ok_i k pc (.lload j) au = true) (w : ab_rs (mCC d) post (ab_I p l e R s m args below meth c Q D dA sb A ad0 n0 k) h (ab_do mB mF (mR k) X (.lload j) nx au lv st b h)) : ab_I p l e R s m args below meth c Q D dA sb A ad0 n0 k (pc, lv, st, b, h) := by
  obtain rfl := Nat.eq_of_beq_eq_true hln
  subst hn
  intro ad H locs ls h1 h2 h3 hl hlen hw hS hb1 hb2
  obtain ⟨hx, hb, hml, hown, hts, hK, hex, hA, hin, hR, hX, hM⟩ := cx
  obtain ⟨x, r, hg, w⟩ := ab_l.inv w
  have hg : ab_lg lv j = .long x := (List.cons.inj hg).1
  have hv := hl.2.2 j (by show ab_lg lv j ≠ _; rw [hg]; exact fun q => by cases q)
  have hv : ls[(j : Nat)]? = some (.val (ab_cv ad sb (ab_lg lv j))) := hv
  rw [hg] at hv
  exact lv_lload hx hb hd hv (w ad H locs ls h1 h2 h3 hl hlen hw hS hb1 hb2)
theorem ab_j_aload_n (cx : ab_cx p l R s m args meth c D dA sb A k d X) (j : Fin 4) (hd : decode (mC k) pc = .ok (.aload_n j, n)) (hn : nx = pc + n) (hln : ab_ln (.aload_n j) n = true) (hok : ok_i k pc (.aload_n j) au = true) (w : ab_rs (mCC d) post (ab_I p l e R s m args below meth c Q D dA sb A ad0 n0 k) h (ab_do mB mF (mR k) X (.aload_n j) nx au lv st b h)) : ab_I p l e R s m args below meth c Q D dA sb A ad0 n0 k (pc, lv, st, b, h) := by
  obtain rfl := Nat.eq_of_beq_eq_true hln
  subst hn
  intro ad H locs ls h1 h2 h3 hl hlen hw hS hb1 hb2
  obtain ⟨hx, hb, hml, hown, hts, hK, hex, hA, hin, hR, hX, hM⟩ := cx
  have key : ∀ v, ab_lg lv j = v → v ≠ .retAddr 0 → ls[(j : Nat)]? = some (.val (ab_cv ad sb v)) := fun v hv h0 => by
    have := hl.2.2 j (by show ab_lg lv j ≠ _; rw [hv]; exact h0)
    have this : ls[(j : Nat)]? = some (.val (ab_cv ad sb (ab_lg lv j))) := this
    rw [hv] at this
    exact this
  dsimp only [ab_do] at w
  split at w
  · rename_i a hg
    exact lv_aload_n hx hb hd rfl (key _ hg (fun q => by cases q)) (w ad H locs ls h1 h2 h3 hl hlen hw hS hb1 hb2)
  · rename_i hg
    exact lv_aload_nN hx hb hd rfl (key _ hg (fun q => by cases q)) (w ad H locs ls h1 h2 h3 hl hlen hw hS hb1 hb2)
  · rename_i hg
    exact lv_aload_n hx hb hd rfl (key _ hg (fun q => by cases q)) (w ad H locs ls h1 h2 h3 hl hlen hw hS hb1 hb2)
  · cases w
theorem ab_j_aload (cx : ab_cx p l R s m args meth c D dA sb A k d X) (j : Nat) (hd : decode (mC k) pc = .ok (.aload j, n)) (hn : nx = pc + n) (hln : ab_ln (.aload j) n = true) (hok : ok_i k pc (.aload j) au = true) (w : ab_rs (mCC d) post (ab_I p l e R s m args below meth c Q D dA sb A ad0 n0 k) h (ab_do mB mF (mR k) X (.aload j) nx au lv st b h)) : ab_I p l e R s m args below meth c Q D dA sb A ad0 n0 k (pc, lv, st, b, h) := by
  obtain rfl := Nat.eq_of_beq_eq_true hln
  subst hn
  intro ad H locs ls h1 h2 h3 hl hlen hw hS hb1 hb2
  obtain ⟨hx, hb, hml, hown, hts, hK, hex, hA, hin, hR, hX, hM⟩ := cx
  have key : ∀ v, ab_lg lv j = v → v ≠ .retAddr 0 → ls[(j : Nat)]? = some (.val (ab_cv ad sb v)) := fun v hv h0 => by
    have := hl.2.2 j (by show ab_lg lv j ≠ _; rw [hv]; exact h0)
    have this : ls[(j : Nat)]? = some (.val (ab_cv ad sb (ab_lg lv j))) := this
    rw [hv] at this
    exact this
  dsimp only [ab_do] at w
  split at w
  · rename_i a hg
    exact lv_aload hx hb hd (key _ hg (fun q => by cases q)) (w ad H locs ls h1 h2 h3 hl hlen hw hS hb1 hb2)
  · rename_i hg
    exact lv_aloadN hx hb hd (key _ hg (fun q => by cases q)) (w ad H locs ls h1 h2 h3 hl hlen hw hS hb1 hb2)
  · cases w
theorem ab_j_istore_n (cx : ab_cx p l R s m args meth c D dA sb A k d X) (j : Fin 4) (hd : decode (mC k) pc = .ok (.istore_n j, n)) (hn : nx = pc + n) (hln : ab_ln (.istore_n j) n = true) (hok : ok_i k pc (.istore_n j) au = true) (w : ab_rs (mCC d) post (ab_I p l e R s m args below meth c Q D dA sb A ad0 n0 k) h (ab_do mB mF (mR k) X (.istore_n j) nx au lv st b h)) : ab_I p l e R s m args below meth c Q D dA sb A ad0 n0 k (pc, lv, st, b, h) := by
  obtain rfl := Nat.eq_of_beq_eq_true hln
  subst hn
  intro ad H locs ls h1 h2 h3 hl hlen hw hS hb1 hb2
  obtain ⟨hx, hb, hml, hown, hts, hK, hex, hA, hin, hR, hX, hM⟩ := cx
  obtain ⟨x, r, rfl, w1⟩ := ab_i.inv w
  clear w
  obtain ⟨ho, hi, w⟩ := ab_s1.inv w1
  refine lv_istore_n hx hb hd rfl (hl.has) (by rw [hlen] at hi; exact hlen ▸ hi) rfl (fun ls' hl' => ?_)
  exact w ad H locs ls' h1 h2 h3 (ab_lr.s1 (v := .int x) hi ho hl') (by show List.length _ = _; rw [ab_ls_len]; exact hlen) hw hS hb1 hb2
theorem ab_j_istore (cx : ab_cx p l R s m args meth c D dA sb A k d X) (j : Nat) (hd : decode (mC k) pc = .ok (.istore j, n)) (hn : nx = pc + n) (hln : ab_ln (.istore j) n = true) (hok : ok_i k pc (.istore j) au = true) (w : ab_rs (mCC d) post (ab_I p l e R s m args below meth c Q D dA sb A ad0 n0 k) h (ab_do mB mF (mR k) X (.istore j) nx au lv st b h)) : ab_I p l e R s m args below meth c Q D dA sb A ad0 n0 k (pc, lv, st, b, h) := by
  obtain rfl := Nat.eq_of_beq_eq_true hln
  subst hn
  intro ad H locs ls h1 h2 h3 hl hlen hw hS hb1 hb2
  obtain ⟨hx, hb, hml, hown, hts, hK, hex, hA, hin, hR, hX, hM⟩ := cx
  obtain ⟨x, r, rfl, w1⟩ := ab_i.inv w
  clear w
  obtain ⟨ho, hi, w⟩ := ab_s1.inv w1
  refine lv_istore hx hb hd (hl.has) (by rw [hlen] at hi; exact hlen ▸ hi) rfl (fun ls' hl' => ?_)
  exact w ad H locs ls' h1 h2 h3 (ab_lr.s1 (v := .int x) hi ho hl') (by show List.length _ = _; rw [ab_ls_len]; exact hlen) hw hS hb1 hb2
theorem ab_j_lstore_n (cx : ab_cx p l R s m args meth c D dA sb A k d X) (j : Fin 4) (hd : decode (mC k) pc = .ok (.lstore_n j, n)) (hn : nx = pc + n) (hln : ab_ln (.lstore_n j) n = true) (hok : ok_i k pc (.lstore_n j) au = true) (w : ab_rs (mCC d) post (ab_I p l e R s m args below meth c Q D dA sb A ad0 n0 k) h (ab_do mB mF (mR k) X (.lstore_n j) nx au lv st b h)) : ab_I p l e R s m args below meth c Q D dA sb A ad0 n0 k (pc, lv, st, b, h) := by
  obtain rfl := Nat.eq_of_beq_eq_true hln
  subst hn
  intro ad H locs ls h1 h2 h3 hl hlen hw hS hb1 hb2
  obtain ⟨hx, hb, hml, hown, hts, hK, hex, hA, hin, hR, hX, hM⟩ := cx
  obtain ⟨x, r, rfl, w1⟩ := ab_l.inv w
  clear w
  obtain ⟨ho, hi, w⟩ := ab_s2.inv w1
  refine lv_lstore_n hx hb hd rfl (hl.has) (by rw [hlen] at hi; exact hlen ▸ hi) rfl (fun ls' hl' => ?_)
  exact w ad H locs ls' h1 h2 h3 (ab_lr.s2 (v := .long x) hi ho hl') (by show List.length _ = _; rw [ab_ls_len, ab_ls_len]; exact hlen) hw hS hb1 hb2
theorem ab_j_lstore (cx : ab_cx p l R s m args meth c D dA sb A k d X) (j : Nat) (hd : decode (mC k) pc = .ok (.lstore j, n)) (hn : nx = pc + n) (hln : ab_ln (.lstore j) n = true) (hok : ok_i k pc (.lstore j) au = true) (w : ab_rs (mCC d) post (ab_I p l e R s m args below meth c Q D dA sb A ad0 n0 k) h (ab_do mB mF (mR k) X (.lstore j) nx au lv st b h)) : ab_I p l e R s m args below meth c Q D dA sb A ad0 n0 k (pc, lv, st, b, h) := by
  obtain rfl := Nat.eq_of_beq_eq_true hln
  subst hn
  intro ad H locs ls h1 h2 h3 hl hlen hw hS hb1 hb2
  obtain ⟨hx, hb, hml, hown, hts, hK, hex, hA, hin, hR, hX, hM⟩ := cx
  obtain ⟨x, r, rfl, w1⟩ := ab_l.inv w
  clear w
  obtain ⟨ho, hi, w⟩ := ab_s2.inv w1
  refine lv_lstore hx hb hd (hl.has) (by rw [hlen] at hi; exact hlen ▸ hi) rfl (fun ls' hl' => ?_)
  exact w ad H locs ls' h1 h2 h3 (ab_lr.s2 (v := .long x) hi ho hl') (by show List.length _ = _; rw [ab_ls_len, ab_ls_len]; exact hlen) hw hS hb1 hb2
theorem ab_j_astore_n (cx : ab_cx p l R s m args meth c D dA sb A k d X) (j : Fin 4) (hd : decode (mC k) pc = .ok (.astore_n j, n)) (hn : nx = pc + n) (hln : ab_ln (.astore_n j) n = true) (hok : ok_i k pc (.astore_n j) au = true) (w : ab_rs (mCC d) post (ab_I p l e R s m args below meth c Q D dA sb A ad0 n0 k) h (ab_do mB mF (mR k) X (.astore_n j) nx au lv st b h)) : ab_I p l e R s m args below meth c Q D dA sb A ad0 n0 k (pc, lv, st, b, h) := by
  obtain rfl := Nat.eq_of_beq_eq_true hln
  subst hn
  intro ad H locs ls h1 h2 h3 hl hlen hw hS hb1 hb2
  obtain ⟨hx, hb, hml, hown, hts, hK, hex, hA, hin, hR, hX, hM⟩ := cx
  dsimp only [ab_do] at w
  split at w
  · rename_i a r
    obtain ⟨ho, hi, w⟩ := ab_s1.inv w
    refine lv_astore_n hx hb hd rfl (hl.has) (by rw [hlen] at hi; exact hlen ▸ hi) rfl (fun ls' hl' => ?_)
    exact w ad H locs ls' h1 h2 h3 (ab_lr.s1 (v := .ref a) hi ho hl') (by show List.length _ = _; rw [ab_ls_len]; exact hlen) hw hS hb1 hb2
  · rename_i r
    obtain ⟨ho, hi, w⟩ := ab_s1.inv w
    refine lv_astore_nN hx hb hd rfl (hl.has) (by rw [hlen] at hi; exact hlen ▸ hi) rfl (fun ls' hl' => ?_)
    exact w ad H locs ls' h1 h2 h3 (ab_lr.s1 (v := .null) hi ho hl') (by show List.length _ = _; rw [ab_ls_len]; exact hlen) hw hS hb1 hb2
  · cases w
theorem ab_j_astore (cx : ab_cx p l R s m args meth c D dA sb A k d X) (j : Nat) (hd : decode (mC k) pc = .ok (.astore j, n)) (hn : nx = pc + n) (hln : ab_ln (.astore j) n = true) (hok : ok_i k pc (.astore j) au = true) (w : ab_rs (mCC d) post (ab_I p l e R s m args below meth c Q D dA sb A ad0 n0 k) h (ab_do mB mF (mR k) X (.astore j) nx au lv st b h)) : ab_I p l e R s m args below meth c Q D dA sb A ad0 n0 k (pc, lv, st, b, h) := by
  obtain rfl := Nat.eq_of_beq_eq_true hln
  subst hn
  intro ad H locs ls h1 h2 h3 hl hlen hw hS hb1 hb2
  obtain ⟨hx, hb, hml, hown, hts, hK, hex, hA, hin, hR, hX, hM⟩ := cx
  dsimp only [ab_do] at w
  split at w
  · rename_i a r
    obtain ⟨ho, hi, w⟩ := ab_s1.inv w
    refine lv_astore hx hb hd (hl.has) (by rw [hlen] at hi; exact hlen ▸ hi) rfl (fun ls' hl' => ?_)
    exact w ad H locs ls' h1 h2 h3 (ab_lr.s1 (v := .ref a) hi ho hl') (by show List.length _ = _; rw [ab_ls_len]; exact hlen) hw hS hb1 hb2
  · rename_i r
    obtain ⟨ho, hi, w⟩ := ab_s1.inv w
    refine lv_astoreN hx hb hd (hl.has) (by rw [hlen] at hi; exact hlen ▸ hi) rfl (fun ls' hl' => ?_)
    exact w ad H locs ls' h1 h2 h3 (ab_lr.s1 (v := .null) hi ho hl') (by show List.length _ = _; rw [ab_ls_len]; exact hlen) hw hS hb1 hb2
  · cases w
theorem ab_j_iinc (cx : ab_cx p l R s m args meth c D dA sb A k d X) (j : Nat) (v : Int) (hd : decode (mC k) pc = .ok (.iinc j v, n)) (hn : nx = pc + n) (hln : ab_ln (.iinc j v) n = true) (hok : ok_i k pc (.iinc j v) au = true) (w : ab_rs (mCC d) post (ab_I p l e R s m args below meth c Q D dA sb A ad0 n0 k) h (ab_do mB mF (mR k) X (.iinc j v) nx au lv st b h)) : ab_I p l e R s m args below meth c Q D dA sb A ad0 n0 k (pc, lv, st, b, h) := by
  obtain rfl := Nat.eq_of_beq_eq_true hln
  subst hn
  intro ad H locs ls h1 h2 h3 hl hlen hw hS hb1 hb2
  obtain ⟨hx, hb, hml, hown, hts, hK, hex, hA, hin, hR, hX, hM⟩ := cx
  obtain ⟨x, r, hg, w⟩ := ab_i.inv w
  have hg : ab_lg lv j = .int x := (List.cons.inj hg).1
  obtain ⟨ho, hi, w⟩ := ab_s1.inv w
  have hm := ab_lp_mem (ad := ad) (sb := sb) (lv := lv) (j := j) (by rw [hg]; exact fun q => by cases q)
  rw [hg] at hm
  obtain ⟨q0, hq0⟩ := List.getElem?_of_mem hm
  refine lv_iinc (v := x + ab_ki au) hx hb hd (hl.has) hq0 (by rw [show Int32.ofInt v = ab_ki au from of_decide_eq_true hok]) hi rfl (fun ls' hl' => ?_)
  exact w ad H locs ls' h1 h2 h3 (ab_lr.s1 (v := .int (x + ab_ki au)) hi ho hl') (by show List.length _ = _; rw [ab_ls_len]; exact hlen) hw hS hb1 hb2
theorem ab_j_iadd (cx : ab_cx p l R s m args meth c D dA sb A k d X)  (hd : decode (mC k) pc = .ok (.iadd, n)) (hn : nx = pc + n) (hln : ab_ln (.iadd) n = true) (hok : ok_i k pc (.iadd) au = true) (w : ab_rs (mCC d) post (ab_I p l e R s m args below meth c Q D dA sb A ad0 n0 k) h (ab_do mB mF (mR k) X (.iadd) nx au lv st b h)) : ab_I p l e R s m args below meth c Q D dA sb A ad0 n0 k (pc, lv, st, b, h) := by
  obtain rfl := Nat.eq_of_beq_eq_true hln
  subst hn
  intro ad H locs ls h1 h2 h3 hl hlen hw hS hb1 hb2
  obtain ⟨hx, hb, hml, hown, hts, hK, hex, hA, hin, hR, hX, hM⟩ := cx
  obtain ⟨y, r1, rfl, w1⟩ := ab_i.inv w
  clear w
  obtain ⟨x, r, rfl, w⟩ := ab_i.inv w1
  clear w1
  exact lv_iadd hx hb hd (w ad H locs ls h1 h2 h3 hl hlen hw hS hb1 hb2)
theorem ab_j_isub (cx : ab_cx p l R s m args meth c D dA sb A k d X)  (hd : decode (mC k) pc = .ok (.isub, n)) (hn : nx = pc + n) (hln : ab_ln (.isub) n = true) (hok : ok_i k pc (.isub) au = true) (w : ab_rs (mCC d) post (ab_I p l e R s m args below meth c Q D dA sb A ad0 n0 k) h (ab_do mB mF (mR k) X (.isub) nx au lv st b h)) : ab_I p l e R s m args below meth c Q D dA sb A ad0 n0 k (pc, lv, st, b, h) := by
  obtain rfl := Nat.eq_of_beq_eq_true hln
  subst hn
  intro ad H locs ls h1 h2 h3 hl hlen hw hS hb1 hb2
  obtain ⟨hx, hb, hml, hown, hts, hK, hex, hA, hin, hR, hX, hM⟩ := cx
  obtain ⟨y, r1, rfl, w1⟩ := ab_i.inv w
  clear w
  obtain ⟨x, r, rfl, w⟩ := ab_i.inv w1
  clear w1
  exact lv_isub hx hb hd (w ad H locs ls h1 h2 h3 hl hlen hw hS hb1 hb2)
theorem ab_j_imul (cx : ab_cx p l R s m args meth c D dA sb A k d X)  (hd : decode (mC k) pc = .ok (.imul, n)) (hn : nx = pc + n) (hln : ab_ln (.imul) n = true) (hok : ok_i k pc (.imul) au = true) (w : ab_rs (mCC d) post (ab_I p l e R s m args below meth c Q D dA sb A ad0 n0 k) h (ab_do mB mF (mR k) X (.imul) nx au lv st b h)) : ab_I p l e R s m args below meth c Q D dA sb A ad0 n0 k (pc, lv, st, b, h) := by
  obtain rfl := Nat.eq_of_beq_eq_true hln
  subst hn
  intro ad H locs ls h1 h2 h3 hl hlen hw hS hb1 hb2
  obtain ⟨hx, hb, hml, hown, hts, hK, hex, hA, hin, hR, hX, hM⟩ := cx
  obtain ⟨y, r1, rfl, w1⟩ := ab_i.inv w
  clear w
  obtain ⟨x, r, rfl, w⟩ := ab_i.inv w1
  clear w1
  exact lv_imul hx hb hd (w ad H locs ls h1 h2 h3 hl hlen hw hS hb1 hb2)
theorem ab_j_iand (cx : ab_cx p l R s m args meth c D dA sb A k d X)  (hd : decode (mC k) pc = .ok (.iand, n)) (hn : nx = pc + n) (hln : ab_ln (.iand) n = true) (hok : ok_i k pc (.iand) au = true) (w : ab_rs (mCC d) post (ab_I p l e R s m args below meth c Q D dA sb A ad0 n0 k) h (ab_do mB mF (mR k) X (.iand) nx au lv st b h)) : ab_I p l e R s m args below meth c Q D dA sb A ad0 n0 k (pc, lv, st, b, h) := by
  obtain rfl := Nat.eq_of_beq_eq_true hln
  subst hn
  intro ad H locs ls h1 h2 h3 hl hlen hw hS hb1 hb2
  obtain ⟨hx, hb, hml, hown, hts, hK, hex, hA, hin, hR, hX, hM⟩ := cx
  obtain ⟨y, r1, rfl, w1⟩ := ab_i.inv w
  clear w
  obtain ⟨x, r, rfl, w⟩ := ab_i.inv w1
  clear w1
  exact lv_iand hx hb hd (w ad H locs ls h1 h2 h3 hl hlen hw hS hb1 hb2)
theorem ab_j_ior (cx : ab_cx p l R s m args meth c D dA sb A k d X)  (hd : decode (mC k) pc = .ok (.ior, n)) (hn : nx = pc + n) (hln : ab_ln (.ior) n = true) (hok : ok_i k pc (.ior) au = true) (w : ab_rs (mCC d) post (ab_I p l e R s m args below meth c Q D dA sb A ad0 n0 k) h (ab_do mB mF (mR k) X (.ior) nx au lv st b h)) : ab_I p l e R s m args below meth c Q D dA sb A ad0 n0 k (pc, lv, st, b, h) := by
  obtain rfl := Nat.eq_of_beq_eq_true hln
  subst hn
  intro ad H locs ls h1 h2 h3 hl hlen hw hS hb1 hb2
  obtain ⟨hx, hb, hml, hown, hts, hK, hex, hA, hin, hR, hX, hM⟩ := cx
  obtain ⟨y, r1, rfl, w1⟩ := ab_i.inv w
  clear w
  obtain ⟨x, r, rfl, w⟩ := ab_i.inv w1
  clear w1
  exact lv_ior hx hb hd (w ad H locs ls h1 h2 h3 hl hlen hw hS hb1 hb2)
theorem ab_j_ishl (cx : ab_cx p l R s m args meth c D dA sb A k d X)  (hd : decode (mC k) pc = .ok (.ishl, n)) (hn : nx = pc + n) (hln : ab_ln (.ishl) n = true) (hok : ok_i k pc (.ishl) au = true) (w : ab_rs (mCC d) post (ab_I p l e R s m args below meth c Q D dA sb A ad0 n0 k) h (ab_do mB mF (mR k) X (.ishl) nx au lv st b h)) : ab_I p l e R s m args below meth c Q D dA sb A ad0 n0 k (pc, lv, st, b, h) := by
  obtain rfl := Nat.eq_of_beq_eq_true hln
  subst hn
  intro ad H locs ls h1 h2 h3 hl hlen hw hS hb1 hb2
  obtain ⟨hx, hb, hml, hown, hts, hK, hex, hA, hin, hR, hX, hM⟩ := cx
  obtain ⟨y, r1, rfl, w1⟩ := ab_i.inv w
  clear w
  obtain ⟨x, r, rfl, w⟩ := ab_i.inv w1
  clear w1
  exact lv_ishl hx hb hd (w ad H locs ls h1 h2 h3 hl hlen hw hS hb1 hb2)
theorem ab_j_ishr (cx : ab_cx p l R s m args meth c D dA sb A k d X)  (hd : decode (mC k) pc = .ok (.ishr, n)) (hn : nx = pc + n) (hln : ab_ln (.ishr) n = true) (hok : ok_i k pc (.ishr) au = true) (w : ab_rs (mCC d) post (ab_I p l e R s m args below meth c Q D dA sb A ad0 n0 k) h (ab_do mB mF (mR k) X (.ishr) nx au lv st b h)) : ab_I p l e R s m args below meth c Q D dA sb A ad0 n0 k (pc, lv, st, b, h) := by
  obtain rfl := Nat.eq_of_beq_eq_true hln
  subst hn
  intro ad H locs ls h1 h2 h3 hl hlen hw hS hb1 hb2
  obtain ⟨hx, hb, hml, hown, hts, hK, hex, hA, hin, hR, hX, hM⟩ := cx
  obtain ⟨y, r1, rfl, w1⟩ := ab_i.inv w
  clear w
  obtain ⟨x, r, rfl, w⟩ := ab_i.inv w1
  clear w1
  exact lv_ishr hx hb hd (w ad H locs ls h1 h2 h3 hl hlen hw hS hb1 hb2)
theorem ab_j_iushr (cx : ab_cx p l R s m args meth c D dA sb A k d X)  (hd : decode (mC k) pc = .ok (.iushr, n)) (hn : nx = pc + n) (hln : ab_ln (.iushr) n = true) (hok : ok_i k pc (.iushr) au = true) (w : ab_rs (mCC d) post (ab_I p l e R s m args below meth c Q D dA sb A ad0 n0 k) h (ab_do mB mF (mR k) X (.iushr) nx au lv st b h)) : ab_I p l e R s m args below meth c Q D dA sb A ad0 n0 k (pc, lv, st, b, h) := by
  obtain rfl := Nat.eq_of_beq_eq_true hln
  subst hn
  intro ad H locs ls h1 h2 h3 hl hlen hw hS hb1 hb2
  obtain ⟨hx, hb, hml, hown, hts, hK, hex, hA, hin, hR, hX, hM⟩ := cx
  obtain ⟨y, r1, rfl, w1⟩ := ab_i.inv w
  clear w
  obtain ⟨x, r, rfl, w⟩ := ab_i.inv w1
  clear w1
  exact lv_iushr hx hb hd rfl (w ad H locs ls h1 h2 h3 hl hlen hw hS hb1 hb2)
theorem ab_j_idiv (cx : ab_cx p l R s m args meth c D dA sb A k d X)  (hd : decode (mC k) pc = .ok (.idiv, n)) (hn : nx = pc + n) (hln : ab_ln (.idiv) n = true) (hok : ok_i k pc (.idiv) au = true) (w : ab_rs (mCC d) post (ab_I p l e R s m args below meth c Q D dA sb A ad0 n0 k) h (ab_do mB mF (mR k) X (.idiv) nx au lv st b h)) : ab_I p l e R s m args below meth c Q D dA sb A ad0 n0 k (pc, lv, st, b, h) := by
  obtain rfl := Nat.eq_of_beq_eq_true hln
  subst hn
  intro ad H locs ls h1 h2 h3 hl hlen hw hS hb1 hb2
  obtain ⟨hx, hb, hml, hown, hts, hK, hex, hA, hin, hR, hX, hM⟩ := cx
  obtain ⟨y, r1, rfl, w1⟩ := ab_i.inv w
  clear w
  obtain ⟨x, r, rfl, w⟩ := ab_i.inv w1
  clear w1
  obtain ⟨hz, w⟩ := ab_gd.inv w
  rw [Bool.not_eq_true', decide_eq_false_iff_not] at hz
  exact lv_idiv hx hb hd hz (w ad H locs ls h1 h2 h3 hl hlen hw hS hb1 hb2)
theorem ab_j_irem (cx : ab_cx p l R s m args meth c D dA sb A k d X)  (hd : decode (mC k) pc = .ok (.irem, n)) (hn : nx = pc + n) (hln : ab_ln (.irem) n = true) (hok : ok_i k pc (.irem) au = true) (w : ab_rs (mCC d) post (ab_I p l e R s m args below meth c Q D dA sb A ad0 n0 k) h (ab_do mB mF (mR k) X (.irem) nx au lv st b h)) : ab_I p l e R s m args below meth c Q D dA sb A ad0 n0 k (pc, lv, st, b, h) := by
  obtain rfl := Nat.eq_of_beq_eq_true hln
  subst hn
  intro ad H locs ls h1 h2 h3 hl hlen hw hS hb1 hb2
  obtain ⟨hx, hb, hml, hown, hts, hK, hex, hA, hin, hR, hX, hM⟩ := cx
  obtain ⟨y, r1, rfl, w1⟩ := ab_i.inv w
  clear w
  obtain ⟨x, r, rfl, w⟩ := ab_i.inv w1
  clear w1
  obtain ⟨hz, w⟩ := ab_gd.inv w
  rw [Bool.not_eq_true', decide_eq_false_iff_not] at hz
  exact lv_irem hx hb hd hz (w ad H locs ls h1 h2 h3 hl hlen hw hS hb1 hb2)
theorem ab_j_ineg (cx : ab_cx p l R s m args meth c D dA sb A k d X)  (hd : decode (mC k) pc = .ok (.ineg, n)) (hn : nx = pc + n) (hln : ab_ln (.ineg) n = true) (hok : ok_i k pc (.ineg) au = true) (w : ab_rs (mCC d) post (ab_I p l e R s m args below meth c Q D dA sb A ad0 n0 k) h (ab_do mB mF (mR k) X (.ineg) nx au lv st b h)) : ab_I p l e R s m args below meth c Q D dA sb A ad0 n0 k (pc, lv, st, b, h) := by
  obtain rfl := Nat.eq_of_beq_eq_true hln
  subst hn
  intro ad H locs ls h1 h2 h3 hl hlen hw hS hb1 hb2
  obtain ⟨hx, hb, hml, hown, hts, hK, hex, hA, hin, hR, hX, hM⟩ := cx
  obtain ⟨x, r, rfl, w⟩ := ab_i.inv w
  exact lv_ineg hx hb hd (w ad H locs ls h1 h2 h3 hl hlen hw hS hb1 hb2)
theorem ab_j_ladd (cx : ab_cx p l R s m args meth c D dA sb A k d X)  (hd : decode (mC k) pc = .ok (.ladd, n)) (hn : nx = pc + n) (hln : ab_ln (.ladd) n = true) (hok : ok_i k pc (.ladd) au = true) (w : ab_rs (mCC d) post (ab_I p l e R s m args below meth c Q D dA sb A ad0 n0 k) h (ab_do mB mF (mR k) X (.ladd) nx au lv st b h)) : ab_I p l e R s m args below meth c Q D dA sb A ad0 n0 k (pc, lv, st, b, h) := by
  obtain rfl := Nat.eq_of_beq_eq_true hln
  subst hn
  intro ad H locs ls h1 h2 h3 hl hlen hw hS hb1 hb2
  obtain ⟨hx, hb, hml, hown, hts, hK, hex, hA, hin, hR, hX, hM⟩ := cx
  obtain ⟨y, r1, rfl, w1⟩ := ab_l.inv w
  clear w
  obtain ⟨x, r, rfl, w⟩ := ab_l.inv w1
  clear w1
  exact lv_ladd hx hb hd (w ad H locs ls h1 h2 h3 hl hlen hw hS hb1 hb2)
theorem ab_j_lsub (cx : ab_cx p l R s m args meth c D dA sb A k d X)  (hd : decode (mC k) pc = .ok (.lsub, n)) (hn : nx = pc + n) (hln : ab_ln (.lsub) n = true) (hok : ok_i k pc (.lsub) au = true) (w : ab_rs (mCC d) post (ab_I p l e R s m args below meth c Q D dA sb A ad0 n0 k) h (ab_do mB mF (mR k) X (.lsub) nx au lv st b h)) : ab_I p l e R s m args below meth c Q D dA sb A ad0 n0 k (pc, lv, st, b, h) := by
  obtain rfl := Nat.eq_of_beq_eq_true hln
  subst hn
  intro ad H locs ls h1 h2 h3 hl hlen hw hS hb1 hb2
  obtain ⟨hx, hb, hml, hown, hts, hK, hex, hA, hin, hR, hX, hM⟩ := cx
  obtain ⟨y, r1, rfl, w1⟩ := ab_l.inv w
  clear w
  obtain ⟨x, r, rfl, w⟩ := ab_l.inv w1
  clear w1
  exact lv_lsub hx hb hd (w ad H locs ls h1 h2 h3 hl hlen hw hS hb1 hb2)
theorem ab_j_land (cx : ab_cx p l R s m args meth c D dA sb A k d X)  (hd : decode (mC k) pc = .ok (.land, n)) (hn : nx = pc + n) (hln : ab_ln (.land) n = true) (hok : ok_i k pc (.land) au = true) (w : ab_rs (mCC d) post (ab_I p l e R s m args below meth c Q D dA sb A ad0 n0 k) h (ab_do mB mF (mR k) X (.land) nx au lv st b h)) : ab_I p l e R s m args below meth c Q D dA sb A ad0 n0 k (pc, lv, st, b, h) := by
  obtain rfl := Nat.eq_of_beq_eq_true hln
  subst hn
  intro ad H locs ls h1 h2 h3 hl hlen hw hS hb1 hb2
  obtain ⟨hx, hb, hml, hown, hts, hK, hex, hA, hin, hR, hX, hM⟩ := cx
  obtain ⟨y, r1, rfl, w1⟩ := ab_l.inv w
  clear w
  obtain ⟨x, r, rfl, w⟩ := ab_l.inv w1
  clear w1
  exact lv_land hx hb hd (w ad H locs ls h1 h2 h3 hl hlen hw hS hb1 hb2)
theorem ab_j_lor (cx : ab_cx p l R s m args meth c D dA sb A k d X)  (hd : decode (mC k) pc = .ok (.lor, n)) (hn : nx = pc + n) (hln : ab_ln (.lor) n = true) (hok : ok_i k pc (.lor) au = true) (w : ab_rs (mCC d) post (ab_I p l e R s m args below meth c Q D dA sb A ad0 n0 k) h (ab_do mB mF (mR k) X (.lor) nx au lv st b h)) : ab_I p l e R s m args below meth c Q D dA sb A ad0 n0 k (pc, lv, st, b, h) := by
  obtain rfl := Nat.eq_of_beq_eq_true hln
  subst hn
  intro ad H locs ls h1 h2 h3 hl hlen hw hS hb1 hb2
  obtain ⟨hx, hb, hml, hown, hts, hK, hex, hA, hin, hR, hX, hM⟩ := cx
  obtain ⟨y, r1, rfl, w1⟩ := ab_l.inv w
  clear w
  obtain ⟨x, r, rfl, w⟩ := ab_l.inv w1
  clear w1
  exact lv_lor hx hb hd (w ad H locs ls h1 h2 h3 hl hlen hw hS hb1 hb2)
theorem ab_j_lxor (cx : ab_cx p l R s m args meth c D dA sb A k d X)  (hd : decode (mC k) pc = .ok (.lxor, n)) (hn : nx = pc + n) (hln : ab_ln (.lxor) n = true) (hok : ok_i k pc (.lxor) au = true) (w : ab_rs (mCC d) post (ab_I p l e R s m args below meth c Q D dA sb A ad0 n0 k) h (ab_do mB mF (mR k) X (.lxor) nx au lv st b h)) : ab_I p l e R s m args below meth c Q D dA sb A ad0 n0 k (pc, lv, st, b, h) := by
  obtain rfl := Nat.eq_of_beq_eq_true hln
  subst hn
  intro ad H locs ls h1 h2 h3 hl hlen hw hS hb1 hb2
  obtain ⟨hx, hb, hml, hown, hts, hK, hex, hA, hin, hR, hX, hM⟩ := cx
  obtain ⟨y, r1, rfl, w1⟩ := ab_l.inv w
  clear w
  obtain ⟨x, r, rfl, w⟩ := ab_l.inv w1
  clear w1
  exact lv_lxor hx hb hd (w ad H locs ls h1 h2 h3 hl hlen hw hS hb1 hb2)
theorem ab_j_lneg (cx : ab_cx p l R s m args meth c D dA sb A k d X)  (hd : decode (mC k) pc = .ok (.lneg, n)) (hn : nx = pc + n) (hln : ab_ln (.lneg) n = true) (hok : ok_i k pc (.lneg) au = true) (w : ab_rs (mCC d) post (ab_I p l e R s m args below meth c Q D dA sb A ad0 n0 k) h (ab_do mB mF (mR k) X (.lneg) nx au lv st b h)) : ab_I p l e R s m args below meth c Q D dA sb A ad0 n0 k (pc, lv, st, b, h) := by
  obtain rfl := Nat.eq_of_beq_eq_true hln
  subst hn
  intro ad H locs ls h1 h2 h3 hl hlen hw hS hb1 hb2
  obtain ⟨hx, hb, hml, hown, hts, hK, hex, hA, hin, hR, hX, hM⟩ := cx
  obtain ⟨x, r, rfl, w⟩ := ab_l.inv w
  exact lv_lneg hx hb hd (w ad H locs ls h1 h2 h3 hl hlen hw hS hb1 hb2)
theorem ab_j_lshl (cx : ab_cx p l R s m args meth c D dA sb A k d X)  (hd : decode (mC k) pc = .ok (.lshl, n)) (hn : nx = pc + n) (hln : ab_ln (.lshl) n = true) (hok : ok_i k pc (.lshl) au = true) (w : ab_rs (mCC d) post (ab_I p l e R s m args below meth c Q D dA sb A ad0 n0 k) h (ab_do mB mF (mR k) X (.lshl) nx au lv st b h)) : ab_I p l e R s m args below meth c Q D dA sb A ad0 n0 k (pc, lv, st, b, h) := by
  obtain rfl := Nat.eq_of_beq_eq_true hln
  subst hn
  intro ad H locs ls h1 h2 h3 hl hlen hw hS hb1 hb2
  obtain ⟨hx, hb, hml, hown, hts, hK, hex, hA, hin, hR, hX, hM⟩ := cx
  obtain ⟨y, r1, rfl, w1⟩ := ab_i.inv w
  clear w
  obtain ⟨x, r, rfl, w⟩ := ab_l.inv w1
  clear w1
  exact lv_lshl hx hb hd rfl (w ad H locs ls h1 h2 h3 hl hlen hw hS hb1 hb2)
theorem ab_j_lshr (cx : ab_cx p l R s m args meth c D dA sb A k d X)  (hd : decode (mC k) pc = .ok (.lshr, n)) (hn : nx = pc + n) (hln : ab_ln (.lshr) n = true) (hok : ok_i k pc (.lshr) au = true) (w : ab_rs (mCC d) post (ab_I p l e R s m args below meth c Q D dA sb A ad0 n0 k) h (ab_do mB mF (mR k) X (.lshr) nx au lv st b h)) : ab_I p l e R s m args below meth c Q D dA sb A ad0 n0 k (pc, lv, st, b, h) := by
  obtain rfl := Nat.eq_of_beq_eq_true hln
  subst hn
  intro ad H locs ls h1 h2 h3 hl hlen hw hS hb1 hb2
  obtain ⟨hx, hb, hml, hown, hts, hK, hex, hA, hin, hR, hX, hM⟩ := cx
  obtain ⟨y, r1, rfl, w1⟩ := ab_i.inv w
  clear w
  obtain ⟨x, r, rfl, w⟩ := ab_l.inv w1
  clear w1
  exact lv_lshr hx hb hd rfl (w ad H locs ls h1 h2 h3 hl hlen hw hS hb1 hb2)
theorem ab_j_lushr (cx : ab_cx p l R s m args meth c D dA sb A k d X)  (hd : decode (mC k) pc = .ok (.lushr, n)) (hn : nx = pc + n) (hln : ab_ln (.lushr) n = true) (hok : ok_i k pc (.lushr) au = true) (w : ab_rs (mCC d) post (ab_I p l e R s m args below meth c Q D dA sb A ad0 n0 k) h (ab_do mB mF (mR k) X (.lushr) nx au lv st b h)) : ab_I p l e R s m args below meth c Q D dA sb A ad0 n0 k (pc, lv, st, b, h) := by
  obtain rfl := Nat.eq_of_beq_eq_true hln
  subst hn
  intro ad H locs ls h1 h2 h3 hl hlen hw hS hb1 hb2
  obtain ⟨hx, hb, hml, hown, hts, hK, hex, hA, hin, hR, hX, hM⟩ := cx
  obtain ⟨y, r1, rfl, w1⟩ := ab_i.inv w
  clear w
  obtain ⟨x, r, rfl, w⟩ := ab_l.inv w1
  clear w1
  exact lv_lushr hx hb hd rfl (w ad H locs ls h1 h2 h3 hl hlen hw hS hb1 hb2)
theorem ab_j_lcmp (cx : ab_cx p l R s m args meth c D dA sb A k d X)  (hd : decode (mC k) pc = .ok (.lcmp, n)) (hn : nx = pc + n) (hln : ab_ln (.lcmp) n = true) (hok : ok_i k pc (.lcmp) au = true) (w : ab_rs (mCC d) post (ab_I p l e R s m args below meth c Q D dA sb A ad0 n0 k) h (ab_do mB mF (mR k) X (.lcmp) nx au lv st b h)) : ab_I p l e R s m args below meth c Q D dA sb A ad0 n0 k (pc, lv, st, b, h) := by
  obtain rfl := Nat.eq_of_beq_eq_true hln
  subst hn
  intro ad H locs ls h1 h2 h3 hl hlen hw hS hb1 hb2
  obtain ⟨hx, hb, hml, hown, hts, hK, hex, hA, hin, hR, hX, hM⟩ := cx
  obtain ⟨y, r1, rfl, w1⟩ := ab_l.inv w
  clear w
  obtain ⟨x, r, rfl, w⟩ := ab_l.inv w1
  clear w1
  exact W.lcmp hx hb hd (w ad H locs ls h1 h2 h3 hl hlen hw hS hb1 hb2)
theorem ab_j_l2i (cx : ab_cx p l R s m args meth c D dA sb A k d X)  (hd : decode (mC k) pc = .ok (.l2i, n)) (hn : nx = pc + n) (hln : ab_ln (.l2i) n = true) (hok : ok_i k pc (.l2i) au = true) (w : ab_rs (mCC d) post (ab_I p l e R s m args below meth c Q D dA sb A ad0 n0 k) h (ab_do mB mF (mR k) X (.l2i) nx au lv st b h)) : ab_I p l e R s m args below meth c Q D dA sb A ad0 n0 k (pc, lv, st, b, h) := by
  obtain rfl := Nat.eq_of_beq_eq_true hln
  subst hn
  intro ad H locs ls h1 h2 h3 hl hlen hw hS hb1 hb2
  obtain ⟨hx, hb, hml, hown, hts, hK, hex, hA, hin, hR, hX, hM⟩ := cx
  obtain ⟨x, r, rfl, w⟩ := ab_l.inv w
  exact lv_l2i hx hb hd rfl (w ad H locs ls h1 h2 h3 hl hlen hw hS hb1 hb2)
theorem ab_j_dup (cx : ab_cx p l R s m args meth c D dA sb A k d X)  (hd : decode (mC k) pc = .ok (.dup, n)) (hn : nx = pc + n) (hln : ab_ln (.dup) n = true) (hok : ok_i k pc (.dup) au = true) (w : ab_rs (mCC d) post (ab_I p l e R s m args below meth c Q D dA sb A ad0 n0 k) h (ab_do mB mF (mR k) X (.dup) nx au lv st b h)) : ab_I p l e R s m args below meth c Q D dA sb A ad0 n0 k (pc, lv, st, b, h) := by
  obtain rfl := Nat.eq_of_beq_eq_true hln
  subst hn
  intro ad H locs ls h1 h2 h3 hl hlen hw hS hb1 hb2
  obtain ⟨hx, hb, hml, hown, hts, hK, hex, hA, hin, hR, hX, hM⟩ := cx
  obtain ⟨v, r, rfl, w⟩ := ab_v.inv w
  obtain ⟨hz, w⟩ := ab_gd.inv w
  rw [Bool.not_eq_true'] at hz
  exact lv_dup hx hb hd ((ab_cat1 ad sb v).trans (ab_c2_cat hz)) (w ad H locs ls h1 h2 h3 hl hlen hw hS hb1 hb2)
theorem ab_j_pop (cx : ab_cx p l R s m args meth c D dA sb A k d X)  (hd : decode (mC k) pc = .ok (.pop, n)) (hn : nx = pc + n) (hln : ab_ln (.pop) n = true) (hok : ok_i k pc (.pop) au = true) (w : ab_rs (mCC d) post (ab_I p l e R s m args below meth c Q D dA sb A ad0 n0 k) h (ab_do mB mF (mR k) X (.pop) nx au lv st b h)) : ab_I p l e R s m args below meth c Q D dA sb A ad0 n0 k (pc, lv, st, b, h) := by
  obtain rfl := Nat.eq_of_beq_eq_true hln
  subst hn
  intro ad H locs ls h1 h2 h3 hl hlen hw hS hb1 hb2
  obtain ⟨hx, hb, hml, hown, hts, hK, hex, hA, hin, hR, hX, hM⟩ := cx
  obtain ⟨v, r, rfl, w⟩ := ab_v.inv w
  obtain ⟨hz, w⟩ := ab_gd.inv w
  rw [Bool.not_eq_true'] at hz
  exact lv_pop hx hb hd ((ab_cat1 ad sb v).trans (ab_c2_cat hz)) (w ad H locs ls h1 h2 h3 hl hlen hw hS hb1 hb2)
theorem ab_j_dup2 (cx : ab_cx p l R s m args meth c D dA sb A k d X)  (hd : decode (mC k) pc = .ok (.dup2, n)) (hn : nx = pc + n) (hln : ab_ln (.dup2) n = true) (hok : ok_i k pc (.dup2) au = true) (w : ab_rs (mCC d) post (ab_I p l e R s m args below meth c Q D dA sb A ad0 n0 k) h (ab_do mB mF (mR k) X (.dup2) nx au lv st b h)) : ab_I p l e R s m args below meth c Q D dA sb A ad0 n0 k (pc, lv, st, b, h) := by
  obtain rfl := Nat.eq_of_beq_eq_true hln
  subst hn
  intro ad H locs ls h1 h2 h3 hl hlen hw hS hb1 hb2
  obtain ⟨hx, hb, hml, hown, hts, hK, hex, hA, hin, hR, hX, hM⟩ := cx
  obtain ⟨v, r, rfl, w⟩ := ab_v.inv w
  obtain ⟨u, r, rfl, w⟩ := ab_v.inv w
  obtain ⟨hz, w⟩ := ab_gd.inv w
  rw [Bool.and_eq_true, Bool.not_eq_true', Bool.not_eq_true'] at hz
  exact lv_dup2_11 hx hb hd ((ab_cat1 ad sb v).trans (ab_c2_cat hz.1)) ((ab_cat1 ad sb u).trans (ab_c2_cat hz.2)) (w ad H locs ls h1 h2 h3 hl hlen hw hS hb1 hb2)
theorem ab_j_goto (cx : ab_cx p l R s m args meth c D dA sb A k d X) (o : Int) (hd : decode (mC k) pc = .ok (.goto o, n)) (hn : nx = pc + n) (hln : ab_ln (.goto o) n = true) (hok : ok_i k pc (.goto o) au = true) (w : ab_rs (mCC d) post (ab_I p l e R s m args below meth c Q D dA sb A ad0 n0 k) h (ab_do mB mF (mR k) X (.goto o) nx au lv st b h)) : ab_I p l e R s m args below meth c Q D dA sb A ad0 n0 k (pc, lv, st, b, h) := by
  obtain rfl := Nat.eq_of_beq_eq_true hln
  subst hn
  intro ad H locs ls h1 h2 h3 hl hlen hw hS hb1 hb2
  obtain ⟨hx, hb, hml, hown, hts, hK, hex, hA, hin, hR, hX, hM⟩ := cx
  obtain ⟨t, ar, rfl, w1⟩ := ab_jp.inv w
  clear w
  have w := w1
  clear w1
  have ht : (pc : Int) + o = (t : Int) := by
    dsimp only [ok_i] at hok
    split at hok
    · rename_i he
      rw [(List.cons.inj he).1]
      exact of_decide_eq_true hok
    · cases hok
  exact lv_goto hx hb hd ht (w ad H locs ls h1 h2 h3 hl hlen hw hS hb1 hb2)
theorem ab_j_ifnull (cx : ab_cx p l R s m args meth c D dA sb A k d X) (o : Int) (hd : decode (mC k) pc = .ok (.ifnull o, n)) (hn : nx = pc + n) (hln : ab_ln (.ifnull o) n = true) (hok : ok_i k pc (.ifnull o) au = true) (w : ab_rs (mCC d) post (ab_I p l e R s m args below meth c Q D dA sb A ad0 n0 k) h (ab_do mB mF (mR k) X (.ifnull o) nx au lv st b h)) : ab_I p l e R s m args below meth c Q D dA sb A ad0 n0 k (pc, lv, st, b, h) := by
  obtain rfl := Nat.eq_of_beq_eq_true hln
  subst hn
  intro ad H locs ls h1 h2 h3 hl hlen hw hS hb1 hb2
  obtain ⟨hx, hb, hml, hown, hts, hK, hex, hA, hin, hR, hX, hM⟩ := cx
  obtain ⟨t, ar, rfl, w1⟩ := ab_jp.inv w
  clear w
  have w := w1
  clear w1
  have ht : (pc : Int) + o = (t : Int) := by
    dsimp only [ok_i] at hok
    split at hok
    · rename_i he
      rw [(List.cons.inj he).1]
      exact of_decide_eq_true hok
    · cases hok
  split at w
  · exact lv_ifnullN hx hb hd ht (w ad H locs ls h1 h2 h3 hl hlen hw hS hb1 hb2)
  · exact lv_ifnull hx hb hd (w ad H locs ls h1 h2 h3 hl hlen hw hS hb1 hb2)
  · cases w
theorem ab_j_ifnonnull (cx : ab_cx p l R s m args meth c D dA sb A k d X) (o : Int) (hd : decode (mC k) pc = .ok (.ifnonnull o, n)) (hn : nx = pc + n) (hln : ab_ln (.ifnonnull o) n = true) (hok : ok_i k pc (.ifnonnull o) au = true) (w : ab_rs (mCC d) post (ab_I p l e R s m args below meth c Q D dA sb A ad0 n0 k) h (ab_do mB mF (mR k) X (.ifnonnull o) nx au lv st b h)) : ab_I p l e R s m args below meth c Q D dA sb A ad0 n0 k (pc, lv, st, b, h) := by
  obtain rfl := Nat.eq_of_beq_eq_true hln
  subst hn
  intro ad H locs ls h1 h2 h3 hl hlen hw hS hb1 hb2
  obtain ⟨hx, hb, hml, hown, hts, hK, hex, hA, hin, hR, hX, hM⟩ := cx
  obtain ⟨t, ar, rfl, w1⟩ := ab_jp.inv w
  clear w
  have w := w1
  clear w1
  have ht : (pc : Int) + o = (t : Int) := by
    dsimp only [ok_i] at hok
    split at hok
    · rename_i he
      rw [(List.cons.inj he).1]
      exact of_decide_eq_true hok
    · cases hok
  split at w
  · exact lv_ifnonnullN hx hb hd (w ad H locs ls h1 h2 h3 hl hlen hw hS hb1 hb2)
  · exact lv_ifnonnull hx hb hd ht (w ad H locs ls h1 h2 h3 hl hlen hw hS hb1 hb2)
  · cases w
theorem ab_j_ifCond_eq (cx : ab_cx p l R s m args meth c D dA sb A k d X) (o : Int) (hd : decode (mC k) pc = .ok (.ifCond .eq o, n)) (hn : nx = pc + n) (hln : ab_ln (.ifCond .eq o) n = true) (hok : ok_i k pc (.ifCond .eq o) au = true) (w : ab_rs (mCC d) post (ab_I p l e R s m args below meth c Q D dA sb A ad0 n0 k) h (ab_do mB mF (mR k) X (.ifCond .eq o) nx au lv st b h)) : ab_I p l e R s m args below meth c Q D dA sb A ad0 n0 k (pc, lv, st, b, h) := by
  obtain rfl := Nat.eq_of_beq_eq_true hln
  subst hn
  intro ad H locs ls h1 h2 h3 hl hlen hw hS hb1 hb2
  obtain ⟨hx, hb, hml, hown, hts, hK, hex, hA, hin, hR, hX, hM⟩ := cx
  obtain ⟨t, ar, rfl, w1⟩ := ab_jp.inv w
  clear w
  have w := w1
  clear w1
  have ht : (pc : Int) + o = (t : Int) := by
    dsimp only [ok_i] at hok
    split at hok
    · rename_i he
      rw [(List.cons.inj he).1]
      exact of_decide_eq_true hok
    · cases hok
  obtain ⟨x, r, rfl, w⟩ := ab_i.inv w
  have w := ab_ite.inv w
  exact lv_if_eq hx hb hd ht (fun q => w.1 q ad H locs ls h1 h2 h3 hl hlen hw hS hb1 hb2) (fun q => w.2 q ad H locs ls h1 h2 h3 hl hlen hw hS hb1 hb2)
theorem ab_j_ifCond_ne (cx : ab_cx p l R s m args meth c D dA sb A k d X) (o : Int) (hd : decode (mC k) pc = .ok (.ifCond .ne o, n)) (hn : nx = pc + n) (hln : ab_ln (.ifCond .ne o) n = true) (hok : ok_i k pc (.ifCond .ne o) au = true) (w : ab_rs (mCC d) post (ab_I p l e R s m args below meth c Q D dA sb A ad0 n0 k) h (ab_do mB mF (mR k) X (.ifCond .ne o) nx au lv st b h)) : ab_I p l e R s m args below meth c Q D dA sb A ad0 n0 k (pc, lv, st, b, h) := by
  obtain rfl := Nat.eq_of_beq_eq_true hln
  subst hn
  intro ad H locs ls h1 h2 h3 hl hlen hw hS hb1 hb2
  obtain ⟨hx, hb, hml, hown, hts, hK, hex, hA, hin, hR, hX, hM⟩ := cx
  obtain ⟨t, ar, rfl, w1⟩ := ab_jp.inv w
  clear w
  have w := w1
  clear w1
  have ht : (pc : Int) + o = (t : Int) := by
    dsimp only [ok_i] at hok
    split at hok
    · rename_i he
      rw [(List.cons.inj he).1]
      exact of_decide_eq_true hok
    · cases hok
  obtain ⟨x, r, rfl, w⟩ := ab_i.inv w
  have w := ab_ite.inv w
  exact lv_if_ne hx hb hd ht (fun q => w.2 q ad H locs ls h1 h2 h3 hl hlen hw hS hb1 hb2) (fun q => w.1 q ad H locs ls h1 h2 h3 hl hlen hw hS hb1 hb2)
theorem ab_j_ifCond_lt (cx : ab_cx p l R s m args meth c D dA sb A k d X) (o : Int) (hd : decode (mC k) pc = .ok (.ifCond .lt o, n)) (hn : nx = pc + n) (hln : ab_ln (.ifCond .lt o) n = true) (hok : ok_i k pc (.ifCond .lt o) au = true) (w : ab_rs (mCC d) post (ab_I p l e R s m args below meth c Q D dA sb A ad0 n0 k) h (ab_do mB mF (mR k) X (.ifCond .lt o) nx au lv st b h)) : ab_I p l e R s m args below meth c Q D dA sb A ad0 n0 k (pc, lv, st, b, h) := by
  obtain rfl := Nat.eq_of_beq_eq_true hln
  subst hn
  intro ad H locs ls h1 h2 h3 hl hlen hw hS hb1 hb2
  obtain ⟨hx, hb, hml, hown, hts, hK, hex, hA, hin, hR, hX, hM⟩ := cx
  obtain ⟨t, ar, rfl, w1⟩ := ab_jp.inv w
  clear w
  have w := w1
  clear w1
  have ht : (pc : Int) + o = (t : Int) := by
    dsimp only [ok_i] at hok
    split at hok
    · rename_i he
      rw [(List.cons.inj he).1]
      exact of_decide_eq_true hok
    · cases hok
  obtain ⟨x, r, rfl, w⟩ := ab_i.inv w
  have w := ab_ite.inv w
  exact lv_if_lt hx hb hd ht (fun q => w.1 q ad H locs ls h1 h2 h3 hl hlen hw hS hb1 hb2) (fun q => w.2 q ad H locs ls h1 h2 h3 hl hlen hw hS hb1 hb2)
theorem ab_j_ifCond_ge (cx : ab_cx p l R s m args meth c D dA sb A k d X) (o : Int) (hd : decode (mC k) pc = .ok (.ifCond .ge o, n)) (hn : nx = pc + n) (hln : ab_ln (.ifCond .ge o) n = true) (hok : ok_i k pc (.ifCond .ge o) au = true) (w : ab_rs (mCC d) post (ab_I p l e R s m args below meth c Q D dA sb A ad0 n0 k) h (ab_do mB mF (mR k) X (.ifCond .ge o) nx au lv st b h)) : ab_I p l e R s m args below meth c Q D dA sb A ad0 n0 k (pc, lv, st, b, h) := by
  obtain rfl := Nat.eq_of_beq_eq_true hln
  subst hn
  intro ad H locs ls h1 h2 h3 hl hlen hw hS hb1 hb2
  obtain ⟨hx, hb, hml, hown, hts, hK, hex, hA, hin, hR, hX, hM⟩ := cx
  obtain ⟨t, ar, rfl, w1⟩ := ab_jp.inv w
  clear w
  have w := w1
  clear w1
  have ht : (pc : Int) + o = (t : Int) := by
    dsimp only [ok_i] at hok
    split at hok
    · rename_i he
      rw [(List.cons.inj he).1]
      exact of_decide_eq_true hok
    · cases hok
  obtain ⟨x, r, rfl, w⟩ := ab_i.inv w
  have w := ab_ite.inv w
  exact lv_if_ge hx hb hd ht (fun q => w.1 q ad H locs ls h1 h2 h3 hl hlen hw hS hb1 hb2) (fun q => w.2 q ad H locs ls h1 h2 h3 hl hlen hw hS hb1 hb2)
theorem ab_j_ifCond_gt (cx : ab_cx p l R s m args meth c D dA sb A k d X) (o : Int) (hd : decode (mC k) pc = .ok (.ifCond .gt o, n)) (hn : nx = pc + n) (hln : ab_ln (.ifCond .gt o) n = true) (hok : ok_i k pc (.ifCond .gt o) au = true) (w : ab_rs (mCC d) post (ab_I p l e R s m args below meth c Q D dA sb A ad0 n0 k) h (ab_do mB mF (mR k) X (.ifCond .gt o) nx au lv st b h)) : ab_I p l e R s m args below meth c Q D dA sb A ad0 n0 k (pc, lv, st, b, h) := by
  obtain rfl := Nat.eq_of_beq_eq_true hln
  subst hn
  intro ad H locs ls h1 h2 h3 hl hlen hw hS hb1 hb2
  obtain ⟨hx, hb, hml, hown, hts, hK, hex, hA, hin, hR, hX, hM⟩ := cx
  obtain ⟨t, ar, rfl, w1⟩ := ab_jp.inv w
  clear w
  have w := w1
  clear w1
  have ht : (pc : Int) + o = (t : Int) := by
    dsimp only [ok_i] at hok
    split at hok
    · rename_i he
      rw [(List.cons.inj he).1]
      exact of_decide_eq_true hok
    · cases hok
  obtain ⟨x, r, rfl, w⟩ := ab_i.inv w
  have w := ab_ite.inv w
  exact lv_if_gt hx hb hd ht (fun q => w.1 q ad H locs ls h1 h2 h3 hl hlen hw hS hb1 hb2) (fun q => w.2 q ad H locs ls h1 h2 h3 hl hlen hw hS hb1 hb2)
theorem ab_j_ifCond_le (cx : ab_cx p l R s m args meth c D dA sb A k d X) (o : Int) (hd : decode (mC k) pc = .ok (.ifCond .le o, n)) (hn : nx = pc + n) (hln : ab_ln (.ifCond .le o) n = true) (hok : ok_i k pc (.ifCond .le o) au = true) (w : ab_rs (mCC d) post (ab_I p l e R s m args below meth c Q D dA sb A ad0 n0 k) h (ab_do mB mF (mR k) X (.ifCond .le o) nx au lv st b h)) : ab_I p l e R s m args below meth c Q D dA sb A ad0 n0 k (pc, lv, st, b, h) := by
  obtain rfl := Nat.eq_of_beq_eq_true hln
  subst hn
  intro ad H locs ls h1 h2 h3 hl hlen hw hS hb1 hb2
  obtain ⟨hx, hb, hml, hown, hts, hK, hex, hA, hin, hR, hX, hM⟩ := cx
  obtain ⟨t, ar, rfl, w1⟩ := ab_jp.inv w
  clear w
  have w := w1
  clear w1
  have ht : (pc : Int) + o = (t : Int) := by
    dsimp only [ok_i] at hok
    split at hok
    · rename_i he
      rw [(List.cons.inj he).1]
      exact of_decide_eq_true hok
    · cases hok
  obtain ⟨x, r, rfl, w⟩ := ab_i.inv w
  have w := ab_ite.inv w
  exact lv_if_le hx hb hd ht (fun q => w.1 q ad H locs ls h1 h2 h3 hl hlen hw hS hb1 hb2) (fun q => w.2 q ad H locs ls h1 h2 h3 hl hlen hw hS hb1 hb2)
theorem ab_j_if_icmp_eq (cx : ab_cx p l R s m args meth c D dA sb A k d X) (o : Int) (hd : decode (mC k) pc = .ok (.if_icmp .eq o, n)) (hn : nx = pc + n) (hln : ab_ln (.if_icmp .eq o) n = true) (hok : ok_i k pc (.if_icmp .eq o) au = true) (w : ab_rs (mCC d) post (ab_I p l e R s m args below meth c Q D dA sb A ad0 n0 k) h (ab_do mB mF (mR k) X (.if_icmp .eq o) nx au lv st b h)) : ab_I p l e R s m args below meth c Q D dA sb A ad0 n0 k (pc, lv, st, b, h) := by
  obtain rfl := Nat.eq_of_beq_eq_true hln
  subst hn
  intro ad H locs ls h1 h2 h3 hl hlen hw hS hb1 hb2
  obtain ⟨hx, hb, hml, hown, hts, hK, hex, hA, hin, hR, hX, hM⟩ := cx
  obtain ⟨t, ar, rfl, w1⟩ := ab_jp.inv w
  clear w
  have w := w1
  clear w1
  have ht : (pc : Int) + o = (t : Int) := by
    dsimp only [ok_i] at hok
    split at hok
    · rename_i he
      rw [(List.cons.inj he).1]
      exact of_decide_eq_true hok
    · cases hok
  obtain ⟨y, r1, rfl, w1⟩ := ab_i.inv w
  clear w
  obtain ⟨x, r, rfl, w⟩ := ab_i.inv w1
  clear w1
  have w := ab_ite.inv w
  exact lv_icmp_eq hx hb hd ht (fun q => w.1 q ad H locs ls h1 h2 h3 hl hlen hw hS hb1 hb2) (fun q => w.2 q ad H locs ls h1 h2 h3 hl hlen hw hS hb1 hb2)
theorem ab_j_if_icmp_ne (cx : ab_cx p l R s m args meth c D dA sb A k d X) (o : Int) (hd : decode (mC k) pc = .ok (.if_icmp .ne o, n)) (hn : nx = pc + n) (hln : ab_ln (.if_icmp .ne o) n = true) (hok : ok_i k pc (.if_icmp .ne o) au = true) (w : ab_rs (mCC d) post (ab_I p l e R s m args below meth c Q D dA sb A ad0 n0 k) h (ab_do mB mF (mR k) X (.if_icmp .ne o) nx au lv st b h)) : ab_I p l e R s m args below meth c Q D dA sb A ad0 n0 k (pc, lv, st, b, h) := by
  obtain rfl := Nat.eq_of_beq_eq_true hln
  subst hn
  intro ad H locs ls h1 h2 h3 hl hlen hw hS hb1 hb2
  obtain ⟨hx, hb, hml, hown, hts, hK, hex, hA, hin, hR, hX, hM⟩ := cx
  obtain ⟨t, ar, rfl, w1⟩ := ab_jp.inv w
  clear w
  have w := w1
  clear w1
  have ht : (pc : Int) + o = (t : Int) := by
    dsimp only [ok_i] at hok
    split at hok
    · rename_i he
      rw [(List.cons.inj he).1]
      exact of_decide_eq_true hok
    · cases hok
  obtain ⟨y, r1, rfl, w1⟩ := ab_i.inv w
  clear w
  obtain ⟨x, r, rfl, w⟩ := ab_i.inv w1
  clear w1
  have w := ab_ite.inv w
  exact lv_icmp_ne hx hb hd ht (fun q => w.2 q ad H locs ls h1 h2 h3 hl hlen hw hS hb1 hb2) (fun q => w.1 q ad H locs ls h1 h2 h3 hl hlen hw hS hb1 hb2)
theorem ab_j_if_icmp_lt (cx : ab_cx p l R s m args meth c D dA sb A k d X) (o : Int) (hd : decode (mC k) pc = .ok (.if_icmp .lt o, n)) (hn : nx = pc + n) (hln : ab_ln (.if_icmp .lt o) n = true) (hok : ok_i k pc (.if_icmp .lt o) au = true) (w : ab_rs (mCC d) post (ab_I p l e R s m args below meth c Q D dA sb A ad0 n0 k) h (ab_do mB mF (mR k) X (.if_icmp .lt o) nx au lv st b h)) : ab_I p l e R s m args below meth c Q D dA sb A ad0 n0 k (pc, lv, st, b, h) := by
  obtain rfl := Nat.eq_of_beq_eq_true hln
  subst hn
  intro ad H locs ls h1 h2 h3 hl hlen hw hS hb1 hb2
  obtain ⟨hx, hb, hml, hown, hts, hK, hex, hA, hin, hR, hX, hM⟩ := cx
  obtain ⟨t, ar, rfl, w1⟩ := ab_jp.inv w
  clear w
  have w := w1
  clear w1
  have ht : (pc : Int) + o = (t : Int) := by
    dsimp only [ok_i] at hok
    split at hok
    · rename_i he
      rw [(List.cons.inj he).1]
      exact of_decide_eq_true hok
    · cases hok
  obtain ⟨y, r1, rfl, w1⟩ := ab_i.inv w
  clear w
  obtain ⟨x, r, rfl, w⟩ := ab_i.inv w1
  clear w1
  have w := ab_ite.inv w
  exact lv_icmp_lt hx hb hd ht (fun q => w.1 q ad H locs ls h1 h2 h3 hl hlen hw hS hb1 hb2) (fun q => w.2 q ad H locs ls h1 h2 h3 hl hlen hw hS hb1 hb2)
theorem ab_j_if_icmp_ge (cx : ab_cx p l R s m args meth c D dA sb A k d X) (o : Int) (hd : decode (mC k) pc = .ok (.if_icmp .ge o, n)) (hn : nx = pc + n) (hln : ab_ln (.if_icmp .ge o) n = true) (hok : ok_i k pc (.if_icmp .ge o) au = true) (w : ab_rs (mCC d) post (ab_I p l e R s m args below meth c Q D dA sb A ad0 n0 k) h (ab_do mB mF (mR k) X (.if_icmp .ge o) nx au lv st b h)) : ab_I p l e R s m args below meth c Q D dA sb A ad0 n0 k (pc, lv, st, b, h) := by
  obtain rfl := Nat.eq_of_beq_eq_true hln
  subst hn
  intro ad H locs ls h1 h2 h3 hl hlen hw hS hb1 hb2
  obtain ⟨hx, hb, hml, hown, hts, hK, hex, hA, hin, hR, hX, hM⟩ := cx
  obtain ⟨t, ar, rfl, w1⟩ := ab_jp.inv w
  clear w
  have w := w1
  clear w1
  have ht : (pc : Int) + o = (t : Int) := by
    dsimp only [ok_i] at hok
    split at hok
    · rename_i he
      rw [(List.cons.inj he).1]
      exact of_decide_eq_true hok
    · cases hok
  obtain ⟨y, r1, rfl, w1⟩ := ab_i.inv w
  clear w
  obtain ⟨x, r, rfl, w⟩ := ab_i.inv w1
  clear w1
  have w := ab_ite.inv w
  exact lv_icmp_ge hx hb hd ht (fun q => w.1 q ad H locs ls h1 h2 h3 hl hlen hw hS hb1 hb2) (fun q => w.2 q ad H locs ls h1 h2 h3 hl hlen hw hS hb1 hb2)
theorem ab_j_if_icmp_gt (cx : ab_cx p l R s m args meth c D dA sb A k d X) (o : Int) (hd : decode (mC k) pc = .ok (.if_icmp .gt o, n)) (hn : nx = pc + n) (hln : ab_ln (.if_icmp .gt o) n = true) (hok : ok_i k pc (.if_icmp .gt o) au = true) (w : ab_rs (mCC d) post (ab_I p l e R s m args below meth c Q D dA sb A ad0 n0 k) h (ab_do mB mF (mR k) X (.if_icmp .gt o) nx au lv st b h)) : ab_I p l e R s m args below meth c Q D dA sb A ad0 n0 k (pc, lv, st, b, h) := by
  obtain rfl := Nat.eq_of_beq_eq_true hln
  subst hn
  intro ad H locs ls h1 h2 h3 hl hlen hw hS hb1 hb2
  obtain ⟨hx, hb, hml, hown, hts, hK, hex, hA, hin, hR, hX, hM⟩ := cx
  obtain ⟨t, ar, rfl, w1⟩ := ab_jp.inv w
  clear w
  have w := w1
  clear w1
  have ht : (pc : Int) + o = (t : Int) := by
    dsimp only [ok_i] at hok
    split at hok
    · rename_i he
      rw [(List.cons.inj he).1]
      exact of_decide_eq_true hok
    · cases hok
  obtain ⟨y, r1, rfl, w1⟩ := ab_i.inv w
  clear w
  obtain ⟨x, r, rfl, w⟩ := ab_i.inv w1
  clear w1
  have w := ab_ite.inv w
  exact lv_icmp_gt hx hb hd ht (fun q => w.1 q ad H locs ls h1 h2 h3 hl hlen hw hS hb1 hb2) (fun q => w.2 q ad H locs ls h1 h2 h3 hl hlen hw hS hb1 hb2)
theorem ab_j_if_icmp_le (cx : ab_cx p l R s m args meth c D dA sb A k d X) (o : Int) (hd : decode (mC k) pc = .ok (.if_icmp .le o, n)) (hn : nx = pc + n) (hln : ab_ln (.if_icmp .le o) n = true) (hok : ok_i k pc (.if_icmp .le o) au = true) (w : ab_rs (mCC d) post (ab_I p l e R s m args below meth c Q D dA sb A ad0 n0 k) h (ab_do mB mF (mR k) X (.if_icmp .le o) nx au lv st b h)) : ab_I p l e R s m args below meth c Q D dA sb A ad0 n0 k (pc, lv, st, b, h) := by
  obtain rfl := Nat.eq_of_beq_eq_true hln
  subst hn
  intro ad H locs ls h1 h2 h3 hl hlen hw hS hb1 hb2
  obtain ⟨hx, hb, hml, hown, hts, hK, hex, hA, hin, hR, hX, hM⟩ := cx
  obtain ⟨t, ar, rfl, w1⟩ := ab_jp.inv w
  clear w
  have w := w1
  clear w1
  have ht : (pc : Int) + o = (t : Int) := by
    dsimp only [ok_i] at hok
    split at hok
    · rename_i he
      rw [(List.cons.inj he).1]
      exact of_decide_eq_true hok
    · cases hok
  obtain ⟨y, r1, rfl, w1⟩ := ab_i.inv w
  clear w
  obtain ⟨x, r, rfl, w⟩ := ab_i.inv w1
  clear w1
  have w := ab_ite.inv w
  exact lv_icmp_le hx hb hd ht (fun q => w.1 q ad H locs ls h1 h2 h3 hl hlen hw hS hb1 hb2) (fun q => w.2 q ad H locs ls h1 h2 h3 hl hlen hw hS hb1 hb2)
theorem ab_j_tableswitch (cx : ab_cx p l R s m args meth c D dA sb A k d X) (df lo hi : Int) (offs : Array Int) (hd : decode (mC k) pc = .ok (.tableswitch df lo hi offs, n)) (hn : nx = pc + n) (hln : ab_ln (.tableswitch df lo hi offs) n = true) (hok : ok_i k pc (.tableswitch df lo hi offs) au = true) (w : ab_rs (mCC d) post (ab_I p l e R s m args below meth c Q D dA sb A ad0 n0 k) h (ab_do mB mF (mR k) X (.tableswitch df lo hi offs) nx au lv st b h)) : ab_I p l e R s m args below meth c Q D dA sb A ad0 n0 k (pc, lv, st, b, h) := by
  subst hn
  intro ad H locs ls h1 h2 h3 hl hlen hw hS hb1 hb2
  obtain ⟨hx, hb, hml, hown, hts, hK, hex, hA, hin, hR, hX, hM⟩ := cx
  obtain ⟨x, r, rfl, w1⟩ := ab_i.inv w
  clear w
  have w := w1
  clear w1
  rcases au with _ | ⟨t, ts⟩
  · cases hok
  · replace hok := (Bool.and_eq_true _ _).mp hok
    have ht : (pc : Int) + df = (t : Int) := of_decide_eq_true hok.1
    have hts2 : offs.toList.map (fun o => (pc : Int) + o) = ts.map (fun (t : Nat) => (t : Int)) := of_decide_eq_true hok.2
    have w := ab_ite.inv w
    by_cases hc : x.toInt < lo ∨ hi < x.toInt
    · exact lv_tableOut hx hb hd hc ht (w.1 hc ad H locs ls h1 h2 h3 hl hlen hw hS hb1 hb2)
    · have w := w.2 hc
      split at w
      · rename_i t2 he
        have h5 := congrArg (fun z : List Int => z[(x.toInt - lo).toNat]?) hts2
        simp only [List.getElem?_map, he, Option.map_some] at h5
        cases ho : offs.toList[(x.toInt - lo).toNat]? with
        | none => rw [ho] at h5; cases h5
        | some o =>
          rw [ho] at h5
          exact lv_tableIn hx hb hd (fun q => hc (Or.inl q)) (fun q => hc (Or.inr q)) (by rw [← Array.getElem?_toList]; exact ho) (Option.some.inj h5) (w ad H locs ls h1 h2 h3 hl hlen hw hS hb1 hb2)
      · cases w
end ABJ
