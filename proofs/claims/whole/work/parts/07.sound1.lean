/-! THE ABSTRACT MACHINE IS SOUND, first part: what its words mean on the machine itself -/
theorem ab_fd.mem {l : List (Nat × ab_E)} {pc : Nat} {e : ab_E} (h : ab_fd l pc = some e) : (pc, e) ∈ l := by
  induction l with
  | nil => cases h
  | cons a r ih =>
    unfold ab_fd at h
    cases hb : Nat.beq a.1 pc with
    | true =>
      rw [hb] at h
      have h1 : a.2 = e := Option.some.inj h
      have h2 : a.1 = pc := Nat.eq_of_beq_eq_true hb
      rw [← h1, ← h2]
      exact List.mem_cons_self
    | false =>
      rw [hb] at h
      exact List.mem_cons_of_mem _ (ih h)
theorem ok_get {k pc nx : Nat} {i : Instr} {au : List Nat} (h : mT k pc = some (i, nx, au)) : ∃ n, decode (mC k) pc = .ok (i, n) ∧ nx = pc + n ∧ ab_ln i n = true ∧ ok_i k pc i au = true := by
  have h1 := List.all_eq_true.mp (ok_tab k) _ (ab_fd.mem h)
  unfold ok_e at h1
  rw [Bool.and_eq_true] at h1
  obtain ⟨h2, h3⟩ := h1
  revert h2
  cases hd : decode (mC k) pc with
  | error x => intro h2; cases h2
  | ok x =>
    obtain ⟨i', n⟩ := x
    intro h2
    simp only [Bool.and_eq_true, decide_eq_true_eq] at h2
    obtain ⟨e1, e2, e3⟩ := h2
    subst e1
    exact ⟨n, rfl, (Nat.eq_of_beq_eq_true e2).symm, e3, h3⟩
def ab_cv (ad : Nat → Nat) (sb : Nat) (v : Value) : Value := match v with
  | .ref a => .ref (ad a)
  | .retAddr 1 => .ref sb
  | v => v
def ab_me (ad : Nat → Nat) (sb : Nat) (dA : Nat → Nat) (e : va_E) : va_E := match e with
  | .inr (ci, fs) => .inr (ci, fs.map (ab_cv ad sb))
  | .inl (t, n, .inr (.inr (.inr (.inr g)))) => .inl (dA t, n, .inr (.inr (.inr (.inr (fun j => (g j).map ad)))))
  | .inl (t, x) => .inl (dA t, x)
def ab_cw (ad : Nat → Nat) (sb : Nat) (dA : Nat → Nat) (h : ab_H) : va_W := h.mapIdx (fun i e => (ad i, ab_me ad sb dA e))
theorem ab_cw_at {ad : Nat → Nat} {sb : Nat} {dA : Nat → Nat} {h : ab_H} {i : Nat} {e : va_E} (hi : h[i]? = some e) : (ab_cw ad sb dA h)[i]? = some (ad i, ab_me ad sb dA e) := by
  simp [ab_cw, List.getElem?_mapIdx, hi]
theorem ab_cw_inv {ad : Nat → Nat} {sb : Nat} {dA : Nat → Nat} {h : ab_H} {i : Nat} {q : Nat × va_E} (hi : (ab_cw ad sb dA h)[i]? = some q) : ∃ e, h[i]? = some e ∧ q = (ad i, ab_me ad sb dA e) := by
  unfold ab_cw at hi
  rw [List.getElem?_mapIdx] at hi
  cases he : h[i]? with
  | none => rw [he] at hi; cases hi
  | some e =>
    rw [he] at hi
    exact ⟨e, rfl, (Option.some.inj hi).symm⟩
theorem ab_cw_len {ad : Nat → Nat} {sb : Nat} {dA : Nat → Nat} {h : ab_H} : (ab_cw ad sb dA h).length = h.length := by simp [ab_cw]
theorem ab_cw_set {ad : Nat → Nat} {sb : Nat} {dA : Nat → Nat} {h : ab_H} {i : Nat} {e : va_E} : (ab_cw ad sb dA h).set i (ad i, ab_me ad sb dA e) = ab_cw ad sb dA (h.set i e) := by
  apply List.ext_getElem?
  intro j
  unfold ab_cw
  rw [List.getElem?_mapIdx, List.getElem?_set, List.getElem?_set]
  by_cases hj : i = j
  · subst hj
    simp only [List.length_mapIdx, if_true]
    by_cases hl : i < h.length
    · simp [hl]
    · simp [hl]
  · simp only [hj, if_false, List.getElem?_mapIdx]
theorem ab_cat (ad : Nat → Nat) (sb : Nat) (v : Value) (hv : v ≠ .retAddr 1) : (ab_cv ad sb v).category = v.category := by
  cases v <;> try rfl
  rename_i n
  match n, hv with
  | 0, _ => rfl
  | 1, h => exact absurd rfl h
  | n + 2, _ => rfl
theorem ab_cat1 (ad : Nat → Nat) (sb : Nat) (v : Value) : (ab_cv ad sb v).category = v.category := by
  by_cases hv : v = .retAddr 1
  · subst hv; rfl
  · exact ab_cat ad sb v hv
theorem ab_ws_map (ad : Nat → Nat) (sb : Nat) (st : List Value) : ((st.map (ab_cv ad sb)).map fun v => v.category).sum = ab_ws st := by
  unfold ab_ws
  rw [List.map_map]
  congr 1
  apply List.map_congr_left
  intro v _
  exact ab_cat1 ad sb v
theorem ab_c2_cat {v : Value} (h : ab_c2 v = false) : v.category = 1 := by
  cases v <;> first | rfl | cases h
/-- the locals -/
def ab_lr (ad : Nat → Nat) (sb : Nat) (lv : List Value) (ls : Array Slot) : Prop := ls.size = lv.length ∧ lv_wf ls ∧ ∀ i, ab_lg lv i ≠ .retAddr 0 → ls[i]? = some (.val (ab_cv ad sb (ab_lg lv i)))
def ab_lp (ad : Nat → Nat) (sb : Nat) (lv : List Value) : List (Nat × Value) := ((List.range lv.length).filter (fun j => decide (ab_lg lv j ≠ .retAddr 0))).map (fun j => (j, ab_cv ad sb (ab_lg lv j)))
theorem ab_lg_big {lv : List Value} : ∀ {i : Nat}, lv.length ≤ i → ab_lg lv i = .retAddr 0 := by
  induction lv with
  | nil => intro i _; cases i <;> rfl
  | cons a r ih =>
    intro i h
    cases i with
    | zero => simp at h
    | succ i => exact ih (Nat.le_of_succ_le_succ h)
theorem ab_lp_mem {ad : Nat → Nat} {sb : Nat} {lv : List Value} {j : Nat} (h : ab_lg lv j ≠ .retAddr 0) : (j, ab_cv ad sb (ab_lg lv j)) ∈ ab_lp ad sb lv := by
  refine List.mem_map.mpr ⟨j, List.mem_filter.mpr ⟨List.mem_range.mpr ?_, decide_eq_true h⟩, rfl⟩
  rcases Nat.lt_or_ge j lv.length with q | q
  · exact q
  · exact absurd (ab_lg_big q) h
theorem ab_lr.has {ad : Nat → Nat} {sb : Nat} {lv : List Value} {ls : Array Slot} (h : ab_lr ad sb lv ls) : lv_has ls lv.length (ab_lp ad sb lv) := by
  refine ⟨h.1, h.2.1, fun q hq => ?_⟩
  obtain ⟨j, hj, rfl⟩ := List.mem_map.mp hq
  exact h.2.2 j (of_decide_eq_true (List.mem_filter.mp hj).2)
theorem ab_ls_len {v : Value} : ∀ {lv : List Value} {i : Nat}, (ab_ls lv i v).length = lv.length := by
  intro lv
  induction lv with
  | nil => intro i; rfl
  | cons a r ih =>
    intro i
    cases i with
    | zero => rfl
    | succ i => simp [ab_ls, ih]
theorem ab_lg_ls {v : Value} : ∀ {lv : List Value} {i j : Nat}, i < lv.length → ab_lg (ab_ls lv i v) j = if j = i then v else ab_lg lv j := by
  intro lv
  induction lv with
  | nil => intro i j h; simp at h
  | cons a r ih =>
    intro i j h
    cases i with
    | zero =>
      cases j with
      | zero => rfl
      | succ j => rfl
    | succ i =>
      cases j with
      | zero => rfl
      | succ j =>
        show ab_lg (ab_ls r i v) j = _
        rw [ih (by simpa using h)]
        simp [ab_lg]
theorem ab_c2_iff {v : Value} : v.category = 2 → ab_c2 v = true := by
  cases v <;> intro h <;> first | rfl | (simp [Value.category] at h)
theorem ab_lr.s1 {ad : Nat → Nat} {sb : Nat} {lv : List Value} {ls' : Array Slot} {i : Nat} {v : Value} (hi : i < lv.length) (hok : ab_lok lv i = true)
    (h : lv_has ls' lv.length ((i, ab_cv ad sb v) :: (ab_lp ad sb lv).filter (fun q => !(q.1 == i) && !(q.1 + 1 == i && q.2.category == 2)))) : ab_lr ad sb (ab_ls lv i v) ls' := by
  refine ⟨by rw [ab_ls_len]; exact h.1, h.2.1, fun j hj => ?_⟩
  rw [ab_lg_ls hi] at hj ⊢
  by_cases hji : j = i
  · subst hji
    rw [if_pos rfl]
    exact h.2.2 _ List.mem_cons_self
  · rw [if_neg hji] at hj ⊢
    refine h.2.2 (j, ab_cv ad sb (ab_lg lv j)) (List.mem_cons_of_mem _ (List.mem_filter.mpr ⟨ab_lp_mem hj, ?_⟩))
    simp only [Bool.and_eq_true, Bool.not_eq_true', beq_eq_false_iff_ne, ne_eq, hji, not_false_eq_true, true_and, Bool.and_eq_false_imp, beq_iff_eq]
    intro h1 h2
    subst h1
    rw [ab_cat1] at h2
    have h3 := ab_c2_iff h2
    simp only [ab_lok, h3] at hok
    cases hok
theorem ab_lr.s2 {ad : Nat → Nat} {sb : Nat} {lv : List Value} {ls' : Array Slot} {i : Nat} {v : Value} (hi : i + 1 < lv.length) (hok : ab_lok lv i = true)
    (h : lv_has ls' lv.length ((i, ab_cv ad sb v) :: (ab_lp ad sb lv).filter (fun q => !(q.1 == i) && (!(q.1 == i + 1) && !(q.1 + 1 == i && q.2.category == 2))))) : ab_lr ad sb (ab_ls (ab_ls lv i v) (i + 1) (.retAddr 0)) ls' := by
  refine ⟨by rw [ab_ls_len, ab_ls_len]; exact h.1, h.2.1, fun j hj => ?_⟩
  rw [ab_lg_ls (by rw [ab_ls_len]; exact hi)] at hj ⊢
  by_cases hj1 : j = i + 1
  · rw [if_pos hj1] at hj
    exact absurd rfl hj
  · rw [if_neg hj1] at hj ⊢
    rw [ab_lg_ls (by omega)] at hj ⊢
    by_cases hji : j = i
    · subst hji
      rw [if_pos rfl]
      exact h.2.2 _ List.mem_cons_self
    · rw [if_neg hji] at hj ⊢
      refine h.2.2 (j, ab_cv ad sb (ab_lg lv j)) (List.mem_cons_of_mem _ (List.mem_filter.mpr ⟨ab_lp_mem hj, ?_⟩))
      simp only [Bool.and_eq_true, Bool.not_eq_true', beq_eq_false_iff_ne, ne_eq, hji, hj1, not_false_eq_true, true_and, Bool.and_eq_false_imp, beq_iff_eq]
      intro h1 h2
      subst h1
      rw [ab_cat1] at h2
      have h3 := ab_c2_iff h2
      simp only [ab_lok, h3] at hok
      cases hok
theorem ab_lg_nil (i : Nat) : ab_lg [] i = .retAddr 0 := by cases i <;> rfl
theorem ab_lg_rep : ∀ (n i : Nat), ab_lg (List.replicate n (.retAddr 0)) i = .retAddr 0 := by
  intro n
  induction n with
  | zero => exact ab_lg_nil
  | succ n ih =>
    intro i
    cases i with
    | zero => rfl
    | succ i => exact ih i
theorem ab_lv_args (ad : Nat → Nat) (sb : Nat) : ∀ (av : List Value) (n o j : Nat), ab_lg (ab_lv n av) j ≠ .retAddr 0 → (o + j, ab_cv ad sb (ab_lg (ab_lv n av) j)) ∈ lv_args o (av.map (ab_cv ad sb)) := by
  intro av
  induction av with
  | nil =>
    intro n o j h
    exact absurd (ab_lg_rep n j) h
  | cons v vs ih =>
    intro n o j h
    unfold ab_lv at h ⊢
    cases hc : ab_c2 v with
    | true =>
      rw [hc] at h
      have hcat : (ab_cv ad sb v).category = 2 := by rw [ab_cat1]; cases v <;> first | rfl | cases hc
      show _ ∈ (o, ab_cv ad sb v) :: lv_args (if (ab_cv ad sb v).category = 2 then o + 2 else o + 1) (vs.map (ab_cv ad sb))
      rw [if_pos hcat]
      match j, h with
      | 0, _ => exact List.mem_cons_self
      | 1, h => exact absurd rfl h
      | j + 2, h =>
        have h1 := ih (n - 2) (o + 2) j h
        rw [show o + 2 + j = o + (j + 2) by omega] at h1
        exact List.mem_cons_of_mem _ h1
    | false =>
      rw [hc] at h
      have hcat : ¬ (ab_cv ad sb v).category = 2 := by rw [ab_cat1, ab_c2_cat hc]; decide
      show _ ∈ (o, ab_cv ad sb v) :: lv_args (if (ab_cv ad sb v).category = 2 then o + 2 else o + 1) (vs.map (ab_cv ad sb))
      rw [if_neg hcat]
      match j, h with
      | 0, _ => exact List.mem_cons_self
      | j + 1, h =>
        have h1 := ih (n - 1) (o + 1) j h
        rw [show o + 1 + j = o + (j + 1) by omega] at h1
        exact List.mem_cons_of_mem _ h1
theorem ab_lv_len : ∀ (av : List Value) (n : Nat), ab_ws av ≤ n → (ab_lv n av).length = n := by
  intro av
  induction av with
  | nil => intro n _; simp [ab_lv]
  | cons v vs ih =>
    intro n h
    have h2 : v.category + ab_ws vs ≤ n := by simpa [ab_ws] using h
    unfold ab_lv
    cases hc : ab_c2 v with
    | true =>
      have hcat : v.category = 2 := by cases v <;> first | rfl | cases hc
      have := ih (n - 2) (by omega)
      show (ab_lv (n - 2) vs).length + 1 + 1 = n
      omega
    | false =>
      have hcat := ab_c2_cat hc
      have := ih (n - 1) (by omega)
      show (ab_lv (n - 1) vs).length + 1 = n
      omega
theorem ab_sl_len (vs : List Value) : (lg_sl vs).length = ab_ws vs := by
  induction vs with
  | nil => rfl
  | cons v vs ih =>
    have e : lg_sl (v :: vs) = (if v.category = 2 then [.val v, .second] else [.val v]) ++ lg_sl vs := rfl
    rw [e, List.length_append, ih]
    have e2 : ab_ws (v :: vs) = v.category + ab_ws vs := by simp [ab_ws]
    rw [e2]
    rcases lv_cat v with h | h
    · rw [if_neg (by omega), h]; rfl
    · rw [if_pos h, h]; rfl
theorem ab_lr.entry (ad : Nat → Nat) (sb : Nat) {av : List Value} {n : Nat} (h : ab_ws av ≤ n) :
    ab_lr ad sb (ab_lv n av) ((lg_sl (av.map (ab_cv ad sb)) ++ List.replicate (n - (lg_sl (av.map (ab_cv ad sb))).length) Slot.unset).toArray) := by
  have hw : ab_ws (av.map (ab_cv ad sb)) = ab_ws av := ab_ws_map ad sb av
  have h1 := lv_entry (av.map (ab_cv ad sb)) (n := n) (by rw [ab_sl_len, hw]; exact h)
  refine ⟨by rw [ab_lv_len av n h]; exact h1.1, h1.2.1, fun j hj => ?_⟩
  have h2 := ab_lv_args ad sb av n 0 j hj
  rw [Nat.zero_add] at h2
  exact h1.2.2 _ h2
/-- the world -/
def ab_tys (dA : Nat → Nat) : List (ClassId × FieldType) := [(dA 0, .int), (dA 1, .long), (dA 2, .boolean), (dA 3, .object RX4), (dA 4, .object RX0)]
def ab_wd (D : va_G) (dA : Nat → Nat) (sb : Nat) (A : Nat → Prop) (ad : Nat → Nat) (h : ab_H) (H : Heap) : Prop := va_P D vwCl (ab_cw ad sb dA h) H ∧ va_D A (ab_cw ad sb dA h)
theorem ab_cv_ra (ad ad' : Nat → Nat) (sb : Nat) : ∀ n : Nat, ab_cv ad' sb (.retAddr n) = ab_cv ad sb (.retAddr n)
  | 0 => rfl
  | 1 => rfl
  | _ + 2 => rfl
theorem ab_cv_ext {ad ad' : Nat → Nat} {sb n : Nat} (he : ∀ i, i < n → ad' i = ad i) {v : Value} (h : ab_cl n v = true) : ab_cv ad' sb v = ab_cv ad sb v := by
  cases v with
  | ref a =>
    show Value.ref (ad' a) = Value.ref (ad a)
    rw [he a (Nat.le_of_ble_eq_true h)]
  | retAddr k => exact ab_cv_ra ad ad' sb k
  | _ => rfl
theorem ab_map_ext {ad ad' : Nat → Nat} {sb n : Nat} (he : ∀ i, i < n → ad' i = ad i) {st : List Value} (h : st.all (ab_cl n) = true) : st.map (ab_cv ad' sb) = st.map (ab_cv ad sb) :=
  List.map_congr_left fun v hv => ab_cv_ext he (List.all_eq_true.mp h v hv)
theorem ab_lg_cl {n : Nat} {lv : List Value} (h : lv.all (ab_cl n) = true) (i : Nat) : ab_cl n (ab_lg lv i) = true := by
  induction lv generalizing i with
  | nil => rw [ab_lg_nil]; rfl
  | cons a r ih =>
    rw [List.all_cons, Bool.and_eq_true] at h
    cases i with
    | zero => exact h.1
    | succ i => exact ih h.2 i
theorem ab_lr.ext {ad ad' : Nat → Nat} {sb n : Nat} (he : ∀ i, i < n → ad' i = ad i) {lv : List Value} {ls : Array Slot} (hc : lv.all (ab_cl n) = true) (h : ab_lr ad sb lv ls) : ab_lr ad' sb lv ls :=
  ⟨h.1, h.2.1, fun i hi => by rw [ab_cv_ext he (ab_lg_cl hc i)]; exact h.2.2 i hi⟩
theorem ab_arrV_congr {cA : ClassId} {n : Nat} {f g : Nat → Value} (h : ∀ j, j < n → f j = g j) : arrV cA n f = arrV cA n g := by
  unfold arrV
  congr 1
  congr 1
  funext j
  exact h j.val j.isLt
theorem ab_at_ext {D : va_G} {cl : List vw_C} {dA : Nat → Nat} {ad ad' : Nat → Nat} {sb n a : Nat} {H : Heap} (he : ∀ i, i < n → ad' i = ad i) {e : va_E} (hc : ab_ce n e = true) (h : va_at D cl (a, ab_me ad sb dA e) H) : va_at D cl (a, ab_me ad' sb dA e) H := by
  rcases e with ⟨t, m, x⟩ | ⟨ci, fs⟩
  · rcases x with g | g | g | g | g
    · exact h
    · exact h
    · exact h
    · exact h
    · have h1 : H[a]? = some (vp_cell (dA t) (m, .inr (.inr (.inr (.inr (fun j => (g j).map ad)))))) := h
      show H[a]? = some (vp_cell (dA t) (m, .inr (.inr (.inr (.inr (fun j => (g j).map ad'))))))
      rw [h1, vp_cell_q, vp_cell_q]
      congr 1
      apply ab_arrV_congr
      intro j hj
      have h2 := List.all_eq_true.mp hc j (List.mem_range.mpr hj)
      cases hg : g j with
      | none => rfl
      | some y =>
        simp only [hg] at h2
        show Value.ref (ad y) = Value.ref (ad' y)
        rw [he y (Nat.le_of_ble_eq_true h2)]
  · have h1 : va_at D cl (a, .inr (ci, fs.map (ab_cv ad sb))) H := h
    show va_at D cl (a, .inr (ci, fs.map (ab_cv ad' sb))) H
    rw [ab_map_ext he hc]
    exact h1
/-- a new cell -/
theorem ab_wd.push {D : va_G} {dA : Nat → Nat} {ad : Nat → Nat} {sb q : Nat} {A : Nat → Prop} {h : ab_H} {H : Heap} {e x : va_E} (hc : h.all (ab_ce h.length) = true) (hP : va_P D vwCl (ab_cw ad sb dA h ++ [(q, x)]) H) (hD : va_D A (ab_cw ad sb dA h ++ [(q, x)])) (hx : ab_me (va_up ad h.length q) sb dA e = x) :
    ab_wd D dA sb A (va_up ad h.length q) (h ++ [e]) H := by
  have he : ∀ i, i < h.length → va_up ad h.length q i = ad i := fun i hi => va_up_ne ad q (Nat.ne_of_lt hi)
  have key : ∀ (i : Nat) (z : Nat × va_E), (ab_cw (va_up ad h.length q) sb dA (h ++ [e]))[i]? = some z → ∃ w, (ab_cw ad sb dA h ++ [(q, x)])[i]? = some w ∧ w.1 = z.1 ∧ (va_at D vwCl w H → va_at D vwCl z H) := by
    intro i z hz
    obtain ⟨e1, h1, rfl⟩ := ab_cw_inv hz
    rcases Nat.lt_or_ge i h.length with hl | hl
    · rw [List.getElem?_append_left hl] at h1
      refine ⟨(ad i, ab_me ad sb dA e1), ?_, (he i hl).symm, fun hw => ?_⟩
      · rw [List.getElem?_append_left (by rw [ab_cw_len]; exact hl)]
        exact ab_cw_at h1
      · have := ab_at_ext he (List.all_eq_true.mp hc e1 (List.mem_of_getElem? h1)) hw
        rw [he i hl]
        exact this
    · rw [List.getElem?_append_right hl] at h1
      have hz0 : i - h.length < 1 := (List.getElem?_eq_some_iff.mp h1).1
      have hi : i = h.length := by omega
      subst hi
      rw [Nat.sub_self] at h1
      cases h1
      refine ⟨(q, x), ?_, (va_up_self ad h.length q).symm, fun hw => ?_⟩
      · rw [List.getElem?_append_right (by rw [ab_cw_len]; exact Nat.le_refl _), ab_cw_len, Nat.sub_self]
        rfl
      · rw [va_up_self, hx]
        exact hw
  refine ⟨fun i z hz => ?_, fun i j z w hz hw hzw => ?_, fun i z hz => ?_⟩
  · obtain ⟨w, h1, h2, h3⟩ := key i z hz
    exact h3 (hP i w h1)
  · obtain ⟨z1, a1, a2, -⟩ := key i z hz
    obtain ⟨w1, b1, b2, -⟩ := key j w hw
    exact hD.1 i j z1 w1 a1 b1 (a2.trans (hzw.trans b2.symm))
  · obtain ⟨w, h1, h2, h3⟩ := key i z hz
    rw [← h2]
    exact hD.2 i w h1
theorem ab_wd.set {D : va_G} {dA : Nat → Nat} {ad : Nat → Nat} {sb a : Nat} {A : Nat → Prop} {h : ab_H} {H : Heap} {e x : va_E} (hP : va_P D vwCl ((ab_cw ad sb dA h).set a (ad a, x)) H) (hD : va_D A ((ab_cw ad sb dA h).set a (ad a, x))) (hx : ab_me ad sb dA e = x) : ab_wd D dA sb A ad (h.set a e) H := by
  subst hx
  rw [ab_cw_set] at hP hD
  exact ⟨hP, hD⟩
/-- a method's words, its room, its end -/
abbrev mCC (d : Nat) : ab_C := ab_CC mT mB mF mR mL d
def mW (k : Nat) : List Cond := .code (mY k) (mC k) (mL k) (mR k) :: lw_good
def mRm (d k : Nat) : Room := { frames := d, cells := (mB k).1, slots := (mB k).2, locals := 60 * d }
theorem lw_good.ok {w : Cond} (h : w ∈ lw_good) : (w.onTables && w.keeps) = true ∨ ∃ ty, w = .arrayClass ty := good_of_word (List.mem_filter.mp h).2
theorem mW_good {k : Nat} (hk : k < mN) : GoodIn lw_good (mW k) := by
  intro w hw
  rcases List.mem_cons.mp hw with rfl | h
  · have hm : Cond.code (mY k) (mC k) (mL k) (mR k) ∈ lw_good := List.mem_filter.mpr ⟨List.mem_of_getElem? (ok_code k hk), rfl⟩
    exact ⟨hm, lw_good.ok hm⟩
  · exact ⟨h, lw_good.ok h⟩
/-- what the tables say beyond the good words -/
def ab_ex (U : State) : Prop := va_AO RX4 U ∧ va_AO RX0 U ∧ ∀ (own : String) (ix : Nat) (y : MethodName) (host : String), Cond.methodLinkNest own ix y host ∈ lw_tbl → va_Nw (.methodLinkNest own ix y host) U
theorem ab_ex.warm {s U : State} (hW : s.WarmedH U.vm) (h : ab_ex s) : ab_ex U := ⟨h.1.moved hW.alike, h.2.1.moved hW.alike, fun own ix y host hm => va_Nw.warmM hW (h.2.2 own ix y host hm)⟩
theorem ab_ex.same {s U : State} (hv : s.vm = U.vm) (h : ab_ex s) : ab_ex U := by
  have ha : s.vm.Alike U.vm := by rw [← hv]; exact Vm.Alike.refl s.vm
  exact ⟨h.1.moved ha, h.2.1.moved ha, fun own ix y host hm => va_Nw.same rfl hv (h.2.2 own ix y host hm)⟩
def ab_Q (D : va_G) (dA : Nat → Nat) (sb : Nat) (ad : Nat → Nat) (n z : Nat) (A : Nat → Prop) (post : ab_P) : Array Value → State → Outcome → State → Prop := fun _ st oc t =>
  (∃ (r : Option Value) (h' : ab_H) (ad' : Nat → Nat), oc = .returned (r.map (ab_cv ad' sb)) ∧ post r h' ∧ (∀ i, i < n → ad' i = ad i) ∧ (z = 0 → ad' = ad) ∧ n ≤ h'.length ∧ ab_wd D dA sb A ad' h' t.heap) ∧ va_F A st t
def ab_met (l : Launch) (d k : Nat) : Prop := ∀ (D : va_G) (dA : Nat → Nat) (sb : Nat) (ad : Nat → Nat) (av : List Value) (h : ab_H) (post : ab_P) (sz : Nat), mCC d k av h post →
  Met l (mY k) (mW k) (mRm d k) (va_Pc (av.map (ab_cv ad sb)) (fun U => U.heap.size = sz ∧ ab_wd D dA sb (fun _ => True) ad h U.heap ∧ va_K D vwCl (ab_tys dA) U ∧ ab_ex U)) (ab_Q D dA sb ad h.length (mB k).1 (va_A (ab_cw ad sb dA h) sz) post) (mB k).1 (mB k).2 (va_A (ab_cw ad sb dA h) sz)
section ABA
variable {p : Program} {l : Launch} {e : Env} {R : Room} {s : State} {m : MethodId} {args : Array Value} {below : List Frame} {meth : Method} {c : Code} {H : Heap} {locs : List Loc} {cells slots : Nat} {Q : State → Prop}
theorem ab_after {D : va_G} {dA : Nat → Nat} {sb : Nat} {ad : Nat → Nat} {n z mc ms pc : Nat} {A0 A1 : Nat → Prop} {post : ab_P} {ls : Array Slot} {st0 rest : List Value} {a : Array Value} (hr : va_Run p l e R s m args below meth c H locs cells slots mc ms (F0 m pc ls st0) rest (ab_Q D dA sb ad n z A1 post a) A1) (hS : va_S A0 s.heap H locs) (hA : ∀ q, A1 q → A0 q)
    (kk : ∀ (r : Option Value) (h' : ab_H) (ad' : Nat → Nat) (H1 : Heap) (locs1 : List Loc), post r h' → (∀ i, i < n → ad' i = ad i) → (z = 0 → ad' = ad) → n ≤ h'.length → ab_wd D dA sb A0 ad' h' H1 → va_S A0 s.heap H1 locs1 → W p l e R s m args below meth c H1 locs1 (cells + mc) (slots + ms) Q (F0 m (pc + 3) ls ((r.map (ab_cv ad' sb)).toList ++ rest))) :
    W p l e R s m args below meth c H locs cells slots Q (F0 m pc ls st0) := by
  intro T hT X
  obtain ⟨v, st₀, t, T', L, h0, X', hL, e1, e2, ⟨⟨r, h', ad', hv, hp, q1, q2, q3, q4⟩, hz, hk⟩, st⟩ := hr T hT X
  cases hv
  rw [h0] at hz hk
  obtain ⟨t2, a1, b1⟩ := kk r h' ad' T'.heap (locs ++ L) hp q1 q2 q3 ⟨by rw [e1]; exact q4.1, q4.2.weaken (fun _ _ _ h => hA _ h)⟩
    ⟨Nat.le_trans hS.1 (by rw [e1]; exact hz), fun q h1 h2 => by rw [e1, hk q (Nat.lt_of_lt_of_le h1 hS.1) (fun z => h2 (hA q z))]; exact hS.2.1 q h1 h2, fun q hq => by
      rcases List.mem_append.mp hq with h | h
      · exact hS.2.2 q h
      · exact hA _ (hL q h)⟩ T' rfl X'
  exact ⟨t2, st t2 a1, b1⟩
end ABA
