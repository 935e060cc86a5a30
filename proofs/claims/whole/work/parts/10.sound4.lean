/-! THE ABSTRACT MACHINE IS SOUND, fourth part: calls, ends, and the whole -/
section ABL
variable {p : Program} {l : Launch} {e : Env} {R : Room} {s : State} {m : MethodId} {args : Array Value} {below : List Frame} {meth : Method} {c : Code} {Q : State → Prop} {D : va_G} {dA : Nat → Nat} {sb : Nat} {A : Nat → Prop} {ad0 : Nat → Nat} {n0 k d : Nat} {X : ab_X} {post : ab_P}
variable {pc nx n : Nat} {au : List Nat} {lv st : List Value} {b : Nat × Nat} {h : ab_H}

theorem ab_free {ad : Nat → Nat} {H : Heap} {locs : List Loc} (hA : ∀ q, s.heap.size ≤ q → A q) (hw : ab_wd D dA sb A ad h H) (hS : va_S A s.heap H locs) : ∀ q, va_A (ab_cw ad sb dA h) H.size q → A q := by
  intro q hq
  rcases hq with ⟨j, e, hj⟩ | hq
  · exact hw.2.2 j (q, e) hj
  · exact hA q (Nat.le_trans hS.1 hq)
theorem ab_cont {k' : Nat} {r st0 : List Value} {ad : Nat → Nat} {H : Heap} {locs : List Loc} {ls : Array Slot} {a : Array Value} (hA : ∀ q, s.heap.size ≤ q → A q)
    (h1 : n0 ≤ h.length) (h2 : ∀ i, i < n0 → ad i = ad0 i) (h3 : (mB k).1 = 0 → ad = ad0) (hl : ab_lr ad sb lv ls) (hlen : lv.length = mL k) (hw : ab_wd D dA sb A ad h H) (hS : va_S A s.heap H locs) (hb1 : b.1 ≤ (mB k).1) (hb2 : b.2 ≤ (mB k).2)
    (g2 : (mB k').1 ≤ b.1) (g3 : (mB k').2 ≤ b.2) (g4 : (mB k').1 = 0 ∨ ab_clo lv r h = true)
    (hrun : va_Run p l e R s m args below meth c H locs ((mB k).1 - b.1) ((mB k).2 - b.2) (mB k').1 (mB k').2 (F0 m pc ls st0) (r.map (ab_cv ad sb)) (ab_Q D dA sb ad h.length (mB k').1 (va_A (ab_cw ad sb dA h) H.size) (fun v h' => ab_I p l e R s m args below meth c Q D dA sb A ad0 n0 k (pc + 3, lv, v.toList ++ r, (b.1 - (mB k').1, b.2 - (mB k').2), h')) a) (va_A (ab_cw ad sb dA h) H.size)) :
    W p l e R s m args below meth c H locs ((mB k).1 - b.1) ((mB k).2 - b.2) Q (F0 m pc ls st0) := by
  refine ab_after hrun hS (ab_free hA hw hS) (fun r' h' ad' H1 locs1 hp q1 q2 q3 q4 q5 => ?_)
  have hlr : ab_lr ad' sb lv ls ∧ r.map (ab_cv ad' sb) = r.map (ab_cv ad sb) := by
    rcases g4 with g | g
    · rw [q2 g]; exact ⟨hl, rfl⟩
    · simp only [ab_clo, Bool.and_eq_true] at g
      exact ⟨hl.ext q1 g.1, ab_map_ext q1 g.2.1⟩
  have fin := hp ad' H1 locs1 ls (Nat.le_trans h1 q3) (fun i hi => (q1 i (Nat.lt_of_lt_of_le hi h1)).trans (h2 i hi)) (fun hz => (q2 (by omega)).trans (h3 hz)) hlr.1 hlen q4 q5 (by show b.1 - _ ≤ _; omega) (by show b.2 - _ ≤ _; omega)
  have hmap : List.map (ab_cv ad' sb) (r'.toList ++ r) = (r'.map (ab_cv ad' sb)).toList ++ r.map (ab_cv ad sb) := by
    rw [List.map_append, hlr.2]
    cases r' <;> rfl
  rw [← hmap]
  exact W.cs (by show _ = (mB k).1 - (b.1 - (mB k').1); omega) (by show _ = (mB k).2 - (b.2 - (mB k').2); omega) fin
theorem ab_callB (hts : ∀ w ∈ lw_good, w.before args s = true) {k' ix nn : Nat} {ret : Option FieldType} (hk : k' < mN) (hret : mR k' = ret) (hR : R.cells = (mB k).1 ∧ R.slots = (mB k).2 ∧ d + 1 ≤ R.frames ∧ 60 * (d + 1) ≤ R.locals) (hp : (parseMethodDescriptor (mY k').desc).map (fun d => d.parameters.length) = some nn)
    (hl : (Cond.methodLink (mY k).cls ix (mY k')).before args s = true) (hi : (Cond.initialized (mY k').cls).before args s = true) : CallB R s args (mY k).cls ix (mY k') (mC k') (mL k') ret (mW k') (mRm d k') (mB k').1 (mB k').2 nn := by
  have hc := ok_cls k' hk
  simp only [Bool.and_eq_true, decide_eq_true_eq] at hc
  obtain ⟨c1, c2, c3, c4⟩ := hc
  have c4 := Nat.le_of_ble_eq_true c4
  exact callB_of nn hts (mW_good hk) (by rw [← hret]; rfl) rfl rfl hi hl ⟨c2, c3, hp⟩ ⟨hR.2.2.1, by show 8 + (mL k' + 11) + 60 * d ≤ _; omega⟩
theorem ab_blind (hK : va_K D vwCl (ab_tys dA) s) (hex : ab_ex s) {ad : Nat → Nat} {av : List Value} {H : Heap} (hw : ab_wd D dA sb A ad h H) : PreS s H (va_Pc (av.map (ab_cv ad sb)) (fun U => U.heap.size = H.size ∧ ab_wd D dA sb (fun _ => True) ad h U.heap ∧ va_K D vwCl (ab_tys dA) U ∧ ab_ex U)) (av.map (ab_cv ad sb)) :=
  ⟨fun a U g mk q => by
      obtain ⟨q0, q1, q2, q3, q4⟩ := q
      exact ⟨q0, q1, q2, va_K.moved (u := U) (U := U.calling g mk a) (Vm.Alike.refl U.vm) q3, ab_ex.same (s := U) (U := U.calling g mk a) rfl q4⟩,
    fun U hU hW => ⟨rfl, by rw [hU], by rw [hU]; exact ⟨hw.1, hw.2.weaken (fun _ _ _ _ => trivial)⟩, va_K.moved hW.alike hK, hex.warm hW⟩⟩
theorem ab_j_invokestatic (cx : ab_cx p l R s m args meth c D dA sb A k d X) (ix : Nat) (hd : decode (mC k) pc = .ok (.invokestatic ix, n)) (hn : nx = pc + n) (hln : ab_ln (.invokestatic ix) n = true) (hok : ok_i k pc (.invokestatic ix) au = true) (w : ab_rs (mCC d) post (ab_I p l e R s m args below meth c Q D dA sb A ad0 n0 k) h (ab_do mB mF (mR k) X (.invokestatic ix) nx au lv st b h)) : ab_I p l e R s m args below meth c Q D dA sb A ad0 n0 k (pc, lv, st, b, h) := by
  obtain rfl := Nat.eq_of_beq_eq_true hln
  subst hn
  intro ad H locs ls h1 h2 h3 hl hlen hw hS hb1 hb2
  obtain ⟨hx, hb, hml, hown, hts, hK, hex, hA, hin, hR, hX, hM⟩ := cx
  dsimp only [ok_i] at hok
  split at hok
  · rename_i k' nn p1 p2 p3
    simp only [Bool.and_eq_true] at hok
    obtain ⟨o1, o2, o3, o4, o5⟩ := hok
    have hk := Nat.le_of_ble_eq_true o1
    have w9 : ab_rs (mCC d) post (ab_I p l e R s m args below meth c Q D dA sb A ad0 n0 k) h (match ab_pop nn [] st with
      | some (av, r) => ab_call mB k' av lv r (pc + 3) b h
      | none => none) := w
    clear w
    have w := w9
    clear w9
    split at w
    · rename_i av r hpop
      obtain ⟨as, a1, rfl, a3⟩ := ab_pop.inv hpop
      rw [List.append_nil] at a3
      subst a3
      obtain ⟨g1, g2, g3, g4, w1⟩ := ab_call.inv w
      refine ab_cont (a := (av.map (ab_cv ad sb)).toArray) (pc := pc) (lv := lv) (b := b) (h := h) (k' := k') (r := r) hA h1 h2 h3 hl hlen hw hS hb1 hb2 g2 g3 g4 ?_
      exact va_runS (Ts := lw_good) (nL := mL k) (As := av.map (ab_cv ad sb)) (rest := r.map (ab_cv ad sb)) (n := nn) ⟨hx, hb, hml, hown, hts⟩ (hM k' hk D dA sb ad av h _ H.size w1)
        ⟨ab_callB hts hk rfl hR (of_decide_eq_true o2) (ok_at.use o3 hts rfl) (ok_at.use o5 hts rfl), ok_at.use o4 hts rfl⟩ (ab_blind hK hex hw) rfl (by rw [List.length_map]; exact a1) (hl.1.trans hlen) (by show List.map _ (av.reverse ++ r) = _; rw [List.map_append, List.map_reverse]) (lv_room (by rw [ab_ws_map]; exact g1)) hd ⟨by rw [hR.1]; show (mB k).1 - b.1 + _ ≤ _; have hb1 : b.1 ≤ (mB k).1 := hb1; omega, by rw [hR.2.1]; show (mB k).2 - b.2 + _ ≤ _; have hb2 : b.2 ≤ (mB k).2 := hb2; omega⟩
    · cases w
  · rename_i p1 p2 p3 p4
    simp only [Bool.and_eq_true] at hok
    obtain ⟨o1, o2, o3, o4⟩ := hok
    obtain ⟨nn, r1, rfl, w1⟩ := ab_i.inv w
    clear w
    obtain ⟨dp, r2, rfl, w2⟩ := ab_i.inv w1
    clear w1
    obtain ⟨a, r3, rfl, w3⟩ := ab_r.inv w2
    clear w2
    obtain ⟨sp, r4, rfl, w4⟩ := ab_i.inv w3
    clear w3
    obtain ⟨a0, r, rfl, w5⟩ := ab_r.inv w4
    clear w4
    obtain ⟨t0, n1, f, hh0, w6⟩ := ab_ai.inv w5
    obtain ⟨t1, n2, g, hh1, w7⟩ := ab_ai.inv w6
    obtain ⟨hc, w8⟩ := ab_gd.inv w7
    simp only [Bool.and_eq_true, Bool.not_eq_true', decide_eq_false_iff_not] at hc
    obtain ⟨c0, c1, c2, c3, c4, c5, c6, c7⟩ := hc
    obtain rfl := Nat.eq_of_beq_eq_true c1
    obtain rfl := Nat.eq_of_beq_eq_true c2
    have hat0 := ab_cw_at (ad := ad) (sb := sb) (dA := dA) hh0
    have hat1 := ab_cw_at (ad := ad) (sb := sb) (dA := dA) hh1
    have h18 : nativeFrameWords "java/lang/System" "arraycopy" 5 = 7 := by decide +kernel
    have c0 := Nat.le_of_ble_eq_true c0
    have hloc : ((r.map (ab_cv ad sb)).map fun v => v.category).sum + (nativeFrameWords "java/lang/System" "arraycopy" 5 + 11) ≤ R.locals := by
      rw [ab_ws_map, h18]
      have := hR.2.2.2
      omega
    exact va_copyi hx hb (hml.trans (hl.1.trans hlen).symm) hown (ok_at.use o1 hts rfl) (ok_at.use o2 hts rfl) (ok_at.use o3 hts rfl) (ok_at.use o4 hts rfl) hK hw.1 hw.2 hS a0 a 0 0 hat0 hat1 rfl rfl rfl c3 c4 c5 (Nat.le_of_ble_eq_true c6) (Nat.le_of_ble_eq_true c7) (fun _ _ => rfl) (Nat.le_trans (Nat.le_add_left 1 d) hR.2.2.1) hloc hd
      (fun H1 locs1 q1 q2 q3 => w8 ad H1 locs1 ls (by show n0 ≤ List.length _; rw [List.length_set]; exact h1) h2 h3 hl hlen (ab_wd.set q1 q2 rfl) q3 hb1 hb2)
  · rename_i p1 p2 p3 p4
    simp only [Bool.and_eq_true] at hok
    obtain ⟨o1, o2, o3, o4⟩ := hok
    obtain ⟨y, r1, rfl, w1⟩ := ab_i.inv w
    clear w
    obtain ⟨x, r, rfl, w2⟩ := ab_i.inv w1
    clear w1
    obtain ⟨hc, w3⟩ := ab_gd.inv w2
    have hc := Nat.le_of_ble_eq_true hc
    exact va_mmax hx hb (hml.trans (hl.1.trans hlen).symm) hown (ok_at.use o1 hts rfl) (ok_at.use o2 hts rfl) (ok_at.use o3 hts rfl) (ok_at.use o4 hts rfl) (Nat.le_trans (Nat.le_add_left 1 d) hR.2.2.1) (by rw [ab_ws_map]; have := hR.2.2.2; omega) (by rw [hR.1]; exact Nat.sub_le _ _) (by rw [hR.2.1]; exact Nat.sub_le _ _) hd (w3 ad H locs ls h1 h2 h3 hl hlen hw hS hb1 hb2)
  · rename_i p1 p2 p3 p4
    simp only [Bool.and_eq_true] at hok
    obtain ⟨o1, o2, o3, o4⟩ := hok
    obtain ⟨y, r1, rfl, w1⟩ := ab_i.inv w
    clear w
    obtain ⟨x, r, rfl, w2⟩ := ab_i.inv w1
    clear w1
    obtain ⟨hc, w3⟩ := ab_gd.inv w2
    have hc := Nat.le_of_ble_eq_true hc
    exact va_mmin hx hb (hml.trans (hl.1.trans hlen).symm) hown (ok_at.use o1 hts rfl) (ok_at.use o2 hts rfl) (ok_at.use o3 hts rfl) (ok_at.use o4 hts rfl) (Nat.le_trans (Nat.le_add_left 1 d) hR.2.2.1) (by rw [ab_ws_map]; have := hR.2.2.2; omega) (by rw [hR.1]; exact Nat.sub_le _ _) (by rw [hR.2.1]; exact Nat.sub_le _ _) hd (w3 ad H locs ls h1 h2 h3 hl hlen hw hS hb1 hb2)
  · cases hok
theorem ab_j_invokevirtual (cx : ab_cx p l R s m args meth c D dA sb A k d X) (ix : Nat) (hd : decode (mC k) pc = .ok (.invokevirtual ix, n)) (hn : nx = pc + n) (hln : ab_ln (.invokevirtual ix) n = true) (hok : ok_i k pc (.invokevirtual ix) au = true) (w : ab_rs (mCC d) post (ab_I p l e R s m args below meth c Q D dA sb A ad0 n0 k) h (ab_do mB mF (mR k) X (.invokevirtual ix) nx au lv st b h)) : ab_I p l e R s m args below meth c Q D dA sb A ad0 n0 k (pc, lv, st, b, h) := by
  obtain rfl := Nat.eq_of_beq_eq_true hln
  subst hn
  intro ad H locs ls h1 h2 h3 hl hlen hw hS hb1 hb2
  obtain ⟨hx, hb, hml, hown, hts, hK, hex, hA, hin, hR, hX, hM⟩ := cx
  dsimp only [ok_i] at hok
  split at hok
  · rename_i k' nn ci p1 p2 p3 p4
    split at hok
    · rename_i rr hcl
      simp only [Bool.and_eq_true] at hok
      obtain ⟨o1, o2, o3, o4, o5, o6, o7⟩ := hok
      have hk := Nat.le_of_ble_eq_true o1
      have w9 : ab_rs (mCC d) post (ab_I p l e R s m args below meth c Q D dA sb A ad0 n0 k) h (match ab_pop nn [] st with
        | some (av, r) => ab_r r fun a r => ab_o h a fun ci' _ => ab_gd (Nat.beq ci' ci) (ab_call mB k' (.ref a :: av) lv r (pc + 3) b h)
        | none => none) := w
      clear w
      have w := w9
      clear w9
      split at w
      · rename_i av r0 hpop
        obtain ⟨as, a1, rfl, a3⟩ := ab_pop.inv hpop
        rw [List.append_nil] at a3
        subst a3
        obtain ⟨a, r, rfl, w1⟩ := ab_r.inv w
        clear w
        obtain ⟨ci', fs, hh, w2⟩ := ab_o.inv w1
        obtain ⟨hc, w3⟩ := ab_gd.inv w2
        obtain rfl := Nat.eq_of_beq_eq_true hc
        obtain ⟨g1, g2, g3, g4, w4⟩ := ab_call.inv w3
        have hat := ab_cw_at (ad := ad) (sb := sb) (dA := dA) hh
        refine ab_cont (a := (Value.ref (ad a) :: av.map (ab_cv ad sb)).toArray) (pc := pc) (lv := lv) (b := b) (h := h) (k' := k') (r := r) hA h1 h2 h3 hl hlen hw hS hb1 hb2 g2 g3 g4 ?_
        have pre := ab_blind hK hex (av := .ref a :: av) hw
        exact va_runV (Ts := lw_good) (nL := mL k) (C := rr.1) (b := ad a) (As := av.map (ab_cv ad sb)) (rest := r.map (ab_cv ad sb)) (n := nn) ⟨hx, hb, hml, hown, hts⟩ (hM k' hk D dA sb ad (.ref a :: av) h _ H.size w4)
          ⟨ab_callB hts hk rfl hR (of_decide_eq_true o3) (ok_at.use o4 hts rfl) (ok_at.use o7 hts rfl), ok_at.use o5 hts rfl, ok_at.use o6 hts rfl⟩ ⟨pre.1, va_recv hK hw.1 hcl hat, pre.2⟩ rfl (by rw [List.length_map]; exact a1) (hl.1.trans hlen) (by show List.map _ (av.reverse ++ .ref a :: r) = _; rw [List.map_append, List.map_reverse]; rfl) (lv_room (by rw [ab_ws_map]; exact g1)) hd ⟨by rw [hR.1]; show (mB k).1 - b.1 + _ ≤ _; have hb1 : b.1 ≤ (mB k).1 := hb1; omega, by rw [hR.2.1]; show (mB k).2 - b.2 + _ ≤ _; have hb2 : b.2 ≤ (mB k).2 := hb2; omega⟩
      · cases w
    · cases hok
  · cases hok
theorem ab_j_invokespecial (cx : ab_cx p l R s m args meth c D dA sb A k d X) (ix : Nat) (hd : decode (mC k) pc = .ok (.invokespecial ix, n)) (hn : nx = pc + n) (hln : ab_ln (.invokespecial ix) n = true) (hok : ok_i k pc (.invokespecial ix) au = true) (w : ab_rs (mCC d) post (ab_I p l e R s m args below meth c Q D dA sb A ad0 n0 k) h (ab_do mB mF (mR k) X (.invokespecial ix) nx au lv st b h)) : ab_I p l e R s m args below meth c Q D dA sb A ad0 n0 k (pc, lv, st, b, h) := by
  obtain rfl := Nat.eq_of_beq_eq_true hln
  subst hn
  intro ad H locs ls h1 h2 h3 hl hlen hw hS hb1 hb2
  obtain ⟨hx, hb, hml, hown, hts, hK, hex, hA, hin, hR, hX, hM⟩ := cx
  dsimp only [ok_i] at hok
  split at hok
  · rename_i k' nn z p1 p2 p3
    simp only [Bool.and_eq_true] at hok
    obtain ⟨o1, o2, o3, o4, o5, o6⟩ := hok
    have hk := Nat.le_of_ble_eq_true o1
    have o2 := of_decide_eq_true o2
    have w9 : ab_rs (mCC d) post (ab_I p l e R s m args below meth c Q D dA sb A ad0 n0 k) h (match ab_pop nn [] st with
      | some (av, r) => ab_r r fun a r => ab_call mB k' (.ref a :: av) lv r (pc + 3) b h
      | none => none) := w
    clear w
    have w := w9
    clear w9
    split at w
    · rename_i av r0 hpop
      obtain ⟨as, a1, rfl, a3⟩ := ab_pop.inv hpop
      rw [List.append_nil] at a3
      subst a3
      obtain ⟨a, r, rfl, w1⟩ := ab_r.inv w
      clear w
      obtain ⟨g1, g2, g3, g4, w4⟩ := ab_call.inv w1
      refine ab_cont (a := (Value.ref (ad a) :: av.map (ab_cv ad sb)).toArray) (pc := pc) (lv := lv) (b := b) (h := h) (k' := k') (r := r) hA h1 h2 h3 hl hlen hw hS hb1 hb2 g2 g3 g4 ?_
      have pre := ab_blind hK hex (av := .ref a :: av) hw
      have hstk : List.map (ab_cv ad sb) (av.reverse ++ .ref a :: r) = (av.map (ab_cv ad sb)).reverse ++ .ref (ad a) :: r.map (ab_cv ad sb) := by rw [List.map_append, List.map_reverse]; rfl
      have hcc : (mB k).1 - b.1 + (mB k').1 ≤ R.cells ∧ (mB k).2 - b.2 + (mB k').2 ≤ R.slots := ⟨by rw [hR.1]; have hb1 : b.1 ≤ (mB k).1 := hb1; omega, by rw [hR.2.1]; have hb2 : b.2 ≤ (mB k).2 := hb2; omega⟩
      match z, o4 with
      | 0, o4 =>
        exact va_runI (Ts := lw_good) (nL := mL k) (b := ad a) (As := av.map (ab_cv ad sb)) (rest := r.map (ab_cv ad sb)) (n := nn) ⟨hx, hb, hml, hown, hts⟩ (hM k' hk D dA sb ad (.ref a :: av) h _ H.size w4)
          ⟨ab_callB hts hk o2.2 hR (of_decide_eq_true o3) (ok_at.use o4 hts rfl) (ok_at.use o6 hts rfl), o2.1, ok_at.use o5 hts rfl⟩ pre rfl (by rw [List.length_map]; exact a1) (hl.1.trans hlen) hstk (lv_room (by rw [ab_ws_map]; exact g1)) hd hcc
      | z + 1, o4 =>
        have hc := ok_cls k' hk
        simp only [Bool.and_eq_true, decide_eq_true_eq] at hc
        obtain ⟨c1, c2, c3, c4⟩ := hc
        have c4 := Nat.le_of_ble_eq_true c4
        exact va_runIN (Ts := lw_good) (nL := mL k) (b := ad a) (As := av.map (ab_cv ad sb)) (rest := r.map (ab_cv ad sb)) (n := nn) ⟨hx, hb, hml, hown, hts⟩ (hM k' hk D dA sb ad (.ref a :: av) h _ H.size w4)
          ⟨va_cnB nn hts (mW_good hk) (by rw [← o2.2]; rfl) rfl rfl (hex.2.2 _ _ _ _ (ok_at.mem o4)) (ok_at.use o6 hts rfl) ⟨c2, c3, of_decide_eq_true o3⟩ ⟨hR.2.2.1, by show 8 + (mL k' + 11) + 60 * d ≤ _; have := hR.2.2.2; omega⟩, o2.1, ok_at.use o5 hts rfl⟩ pre rfl (by rw [List.length_map]; exact a1) (hl.1.trans hlen) hstk (lv_room (by rw [ab_ws_map]; exact g1)) hd hcc
    · cases w
  · rename_i p1 p2 p3
    simp only [Bool.and_eq_true] at hok
    obtain ⟨o1, o2, o3⟩ := hok
    obtain ⟨a, r, rfl, w1⟩ := ab_r.inv w
    clear w
    obtain ⟨hc, w2⟩ := ab_gd.inv w1
    have hc := Nat.le_of_ble_eq_true hc
    refine W.objInit (a := ad a) (rest := r.map (ab_cv ad sb)) hx hb hown (ok_at.use o1 hts rfl) (ok_at.use o2 hts rfl) (ok_at.use o3 hts rfl) rfl (by rw [hml]; exact hl.1.trans hlen) rfl hd (Nat.le_trans (Nat.le_add_left 1 d) hR.2.2.1) (by rw [ab_ws_map]; show 2 * 0 + _ + 12 ≤ _; have := hR.2.2.2; omega) ?_
    exact w2 ad H locs ls h1 h2 h3 hl hlen hw hS hb1 hb2
  · cases hok
/-- the ends -/
def ab_rk (rt : Option FieldType) (i : Instr) (r : Option Value) : Prop := (i = .ireturn ∧ ∃ v, r = some (.int v) ∧ ab_nr rt v = true) ∨ (i = .lreturn ∧ rt = some .long ∧ ∃ v, r = some (.long v)) ∨ (i = .areturn ∧ (∃ C, rt = some (.object C)) ∧ ∃ v, r = some v ∧ (v = .null ∨ ∃ a, v = .ref a)) ∨ (i = .return_ ∧ rt = none ∧ r = none)
def ab_ret (p : Program) (l : Launch) (e : Env) (R : Room) (s : State) (m : MethodId) (args : Array Value) (below : List Frame) (meth : Method) (c : Code) (Q : State → Prop) (D : va_G) (dA : Nat → Nat) (sb : Nat) (A : Nat → Prop) (ad0 : Nat → Nat) (n0 k : Nat) (post : ab_P) : Prop :=
  ∀ (i : Instr) (r : Option Value) (pc : Nat) (h : ab_H) (ad : Nat → Nat) (H : Heap) (locs : List Loc) (ls : Array Slot), decode (mC k) pc = .ok (i, 1) → ab_rk (mR k) i r → post r h → n0 ≤ h.length → (∀ i, i < n0 → ad i = ad0 i) → ((mB k).1 = 0 → ad = ad0) → ab_wd D dA sb A ad h H → va_S A s.heap H locs → W p l e R s m args below meth c H locs (mB k).1 (mB k).2 Q (F0 m pc ls (r.map (ab_cv ad sb)).toList)
theorem ab_j_ireturn (cx : ab_cx p l R s m args meth c D dA sb A k d X)  (hd : decode (mC k) pc = .ok (.ireturn, n)) (hn : nx = pc + n) (hln : ab_ln (.ireturn) n = true) (hok : ok_i k pc (.ireturn) au = true) (hret : ab_ret p l e R s m args below meth c Q D dA sb A ad0 n0 k post) (w : ab_rs (mCC d) post (ab_I p l e R s m args below meth c Q D dA sb A ad0 n0 k) h (ab_do mB mF (mR k) X (.ireturn) nx au lv st b h)) : ab_I p l e R s m args below meth c Q D dA sb A ad0 n0 k (pc, lv, st, b, h) := by
  obtain rfl := Nat.eq_of_beq_eq_true hln
  subst hn
  intro ad H locs ls h1 h2 h3 hl hlen hw hS hb1 hb2
  obtain ⟨hx, hb, hml, hown, hts, hK, hex, hA, hin, hR, hX, hM⟩ := cx
  refine W.widen (k := (mB k).1) (n := (mB k).2) (Nat.sub_le _ _) (Nat.sub_le _ _) ?_
  dsimp only [ab_do] at w
  split at w
  · rename_i v
    obtain ⟨hz, w1⟩ := ab_gd.inv w
    exact hret .ireturn (some (.int v)) pc h ad H locs ls hd (Or.inl ⟨rfl, v, rfl, hz⟩) w1 h1 h2 h3 hw hS
  · cases w
theorem ab_j_lreturn (cx : ab_cx p l R s m args meth c D dA sb A k d X)  (hd : decode (mC k) pc = .ok (.lreturn, n)) (hn : nx = pc + n) (hln : ab_ln (.lreturn) n = true) (hok : ok_i k pc (.lreturn) au = true) (hret : ab_ret p l e R s m args below meth c Q D dA sb A ad0 n0 k post) (w : ab_rs (mCC d) post (ab_I p l e R s m args below meth c Q D dA sb A ad0 n0 k) h (ab_do mB mF (mR k) X (.lreturn) nx au lv st b h)) : ab_I p l e R s m args below meth c Q D dA sb A ad0 n0 k (pc, lv, st, b, h) := by
  obtain rfl := Nat.eq_of_beq_eq_true hln
  subst hn
  intro ad H locs ls h1 h2 h3 hl hlen hw hS hb1 hb2
  obtain ⟨hx, hb, hml, hown, hts, hK, hex, hA, hin, hR, hX, hM⟩ := cx
  refine W.widen (k := (mB k).1) (n := (mB k).2) (Nat.sub_le _ _) (Nat.sub_le _ _) ?_
  dsimp only [ab_do] at w
  split at w
  · rename_i v
    exact hret .lreturn (some (.long v)) pc h ad H locs ls hd (Or.inr (Or.inl ⟨rfl, of_decide_eq_true hok, v, rfl⟩)) w h1 h2 h3 hw hS
  · cases w
theorem ab_j_areturn (cx : ab_cx p l R s m args meth c D dA sb A k d X)  (hd : decode (mC k) pc = .ok (.areturn, n)) (hn : nx = pc + n) (hln : ab_ln (.areturn) n = true) (hok : ok_i k pc (.areturn) au = true) (hret : ab_ret p l e R s m args below meth c Q D dA sb A ad0 n0 k post) (w : ab_rs (mCC d) post (ab_I p l e R s m args below meth c Q D dA sb A ad0 n0 k) h (ab_do mB mF (mR k) X (.areturn) nx au lv st b h)) : ab_I p l e R s m args below meth c Q D dA sb A ad0 n0 k (pc, lv, st, b, h) := by
  obtain rfl := Nat.eq_of_beq_eq_true hln
  subst hn
  intro ad H locs ls h1 h2 h3 hl hlen hw hS hb1 hb2
  obtain ⟨hx, hb, hml, hown, hts, hK, hex, hA, hin, hR, hX, hM⟩ := cx
  refine W.widen (k := (mB k).1) (n := (mB k).2) (Nat.sub_le _ _) (Nat.sub_le _ _) ?_
  dsimp only [ab_do] at w
  split at w
  · rename_i v
    have hC : ∃ C, mR k = some (.object C) := by
      dsimp only [ok_i] at hok
      split at hok
      · rename_i C e
        exact ⟨C, e⟩
      · cases hok
    exact hret .areturn (some (.ref v)) pc h ad H locs ls hd (Or.inr (Or.inr (Or.inl ⟨rfl, hC, _, rfl, Or.inr ⟨v, rfl⟩⟩))) w h1 h2 h3 hw hS
  · have hC : ∃ C, mR k = some (.object C) := by
      dsimp only [ok_i] at hok
      split at hok
      · rename_i C e
        exact ⟨C, e⟩
      · cases hok
    exact hret .areturn (some .null) pc h ad H locs ls hd (Or.inr (Or.inr (Or.inl ⟨rfl, hC, _, rfl, Or.inl rfl⟩))) w h1 h2 h3 hw hS
  · cases w
theorem ab_j_return_ (cx : ab_cx p l R s m args meth c D dA sb A k d X)  (hd : decode (mC k) pc = .ok (.return_, n)) (hn : nx = pc + n) (hln : ab_ln (.return_) n = true) (hok : ok_i k pc (.return_) au = true) (hret : ab_ret p l e R s m args below meth c Q D dA sb A ad0 n0 k post) (w : ab_rs (mCC d) post (ab_I p l e R s m args below meth c Q D dA sb A ad0 n0 k) h (ab_do mB mF (mR k) X (.return_) nx au lv st b h)) : ab_I p l e R s m args below meth c Q D dA sb A ad0 n0 k (pc, lv, st, b, h) := by
  obtain rfl := Nat.eq_of_beq_eq_true hln
  subst hn
  intro ad H locs ls h1 h2 h3 hl hlen hw hS hb1 hb2
  obtain ⟨hx, hb, hml, hown, hts, hK, hex, hA, hin, hR, hX, hM⟩ := cx
  refine W.widen (k := (mB k).1) (n := (mB k).2) (Nat.sub_le _ _) (Nat.sub_le _ _) ?_
  dsimp only [ab_do] at w
  split at w
  · exact hret .return_ none pc h ad H locs ls hd (Or.inr (Or.inr (Or.inr ⟨rfl, of_decide_eq_true hok, rfl⟩))) w h1 h2 h3 hw hS
  · cases w
theorem ab_close (cx : ab_cx p l R s m args meth c D dA sb A k d X) (hret : ab_ret p l e R s m args below meth c Q D dA sb A ad0 n0 k post) : ∀ q : ab_S, ab_rs (mCC d) post (ab_I p l e R s m args below meth c Q D dA sb A ad0 n0 k) q.2.2.2.2 (ab_st (mT k) mB mF (mR k) X q) → ab_I p l e R s m args below meth c Q D dA sb A ad0 n0 k q := by
  rintro ⟨pc, lv, st, b, h⟩ w
  unfold ab_st at w
  dsimp only at w
  cases hT : mT k pc with
  | none => rw [hT] at w; cases w
  | some t =>
    obtain ⟨i, nx, au⟩ := t
    rw [hT] at w
    obtain ⟨n, hd, hn, hln, hok⟩ := ok_get hT
    dsimp only at w
    cases i with
    | aconst_null => exact ab_j_aconst_null cx hd hn hln hok w
    | iadd => exact ab_j_iadd cx hd hn hln hok w
    | isub => exact ab_j_isub cx hd hn hln hok w
    | imul => exact ab_j_imul cx hd hn hln hok w
    | iand => exact ab_j_iand cx hd hn hln hok w
    | ior => exact ab_j_ior cx hd hn hln hok w
    | idiv => exact ab_j_idiv cx hd hn hln hok w
    | irem => exact ab_j_irem cx hd hn hln hok w
    | ineg => exact ab_j_ineg cx hd hn hln hok w
    | ishl => exact ab_j_ishl cx hd hn hln hok w
    | ishr => exact ab_j_ishr cx hd hn hln hok w
    | iushr => exact ab_j_iushr cx hd hn hln hok w
    | ladd => exact ab_j_ladd cx hd hn hln hok w
    | lsub => exact ab_j_lsub cx hd hn hln hok w
    | land => exact ab_j_land cx hd hn hln hok w
    | lor => exact ab_j_lor cx hd hn hln hok w
    | lxor => exact ab_j_lxor cx hd hn hln hok w
    | lneg => exact ab_j_lneg cx hd hn hln hok w
    | lshl => exact ab_j_lshl cx hd hn hln hok w
    | lshr => exact ab_j_lshr cx hd hn hln hok w
    | lushr => exact ab_j_lushr cx hd hn hln hok w
    | lcmp => exact ab_j_lcmp cx hd hn hln hok w
    | l2i => exact ab_j_l2i cx hd hn hln hok w
    | dup => exact ab_j_dup cx hd hn hln hok w
    | pop => exact ab_j_pop cx hd hn hln hok w
    | dup2 => exact ab_j_dup2 cx hd hn hln hok w
    | iaload => exact ab_j_iaload cx hd hn hln hok w
    | baload => exact ab_j_baload cx hd hn hln hok w
    | laload => exact ab_j_laload cx hd hn hln hok w
    | aaload => exact ab_j_aaload cx hd hn hln hok w
    | iastore => exact ab_j_iastore cx hd hn hln hok w
    | bastore => exact ab_j_bastore cx hd hn hln hok w
    | lastore => exact ab_j_lastore cx hd hn hln hok w
    | aastore => exact ab_j_aastore cx hd hn hln hok w
    | arraylength => exact ab_j_arraylength cx hd hn hln hok w
    | iconst j => exact ab_j_iconst cx j hd hn hln hok w
    | bipush j => exact ab_j_bipush cx j hd hn hln hok w
    | sipush j => exact ab_j_sipush cx j hd hn hln hok w
    | lconst j => exact ab_j_lconst cx j hd hn hln hok w
    | ldc_w j => exact ab_j_ldc_w cx j hd hn hln hok w
    | ldc2_w j => exact ab_j_ldc2_w cx j hd hn hln hok w
    | iload_n j => exact ab_j_iload_n cx j hd hn hln hok w
    | iload j => exact ab_j_iload cx j hd hn hln hok w
    | lload_n j => exact ab_j_lload_n cx j hd hn hln hok w
    | lload j => exact ab_j_lload cx j hd hn hln hok w
    | aload_n j => exact ab_j_aload_n cx j hd hn hln hok w
    | aload j => exact ab_j_aload cx j hd hn hln hok w
    | istore_n j => exact ab_j_istore_n cx j hd hn hln hok w
    | istore j => exact ab_j_istore cx j hd hn hln hok w
    | lstore_n j => exact ab_j_lstore_n cx j hd hn hln hok w
    | lstore j => exact ab_j_lstore cx j hd hn hln hok w
    | astore_n j => exact ab_j_astore_n cx j hd hn hln hok w
    | astore j => exact ab_j_astore cx j hd hn hln hok w
    | goto j => exact ab_j_goto cx j hd hn hln hok w
    | ifnull j => exact ab_j_ifnull cx j hd hn hln hok w
    | ifnonnull j => exact ab_j_ifnonnull cx j hd hn hln hok w
    | getfield j => exact ab_j_getfield cx j hd hn hln hok w
    | putfield j => exact ab_j_putfield cx j hd hn hln hok w
    | new j => exact ab_j_new cx j hd hn hln hok w
    | newarray j => exact ab_j_newarray cx j hd hn hln hok w
    | anewarray j => exact ab_j_anewarray cx j hd hn hln hok w
    | invokestatic j => exact ab_j_invokestatic cx j hd hn hln hok w
    | invokevirtual j => exact ab_j_invokevirtual cx j hd hn hln hok w
    | invokespecial j => exact ab_j_invokespecial cx j hd hn hln hok w
    | iinc j v => exact ab_j_iinc cx j v hd hn hln hok w
    | tableswitch a1 a2 a3 a4 => exact ab_j_tableswitch cx a1 a2 a3 a4 hd hn hln hok w
    | ifCond cd j =>
      cases cd with
      | eq => exact ab_j_ifCond_eq cx j hd hn hln hok w
      | ne => exact ab_j_ifCond_ne cx j hd hn hln hok w
      | lt => exact ab_j_ifCond_lt cx j hd hn hln hok w
      | ge => exact ab_j_ifCond_ge cx j hd hn hln hok w
      | gt => exact ab_j_ifCond_gt cx j hd hn hln hok w
      | le => exact ab_j_ifCond_le cx j hd hn hln hok w
    | if_icmp cd j =>
      cases cd with
      | eq => exact ab_j_if_icmp_eq cx j hd hn hln hok w
      | ne => exact ab_j_if_icmp_ne cx j hd hn hln hok w
      | lt => exact ab_j_if_icmp_lt cx j hd hn hln hok w
      | ge => exact ab_j_if_icmp_ge cx j hd hn hln hok w
      | gt => exact ab_j_if_icmp_gt cx j hd hn hln hok w
      | le => exact ab_j_if_icmp_le cx j hd hn hln hok w
    | ireturn => exact ab_j_ireturn cx hd hn hln hok hret w
    | lreturn => exact ab_j_lreturn cx hd hn hln hok hret w
    | areturn => exact ab_j_areturn cx hd hn hln hok hret w
    | return_ => exact ab_j_return_ cx hd hn hln hok hret w
    | _ => exact False.elim w
theorem ab_body (cx : ab_cx p l R s m args meth c D dA sb A k d X) (hret : ab_ret p l e R s m args below meth c Q D dA sb A ad0 n0 k post) {q : ab_S} (w : ab_W (ab_st (mT k) mB mF (mR k) X) (mCC d) post q) : ab_I p l e R s m args below meth c Q D dA sb A ad0 n0 k q := w _ (ab_close cx hret)
end ABL
theorem ab_met_all (l : Launch) : ∀ (d k : Nat), k < mN → ab_met l d k := by
  intro d
  induction d with
  | zero =>
    intro k hk D dA sb ad av h post sz w
    exact False.elim w
  | succ d ih =>
    intro k hk D dA sb ad av h post sz w
    obtain ⟨w0, w⟩ := w
    have w0 := Nat.le_of_ble_eq_true w0
    have hc := ok_cls k hk
    simp only [Bool.and_eq_true, decide_eq_true_eq] at hc
    obtain ⟨c1, c2, c3, c4⟩ := hc
    refine Met.ofW (cc := mC k) (maxL := mL k) (ret := mR k) c1 rfl ?_
    intro p e s m args below meth c s₁ B hml hv
    obtain ⟨rfl, hsz, hw, hK, hex⟩ := hv
    have hx := B.exec
    have hb := B.bytes
    have hr := B.returns
    have hts0 := atoms_spec (ws := mW k) B.pre
    have hts : ∀ w ∈ lw_good, w.before _ s = true := fun w hw => hts0 w (List.mem_cons_of_mem _ hw)
    have hown : s.vm.findClass (mY k).cls = some m.cls := findClass_of_methodNamed B.named
    have hlocks := B.notSynchronized
    have hin : meth.name = (mY k).name := (name_of_methodNamed B.named B.method).1
    subst hsz
    have hD := hw.2.self (sz := s.heap.size)
    have hP := hw.1
    generalize hAe : va_A (ab_cw ad sb dA h) s.heap.size = A at hD ⊢
    have hA : ∀ q : Nat, s.heap.size ≤ q → A q := fun q h => by rw [← hAe]; exact Or.inr h
    have hS : va_S A s.heap s.heap [] := va_S.rf
    have hl := ab_lr.entry ad sb (av := av) (n := mL k) w0
    rw [lg_entry_eq]
    generalize (lg_sl (av.map (ab_cv ad sb)) ++ List.replicate (mL k - (lg_sl (av.map (ab_cv ad sb))).length) Slot.unset).toArray = ls at hl ⊢
    have cx : ab_cx p l (headSpec (mW k) (mRm (d + 1) k)).room s m (av.map (ab_cv ad sb)).toArray meth c D dA sb A k d none :=
      ⟨hx, hb, hml, hown, hts, hK, hex, hA, fun q => hin.trans q, ⟨rfl, rfl, Nat.le_refl _, Nat.le_refl _⟩, fun x hx => (by cases hx), ih⟩
    have hret : ab_ret p l e (headSpec (mW k) (mRm (d + 1) k)).room s m (av.map (ab_cv ad sb)).toArray below meth c (MQ below (ab_Q D dA sb ad h.length (mB k).1 A post) (av.map (ab_cv ad sb)).toArray s (mB k).1 (mB k).2 A) D dA sb A ad h.length k post := by
      intro i r pc h' ad' H locs ls hd hrk hp g1 g2 g3 hw' hS'
      have fin : ∀ t : State, t.heap = H → s.WarmedH t.vm → ab_Q D dA sb ad h.length (mB k).1 A post (av.map (ab_cv ad sb)).toArray s (.returned (r.map (ab_cv ad' sb))) t := fun t ht hW => ⟨⟨r, h', ad', rfl, hp, g2, g3, g1, by rw [ht]; exact hw'⟩, hS'.F ht⟩
      rcases hrk with ⟨rfl, v, rfl, hz⟩ | ⟨rfl, hz, v, rfl⟩ | ⟨rfl, ⟨C, hz⟩, v, rfl, hv⟩ | ⟨rfl, hz, rfl⟩
      · cases hmr : mR k with
        | none => rw [hmr] at hz; cases hz
        | some ty =>
          rw [hmr] at hz hr
          have hnar : narrow ty (.int v) = .int v := by
            cases ty with
            | int => rfl
            | boolean =>
              have hz : (v == 0 || v == 1) = true := hz
              rw [Bool.or_eq_true, beq_iff_eq, beq_iff_eq] at hz
              rcases hz with rfl | rfl <;> rfl
            | _ => cases hz
          exact W.zret (v := v) hx hb hr hnar fin hS'.2.2 hd
      · rw [hz] at hr
        exact W.lret (v := v) hx hb hr fin hS'.2.2 hd
      · rw [hz] at hr
        exact W.aret (v := ab_cv ad' sb v) hx hb hr (Or.inl ⟨C, rfl⟩) (by
          rcases hv with rfl | ⟨a, rfl⟩
          · exact Or.inl rfl
          · exact Or.inr ⟨_, rfl⟩) fin hS'.2.2 hd
      · rw [hz] at hr
        exact W.vret hx hb hr fin hS'.2.2 hd
    have fin := ab_body cx hret w ad s.heap [] ls (Nat.le_refl _) (fun _ _ => rfl) (fun _ => rfl) hl (ab_lv_len av (mL k) w0) ⟨hP, hD⟩ hS (Nat.le_refl _) (Nat.le_refl _)
    exact W.cs (Nat.sub_self _).symm (Nat.sub_self _).symm fin
