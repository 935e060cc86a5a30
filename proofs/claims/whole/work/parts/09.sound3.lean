/-! THE ABSTRACT MACHINE IS SOUND, third part: cells, calls, ends -/
def mTy (ci : Nat) : Nat → FieldType := match ci with
  | 0 => tyX0
  | 1 => tyX1
  | 2 => tyX2
  | 3 => tyX4
  | 4 => tyX5
  | _ => tyX6
theorem ok_layg (C : String) (T : u_T) (k : Nat) : goodWord (u_lay C T k) = true := by
  unfold u_lay
  by_cases h : (T k).2.2.2 = true
  · rw [if_pos h]; rfl
  · rw [if_neg h]; rfl
theorem ok_good_of {C : String} {T : u_T} {N : Nat} (h : ∀ w ∈ u_ws C T N, w ∈ lw_tbl) : ∀ w ∈ u_ws C T N, w ∈ lw_good := by
  intro w hw
  refine List.mem_filter.mpr ⟨h w hw, ?_⟩
  obtain ⟨k, -, rfl⟩ := List.mem_map.mp hw
  exact ok_layg C T k
theorem ok_cl {ci : Nat} {r : vw_C} (h : vwCl[ci]? = some r) : (∀ w ∈ u_ws r.1 r.2.1 r.2.2, w ∈ lw_good) ∧ (∀ k, k < r.2.2 → parseFieldDescriptor (r.2.1 k).2.2.1 = some (mTy ci k)) ∧ (∀ a, a < r.2.2 → ∀ b, b < r.2.2 → a ≠ b → (r.2.1 a).2.1 ≠ (r.2.1 b).2.1) ∧ ∀ j, j < r.2.2 → defaultValue (mTy ci j) = vp_V (mF ci) j := by
  match ci, h with
  | 0, h => cases h; exact ⟨ok_good_of inX0, tyX0_ok, nmX0, by decide +kernel⟩
  | 1, h => cases h; exact ⟨ok_good_of inX1, tyX1_ok, nmX1, by decide +kernel⟩
  | 2, h => cases h; exact ⟨ok_good_of inX2, tyX2_ok, nmX2, by decide +kernel⟩
  | 3, h => cases h; exact ⟨ok_good_of inX4, tyX4_ok, nmX4, by decide +kernel⟩
  | 4, h => cases h; exact ⟨ok_good_of inX5, tyX5_ok, nmX5, by decide +kernel⟩
  | 5, h => cases h; exact ⟨ok_good_of inX6, tyX6_ok, nmX6, by decide +kernel⟩
  | ci + 6, h => simp [vwCl] at h
theorem ok_ft_ok (ad : Nat → Nat) (sb : Nat) {t : Nat} {d : String} {v : Value} (h1 : ok_ft t d = true) (h2 : ab_ft t v = true) : ∃ ty, parseFieldDescriptor d = some ty ∧ narrow ty (ab_cv ad sb v) = ab_cv ad sb v ∧ fits ty (ab_cv ad sb v) = true := by
  match t, v, h1, h2 with
  | 0, .int x, h1, h2 =>
    have hd : d = "I" := of_decide_eq_true h1
    subst hd
    exact ⟨.int, by decide +kernel, rfl, rfl⟩
  | 1, .int x, h1, h2 =>
    have hd : d = "Z" := of_decide_eq_true h1
    subst hd
    have hz : (x == 0 || x == 1) = true := h2
    refine ⟨.boolean, by decide +kernel, ?_, hz⟩
    rw [Bool.or_eq_true, beq_iff_eq, beq_iff_eq] at hz
    rcases hz with rfl | rfl <;> rfl
  | 2, .long x, h1, h2 =>
    have hd : d = "J" := of_decide_eq_true h1
    subst hd
    exact ⟨.long, by decide +kernel, rfl, rfl⟩
  | 3, .ref a, h1, h2 =>
    have h1 : (match parseFieldDescriptor d with
      | some (.object _) => true
      | some (.array _) => true
      | _ => false) = true := h1
    split at h1
    · rename_i C e
      exact ⟨.object C, e, rfl, rfl⟩
    · rename_i u e
      exact ⟨.array u, e, rfl, rfl⟩
    · cases h1
section ABK
variable {p : Program} {l : Launch} {e : Env} {R : Room} {s : State} {m : MethodId} {args : Array Value} {below : List Frame} {meth : Method} {c : Code} {Q : State → Prop} {D : va_G} {dA : Nat → Nat} {sb : Nat} {A : Nat → Prop} {ad0 : Nat → Nat} {n0 k d : Nat} {X : ab_X} {post : ab_P}
variable {pc nx n : Nat} {au : List Nat} {lv st : List Value} {b : Nat × Nat} {h : ab_H}

theorem ab_j_getfield (cx : ab_cx p l R s m args meth c D dA sb A k d X) (ix : Nat) (hd : decode (mC k) pc = .ok (.getfield ix, n)) (hn : nx = pc + n) (hln : ab_ln (.getfield ix) n = true) (hok : ok_i k pc (.getfield ix) au = true) (w : ab_rs (mCC d) post (ab_I p l e R s m args below meth c Q D dA sb A ad0 n0 k) h (ab_do mB mF (mR k) X (.getfield ix) nx au lv st b h)) : ab_I p l e R s m args below meth c Q D dA sb A ad0 n0 k (pc, lv, st, b, h) := by
  obtain rfl := Nat.eq_of_beq_eq_true hln
  subst hn
  intro ad H locs ls h1 h2 h3 hl hlen hw hS hb1 hb2
  obtain ⟨hx, hb, hml, hown, hts, hK, hex, hA, hin, hR, hX, hM⟩ := cx
  dsimp only [ok_i] at hok
  split at hok
  · rename_i ci f pl
    split at hok
    · rename_i rr hcl
      rw [Bool.and_eq_true] at hok
      obtain ⟨a, r, rfl, w1⟩ := ab_r.inv w
      clear w
      obtain ⟨ci', fs, hh, w2⟩ := ab_o.inv w1
      obtain ⟨hc, w3⟩ := ab_gd.inv w2
      obtain rfl := Nat.eq_of_beq_eq_true hc
      split at w3
      · rename_i v hv
        have hat := ab_cw_at (ad := ad) (sb := sb) (dA := dA) hh
        exact va_get (D := D) (ci := ci') (C := rr.1) (T := rr.2.1) (N := rr.2.2) (fs := fs.map (ab_cv ad sb)) (v := ab_cv ad sb v) hx hb hts (ok_cl hcl).1 hown hK hw.1 a hat hcl f (Nat.le_of_ble_eq_true hok.1) (ok_at.use hok.2 hts rfl) (fun _ h9 => h9) (by rw [List.getElem?_map, hv]; rfl) hd (w3 ad H locs ls h1 h2 h3 hl hlen hw hS hb1 hb2)
      · cases w3
    · cases hok
  · cases hok
theorem ab_j_putfield (cx : ab_cx p l R s m args meth c D dA sb A k d X) (ix : Nat) (hd : decode (mC k) pc = .ok (.putfield ix, n)) (hn : nx = pc + n) (hln : ab_ln (.putfield ix) n = true) (hok : ok_i k pc (.putfield ix) au = true) (w : ab_rs (mCC d) post (ab_I p l e R s m args below meth c Q D dA sb A ad0 n0 k) h (ab_do mB mF (mR k) X (.putfield ix) nx au lv st b h)) : ab_I p l e R s m args below meth c Q D dA sb A ad0 n0 k (pc, lv, st, b, h) := by
  obtain rfl := Nat.eq_of_beq_eq_true hln
  subst hn
  intro ad H locs ls h1 h2 h3 hl hlen hw hS hb1 hb2
  obtain ⟨hx, hb, hml, hown, hts, hK, hex, hA, hin, hR, hX, hM⟩ := cx
  dsimp only [ok_i] at hok
  split at hok
  · rename_i ci f t z pl
    split at hok
    · rename_i rr hcl
      simp only [Bool.and_eq_true] at hok
      obtain ⟨k1, k2, k3, k4, k5⟩ := hok
      obtain ⟨v, r1, rfl, w1⟩ := ab_v.inv w
      clear w
      obtain ⟨a, r, rfl, w2⟩ := ab_r.inv w1
      clear w1
      obtain ⟨ci', fs, hh, w3⟩ := ab_o.inv w2
      obtain ⟨hc, w4⟩ := ab_gd.inv w3
      simp only [Bool.and_eq_true] at hc
      obtain ⟨c1, c2, c3⟩ := hc
      obtain rfl := Nat.eq_of_beq_eq_true c1
      obtain ⟨ty, y1, y2, y3⟩ := ok_ft_ok ad sb k3 c2
      have hat := ab_cw_at (ad := ad) (sb := sb) (dA := dA) hh
      obtain ⟨z1, z2, z3, -⟩ := ok_cl hcl
      have hset : (fs.map (ab_cv ad sb)).set f (ab_cv ad sb v) = (fs.set f v).map (ab_cv ad sb) := by rw [List.map_set]
      have hfl : f < (fs.map (ab_cv ad sb)).length := by rw [List.length_map]; exact Nat.le_of_ble_eq_true c3
      have fin : ∀ (H1 : Heap) (locs1 : List Loc), va_P D vwCl ((ab_cw ad sb dA h).set a (ad a, .inr (ci', (fs.map (ab_cv ad sb)).set f (ab_cv ad sb v)))) H1 → va_D A ((ab_cw ad sb dA h).set a (ad a, .inr (ci', (fs.map (ab_cv ad sb)).set f (ab_cv ad sb v)))) → va_S A s.heap H1 locs1 → W p l e R s m args below meth c H1 locs1 ((mB k).1 - b.1) ((mB k).2 - b.2) Q (F0 m (pc + 3) ls (r.map (ab_cv ad sb))) := by
        intro H1 locs1 q1 q2 q3
        exact w4 ad H1 locs1 ls (by show n0 ≤ List.length _; rw [List.length_set]; exact h1) h2 h3 hl hlen (ab_wd.set (e := .inr (ci', fs.set f v)) q1 q2 (by show _ = _; rw [hset]; rfl)) q3 hb1 hb2
      cases hz : Nat.beq z 1 with
      | false =>
        rw [hz] at k4
        exact va_put (D := D) (ci := ci') (C := rr.1) (T := rr.2.1) (N := rr.2.2) (fs := fs.map (ab_cv ad sb)) (ty := ty) (v := ab_cv ad sb v) hx hb hts z1 (mTy ci') z2 z3 hown hK hw.1 hw.2 hS a hat hcl f (Nat.le_of_ble_eq_true k1) (ok_at.use k2 hts rfl) (fun _ h9 => h9) (of_decide_eq_true k4) y1 y2 y3 hfl hd fin
      | true =>
        rw [hz] at k4 k5
        simp only [Bool.not_true, Bool.false_or, Bool.and_eq_true] at k5
        exact va_putF (D := D) (ci := ci') (C := rr.1) (T := rr.2.1) (N := rr.2.2) (fs := fs.map (ab_cv ad sb)) (ty := ty) (v := ab_cv ad sb v) hx hb hts z1 (mTy ci') z2 z3 hown hK hw.1 hw.2 hS a hat hcl f (Nat.le_of_ble_eq_true k1) (ok_at.use k2 hts rfl) (fun _ h9 => h9) (of_decide_eq_true k4) (hin (of_decide_eq_true k5.1)) (of_decide_eq_true k5.2) y1 y2 y3 hfl hd fin
    · cases hok
  · cases hok
theorem ab_j_iaload (cx : ab_cx p l R s m args meth c D dA sb A k d X)  (hd : decode (mC k) pc = .ok (.iaload, n)) (hn : nx = pc + n) (hln : ab_ln (.iaload) n = true) (hok : ok_i k pc (.iaload) au = true) (w : ab_rs (mCC d) post (ab_I p l e R s m args below meth c Q D dA sb A ad0 n0 k) h (ab_do mB mF (mR k) X (.iaload) nx au lv st b h)) : ab_I p l e R s m args below meth c Q D dA sb A ad0 n0 k (pc, lv, st, b, h) := by
  obtain rfl := Nat.eq_of_beq_eq_true hln
  subst hn
  intro ad H locs ls h1 h2 h3 hl hlen hw hS hb1 hb2
  obtain ⟨hx, hb, hml, hown, hts, hK, hex, hA, hin, hR, hX, hM⟩ := cx
  obtain ⟨i, r1, rfl, w1⟩ := ab_i.inv w
  clear w
  split at w1
  · rename_i a r
    obtain ⟨t, n', g, hh, w3⟩ := ab_ai.inv w1
    obtain ⟨hc, w4⟩ := ab_gd.inv w3
    rw [Bool.and_eq_true] at hc
    obtain rfl := Nat.eq_of_beq_eq_true hc.1
    have hat := ab_cw_at (ad := ad) (sb := sb) (dA := dA) hh
    exact va_iald hx hb hK hw.1 a 0 hat rfl (ab_in.vp hc.2) hd (w4 ad H locs ls h1 h2 h3 hl hlen hw hS hb1 hb2)
  · rename_i r
    split at w1
    · rename_i x
      obtain ⟨hc, w4⟩ := ab_gd.inv w1
      obtain ⟨x1, x2, x3⟩ := hX x rfl
      exact va_sld hx hb x1 x2 x3 hS (ab_in.vp hc) hd (w4 ad H locs ls h1 h2 h3 hl hlen hw hS hb1 hb2)
    · cases w1
  · cases w1
theorem ab_j_baload (cx : ab_cx p l R s m args meth c D dA sb A k d X)  (hd : decode (mC k) pc = .ok (.baload, n)) (hn : nx = pc + n) (hln : ab_ln (.baload) n = true) (hok : ok_i k pc (.baload) au = true) (w : ab_rs (mCC d) post (ab_I p l e R s m args below meth c Q D dA sb A ad0 n0 k) h (ab_do mB mF (mR k) X (.baload) nx au lv st b h)) : ab_I p l e R s m args below meth c Q D dA sb A ad0 n0 k (pc, lv, st, b, h) := by
  obtain rfl := Nat.eq_of_beq_eq_true hln
  subst hn
  intro ad H locs ls h1 h2 h3 hl hlen hw hS hb1 hb2
  obtain ⟨hx, hb, hml, hown, hts, hK, hex, hA, hin, hR, hX, hM⟩ := cx
  obtain ⟨i, r1, rfl, w1⟩ := ab_i.inv w
  clear w
  obtain ⟨a, r, rfl, w2⟩ := ab_r.inv w1
  clear w1
  obtain ⟨t, n', g, hh, w3⟩ := ab_ai.inv w2
  obtain ⟨hc, w4⟩ := ab_gd.inv w3
  rw [Bool.and_eq_true] at hc
  obtain rfl := Nat.eq_of_beq_eq_true hc.1
  have hat := ab_cw_at (ad := ad) (sb := sb) (dA := dA) hh
  exact va_zald hx hb hK hw.1 a 2 hat rfl (ab_in.vp hc.2) hd (w4 ad H locs ls h1 h2 h3 hl hlen hw hS hb1 hb2)
theorem ab_j_laload (cx : ab_cx p l R s m args meth c D dA sb A k d X)  (hd : decode (mC k) pc = .ok (.laload, n)) (hn : nx = pc + n) (hln : ab_ln (.laload) n = true) (hok : ok_i k pc (.laload) au = true) (w : ab_rs (mCC d) post (ab_I p l e R s m args below meth c Q D dA sb A ad0 n0 k) h (ab_do mB mF (mR k) X (.laload) nx au lv st b h)) : ab_I p l e R s m args below meth c Q D dA sb A ad0 n0 k (pc, lv, st, b, h) := by
  obtain rfl := Nat.eq_of_beq_eq_true hln
  subst hn
  intro ad H locs ls h1 h2 h3 hl hlen hw hS hb1 hb2
  obtain ⟨hx, hb, hml, hown, hts, hK, hex, hA, hin, hR, hX, hM⟩ := cx
  obtain ⟨i, r1, rfl, w1⟩ := ab_i.inv w
  clear w
  obtain ⟨a, r, rfl, w2⟩ := ab_r.inv w1
  clear w1
  obtain ⟨t, n', g, hh, w3⟩ := ab_al.inv w2
  obtain ⟨hc, w4⟩ := ab_gd.inv w3
  rw [Bool.and_eq_true] at hc
  obtain rfl := Nat.eq_of_beq_eq_true hc.1
  have hat := ab_cw_at (ad := ad) (sb := sb) (dA := dA) hh
  exact va_lald hx hb hK hw.1 a 1 hat rfl (ab_in.vp hc.2) hd (w4 ad H locs ls h1 h2 h3 hl hlen hw hS hb1 hb2)
theorem ab_j_aaload (cx : ab_cx p l R s m args meth c D dA sb A k d X)  (hd : decode (mC k) pc = .ok (.aaload, n)) (hn : nx = pc + n) (hln : ab_ln (.aaload) n = true) (hok : ok_i k pc (.aaload) au = true) (w : ab_rs (mCC d) post (ab_I p l e R s m args below meth c Q D dA sb A ad0 n0 k) h (ab_do mB mF (mR k) X (.aaload) nx au lv st b h)) : ab_I p l e R s m args below meth c Q D dA sb A ad0 n0 k (pc, lv, st, b, h) := by
  obtain rfl := Nat.eq_of_beq_eq_true hln
  subst hn
  intro ad H locs ls h1 h2 h3 hl hlen hw hS hb1 hb2
  obtain ⟨hx, hb, hml, hown, hts, hK, hex, hA, hin, hR, hX, hM⟩ := cx
  obtain ⟨i, r1, rfl, w1⟩ := ab_i.inv w
  clear w
  obtain ⟨a, r, rfl, w2⟩ := ab_r.inv w1
  clear w1
  obtain ⟨t, n', g, hh, w3⟩ := ab_aq.inv w2
  obtain ⟨hc, w4⟩ := ab_gd.inv w3
  rw [Bool.and_eq_true, Bool.or_eq_true] at hc
  have hat := ab_cw_at (ad := ad) (sb := sb) (dA := dA) hh
  have hr : ∀ j, va_rf ((g j).map ad) = ab_cv ad sb (va_rf (g j)) := fun j => by cases g j <;> rfl
  have kk : W p l e R s m args below meth c H locs ((mB k).1 - b.1) ((mB k).2 - b.2) Q (F0 m (pc + 1) ls (va_rf ((g i.toNatClampNeg).map ad) :: r.map (ab_cv ad sb))) := by
    rw [hr]
    exact w4 ad H locs ls h1 h2 h3 hl hlen hw hS hb1 hb2
  rcases hc.1 with q | q
  · obtain rfl := Nat.eq_of_beq_eq_true q
    exact va_aldq (C := RX4) hx hb hK hw.1 a 3 hat rfl (ab_in.vp hc.2) hd kk
  · obtain rfl := Nat.eq_of_beq_eq_true q
    exact va_aldq (C := RX0) hx hb hK hw.1 a 4 hat rfl (ab_in.vp hc.2) hd kk
theorem ab_j_iastore (cx : ab_cx p l R s m args meth c D dA sb A k d X)  (hd : decode (mC k) pc = .ok (.iastore, n)) (hn : nx = pc + n) (hln : ab_ln (.iastore) n = true) (hok : ok_i k pc (.iastore) au = true) (w : ab_rs (mCC d) post (ab_I p l e R s m args below meth c Q D dA sb A ad0 n0 k) h (ab_do mB mF (mR k) X (.iastore) nx au lv st b h)) : ab_I p l e R s m args below meth c Q D dA sb A ad0 n0 k (pc, lv, st, b, h) := by
  obtain rfl := Nat.eq_of_beq_eq_true hln
  subst hn
  intro ad H locs ls h1 h2 h3 hl hlen hw hS hb1 hb2
  obtain ⟨hx, hb, hml, hown, hts, hK, hex, hA, hin, hR, hX, hM⟩ := cx
  obtain ⟨x, r0, rfl, w0⟩ := ab_i.inv w
  clear w
  obtain ⟨i, r1, rfl, w1⟩ := ab_i.inv w0
  clear w0
  obtain ⟨a, r, rfl, w2⟩ := ab_r.inv w1
  clear w1
  obtain ⟨t, n', g, hh, w3⟩ := ab_ai.inv w2
  obtain ⟨hc, w4⟩ := ab_gd.inv w3
  rw [Bool.and_eq_true] at hc
  obtain rfl := Nat.eq_of_beq_eq_true hc.1
  have hat := ab_cw_at (ad := ad) (sb := sb) (dA := dA) hh
  exact va_iast hx hb hK hw.1 hw.2 hS a 0 hat rfl (ab_in.vp hc.2) hd (fun H1 locs1 q1 q2 q3 => w4 ad H1 locs1 ls (by show n0 ≤ List.length _; rw [List.length_set]; exact h1) h2 h3 hl hlen (ab_wd.set q1 q2 rfl) q3 hb1 hb2)
theorem ab_j_bastore (cx : ab_cx p l R s m args meth c D dA sb A k d X)  (hd : decode (mC k) pc = .ok (.bastore, n)) (hn : nx = pc + n) (hln : ab_ln (.bastore) n = true) (hok : ok_i k pc (.bastore) au = true) (w : ab_rs (mCC d) post (ab_I p l e R s m args below meth c Q D dA sb A ad0 n0 k) h (ab_do mB mF (mR k) X (.bastore) nx au lv st b h)) : ab_I p l e R s m args below meth c Q D dA sb A ad0 n0 k (pc, lv, st, b, h) := by
  obtain rfl := Nat.eq_of_beq_eq_true hln
  subst hn
  intro ad H locs ls h1 h2 h3 hl hlen hw hS hb1 hb2
  obtain ⟨hx, hb, hml, hown, hts, hK, hex, hA, hin, hR, hX, hM⟩ := cx
  obtain ⟨x, r0, rfl, w0⟩ := ab_i.inv w
  clear w
  obtain ⟨i, r1, rfl, w1⟩ := ab_i.inv w0
  clear w0
  obtain ⟨a, r, rfl, w2⟩ := ab_r.inv w1
  clear w1
  obtain ⟨t, n', g, hh, w3⟩ := ab_ai.inv w2
  obtain ⟨hc, w4⟩ := ab_gd.inv w3
  simp only [Bool.and_eq_true] at hc
  obtain ⟨c1, c2, c3⟩ := hc
  obtain rfl := Nat.eq_of_beq_eq_true c1
  have hat := ab_cw_at (ad := ad) (sb := sb) (dA := dA) hh
  have hz : vp_nar .boolean x = x := by
    rw [Bool.or_eq_true, beq_iff_eq, beq_iff_eq] at c2
    rcases c2 with rfl | rfl <;> rfl
  refine va_zast (x := x) hx hb hK hw.1 hw.2 hS a 2 hat rfl (ab_in.vp c3) hd (fun H1 locs1 q1 q2 q3 => ?_)
  rw [hz] at q1 q2
  exact w4 ad H1 locs1 ls (by show n0 ≤ List.length _; rw [List.length_set]; exact h1) h2 h3 hl hlen (ab_wd.set q1 q2 rfl) q3 hb1 hb2
theorem ab_j_lastore (cx : ab_cx p l R s m args meth c D dA sb A k d X)  (hd : decode (mC k) pc = .ok (.lastore, n)) (hn : nx = pc + n) (hln : ab_ln (.lastore) n = true) (hok : ok_i k pc (.lastore) au = true) (w : ab_rs (mCC d) post (ab_I p l e R s m args below meth c Q D dA sb A ad0 n0 k) h (ab_do mB mF (mR k) X (.lastore) nx au lv st b h)) : ab_I p l e R s m args below meth c Q D dA sb A ad0 n0 k (pc, lv, st, b, h) := by
  obtain rfl := Nat.eq_of_beq_eq_true hln
  subst hn
  intro ad H locs ls h1 h2 h3 hl hlen hw hS hb1 hb2
  obtain ⟨hx, hb, hml, hown, hts, hK, hex, hA, hin, hR, hX, hM⟩ := cx
  obtain ⟨x, r0, rfl, w0⟩ := ab_l.inv w
  clear w
  obtain ⟨i, r1, rfl, w1⟩ := ab_i.inv w0
  clear w0
  obtain ⟨a, r, rfl, w2⟩ := ab_r.inv w1
  clear w1
  obtain ⟨t, n', g, hh, w3⟩ := ab_al.inv w2
  obtain ⟨hc, w4⟩ := ab_gd.inv w3
  rw [Bool.and_eq_true] at hc
  obtain rfl := Nat.eq_of_beq_eq_true hc.1
  have hat := ab_cw_at (ad := ad) (sb := sb) (dA := dA) hh
  exact va_last hx hb hK hw.1 hw.2 hS a 1 hat rfl (ab_in.vp hc.2) hd (fun H1 locs1 q1 q2 q3 => w4 ad H1 locs1 ls (by show n0 ≤ List.length _; rw [List.length_set]; exact h1) h2 h3 hl hlen (ab_wd.set q1 q2 rfl) q3 hb1 hb2)
theorem ab_j_aastore (cx : ab_cx p l R s m args meth c D dA sb A k d X)  (hd : decode (mC k) pc = .ok (.aastore, n)) (hn : nx = pc + n) (hln : ab_ln (.aastore) n = true) (hok : ok_i k pc (.aastore) au = true) (w : ab_rs (mCC d) post (ab_I p l e R s m args below meth c Q D dA sb A ad0 n0 k) h (ab_do mB mF (mR k) X (.aastore) nx au lv st b h)) : ab_I p l e R s m args below meth c Q D dA sb A ad0 n0 k (pc, lv, st, b, h) := by
  obtain rfl := Nat.eq_of_beq_eq_true hln
  subst hn
  intro ad H locs ls h1 h2 h3 hl hlen hw hS hb1 hb2
  obtain ⟨hx, hb, hml, hown, hts, hK, hex, hA, hin, hR, hX, hM⟩ := cx
  obtain ⟨x, r0, rfl, w0⟩ := ab_r.inv w
  clear w
  obtain ⟨i, r1, rfl, w1⟩ := ab_i.inv w0
  clear w0
  obtain ⟨a, r, rfl, w2⟩ := ab_r.inv w1
  clear w1
  obtain ⟨t, n', g, hh, w3⟩ := ab_aq.inv w2
  obtain ⟨ci, vs, hh2, w4⟩ := ab_o.inv w3
  obtain ⟨hc, w5⟩ := ab_gd.inv w4
  simp only [Bool.and_eq_true, Bool.or_eq_true] at hc
  have hat := ab_cw_at (ad := ad) (sb := sb) (dA := dA) hh
  have hat2 := ab_cw_at (ad := ad) (sb := sb) (dA := dA) hh2
  have hf : (fun j => (va_up g i.toNatClampNeg (some x) j).map ad) = va_up (fun j => (g j).map ad) i.toNatClampNeg (some (ad x)) := by
    funext j
    by_cases hj : j = i.toNatClampNeg
    · subst hj; rw [va_up_self, va_up_self]; rfl
    · rw [va_up_ne _ _ hj, va_up_ne _ _ hj]
  rcases hc.1 with ⟨q, q'⟩ | ⟨q, q'⟩
  · obtain rfl := Nat.eq_of_beq_eq_true q
    obtain rfl := Nat.eq_of_beq_eq_true q'
    refine va_astq (r := (RX4, TX4, 4)) hx hb hK hw.1 hw.2 hS a 3 x 3 hat rfl hat2 rfl (ab_in.vp hc.2) hd (fun H1 locs1 q1 q2 q3 => ?_)
    rw [← hf] at q1 q2
    exact w5 ad H1 locs1 ls (by show n0 ≤ List.length _; rw [List.length_set]; exact h1) h2 h3 hl hlen (ab_wd.set q1 q2 rfl) q3 hb1 hb2
  · obtain rfl := Nat.eq_of_beq_eq_true q
    obtain rfl := Nat.eq_of_beq_eq_true q'
    refine va_astq (r := (RX0, TX0, 2)) hx hb hK hw.1 hw.2 hS a 4 x 0 hat rfl hat2 rfl (ab_in.vp hc.2) hd (fun H1 locs1 q1 q2 q3 => ?_)
    rw [← hf] at q1 q2
    exact w5 ad H1 locs1 ls (by show n0 ≤ List.length _; rw [List.length_set]; exact h1) h2 h3 hl hlen (ab_wd.set q1 q2 rfl) q3 hb1 hb2
theorem ab_j_arraylength (cx : ab_cx p l R s m args meth c D dA sb A k d X)  (hd : decode (mC k) pc = .ok (.arraylength, n)) (hn : nx = pc + n) (hln : ab_ln (.arraylength) n = true) (hok : ok_i k pc (.arraylength) au = true) (w : ab_rs (mCC d) post (ab_I p l e R s m args below meth c Q D dA sb A ad0 n0 k) h (ab_do mB mF (mR k) X (.arraylength) nx au lv st b h)) : ab_I p l e R s m args below meth c Q D dA sb A ad0 n0 k (pc, lv, st, b, h) := by
  obtain rfl := Nat.eq_of_beq_eq_true hln
  subst hn
  intro ad H locs ls h1 h2 h3 hl hlen hw hS hb1 hb2
  obtain ⟨hx, hb, hml, hown, hts, hK, hex, hA, hin, hR, hX, hM⟩ := cx
  dsimp only [ab_do] at w
  split at w
  · rename_i r x
    obtain ⟨x1, x2, x3⟩ := hX x rfl
    exact va_slen hx hb x1 x2 x3 hS hd (w ad H locs ls h1 h2 h3 hl hlen hw hS hb1 hb2)
  · cases w
theorem ab_j_new (cx : ab_cx p l R s m args meth c D dA sb A k d X) (ix : Nat) (hd : decode (mC k) pc = .ok (.new ix, n)) (hn : nx = pc + n) (hln : ab_ln (.new ix) n = true) (hok : ok_i k pc (.new ix) au = true) (w : ab_rs (mCC d) post (ab_I p l e R s m args below meth c Q D dA sb A ad0 n0 k) h (ab_do mB mF (mR k) X (.new ix) nx au lv st b h)) : ab_I p l e R s m args below meth c Q D dA sb A ad0 n0 k (pc, lv, st, b, h) := by
  obtain rfl := Nat.eq_of_beq_eq_true hln
  subst hn
  intro ad H locs ls h1 h2 h3 hl hlen hw hS hb1 hb2
  obtain ⟨hx, hb, hml, hown, hts, hK, hex, hA, hin, hR, hX, hM⟩ := cx
  dsimp only [ok_i] at hok
  split at hok
  · rename_i ci N p1 p2 p3
    split at hok
    · rename_i rr hcl
      simp only [Bool.and_eq_true] at hok
      obtain ⟨k1, k2, k3, k4⟩ := hok
      obtain rfl := Nat.eq_of_beq_eq_true k1
      obtain ⟨bc, bs⟩ := b
      cases bc with
      | zero => cases w
      | succ bc =>
        obtain ⟨hc, w4⟩ := ab_gd.inv w
        rw [Bool.and_eq_true] at hc
        obtain ⟨l1, l2, l3⟩ : lv.all (ab_cl h.length) = true ∧ st.all (ab_cl h.length) = true ∧ h.all (ab_ce h.length) = true := by
          have := hc.2
          simp only [ab_clo, Bool.and_eq_true] at this
          exact this
        have hn := Nat.le_of_ble_eq_true hc.1
        have hb1 : bc + 1 ≤ (mB k).1 := hb1
        have hb2 : bs ≤ (mB k).2 := hb2
        obtain ⟨z1, z2, z3, z4⟩ := ok_cl hcl
        have hmap : (mF ci).map (ab_cv ad sb) = mF ci := by
          match ci with
          | 0 => rfl
          | 1 => rfl
          | 2 => rfl
          | 3 => rfl
          | 4 => rfl
          | _ + 5 => rfl
        refine va_new (c0 := c) (ci := ci) (fs := mF ci) (C := rr.1) (T := rr.2.1) (N := rr.2.2) hx hb hts z1 (mTy ci) z2 hown (ok_at.use k2 hts rfl) (ok_at.use k3 hts rfl) (ok_at.use k4 hts rfl) hK hw.1 hw.2 hS hA hcl z4 (by rw [hR.1]; show (mB k).1 - (bc + 1) + 1 ≤ _; omega) (by rw [hR.2.1]; show (mB k).2 - bs + rr.2.2 ≤ _; omega) hd (fun q H1 q1 q2 q3 => ?_)
        have he : ∀ i, i < h.length → va_up ad h.length q i = ad i := fun i hi => va_up_ne ad q (Nat.ne_of_lt hi)
        have fin := w4 (va_up ad h.length q) H1 locs ls (by show n0 ≤ List.length _; rw [List.length_append]; exact Nat.le_trans h1 (Nat.le_add_right _ _)) (fun i hi => by rw [va_up_ne ad q (Nat.ne_of_lt (Nat.lt_of_lt_of_le hi h1))]; exact h2 i hi) (fun hz => by omega) (hl.ext he l1) hlen (ab_wd.push (e := .inr (ci, mF ci)) l3 q1 q2 (by show Sum.inr (ci, (mF ci).map (ab_cv (va_up ad h.length q) sb)) = _; rw [show (mF ci).map (ab_cv (va_up ad h.length q) sb) = mF ci by match ci with
          | 0 => rfl
          | 1 => rfl
          | 2 => rfl
          | 3 => rfl
          | 4 => rfl
          | _ + 5 => rfl])) q3 (by show bc ≤ _; omega) (by show bs - rr.2.2 ≤ _; omega)
        rw [show List.map (ab_cv (va_up ad h.length q) sb) (.ref h.length :: st) = .ref q :: st.map (ab_cv ad sb) by rw [List.map_cons, ab_map_ext he l2]; show Value.ref (va_up ad h.length q h.length) :: _ = _; rw [va_up_self]] at fin
        exact W.cs (by show (mB k).1 - (bc + 1) + 1 = (mB k).1 - bc; omega) (by show (mB k).2 - bs + rr.2.2 = (mB k).2 - (bs - rr.2.2); omega) fin
    · cases hok
  · cases hok
theorem ab_j_newarrayG (cx : ab_cx p l R s m args meth c D dA sb A k d X) (t : ArrayType) {g : Nat} {ty : FieldType} {a0 : vp_A} {e0 : va_E} {nn : Int32} {r : List Value} {bc bs : Nat} (hty : newarray.typeOf t = ty) (htag : (ab_tys dA)[g]? = some (dA g, ty)) (hprim : ∀ (U : State) (q : ClassId), va_RA U q ty → U.vm.findClass ("[" ++ ty.toString) = some q) (hme : ∀ ad : Nat → Nat, ab_me ad sb dA e0 = .inl (dA g, a0)) (ha0 : ∀ cA : ClassId, vp_cell cA a0 = arrV cA nn.toNatClampNeg (fun _ => defaultValue ty)) (hby : componentBytes ty ≤ 8) (harr : Cond.arrayClass (newarray.typeOf t) ∈ lw_tbl) (hst : st = .int nn :: r) (hbb : b = (bc + 1, bs)) (hc : (!(decide (nn < 0)) && (Nat.ble nn.toNatClampNeg bs && (Nat.ble nn.toNatClampNeg 67108864 && ab_clo lv r h))) = true) (w4 : ab_I p l e R s m args below meth c Q D dA sb A ad0 n0 k (nx, lv, .ref h.length :: r, (bc, bs - nn.toNatClampNeg), h ++ [e0])) (hd : decode (mC k) pc = .ok (.newarray t, n)) (hn : nx = pc + n) (hln : ab_ln (.newarray t) n = true) : ab_I p l e R s m args below meth c Q D dA sb A ad0 n0 k (pc, lv, st, b, h) := by
  obtain rfl := Nat.eq_of_beq_eq_true hln
  subst hn
  subst hst
  subst hbb
  intro ad H locs ls h1 h2 h3 hl hlen hw hS hb1 hb2
  obtain ⟨hx, hb, hml, hown, hts, hK, hex, hA, hin, hR, hX, hM⟩ := cx
  simp only [Bool.and_eq_true, Bool.not_eq_true', decide_eq_false_iff_not] at hc
  obtain ⟨c1, c2, c3, c4⟩ := hc
  obtain ⟨l1, l2, l3⟩ : lv.all (ab_cl h.length) = true ∧ r.all (ab_cl h.length) = true ∧ h.all (ab_ce h.length) = true := by
    simp only [ab_clo, Bool.and_eq_true] at c4
    exact c4
  have c2 := Nat.le_of_ble_eq_true c2
  have c3 := Nat.le_of_ble_eq_true c3
  have hb1 : bc + 1 ≤ (mB k).1 := hb1
  have hb2 : bs ≤ (mB k).2 := hb2
  have hbytes : nn.toNatClampNeg * componentBytes ty ≤ 536870912 := Nat.le_trans (Nat.mul_le_mul_left _ hby) (by omega)
  refine va_newa (atype := t) (ty := ty) (a0 := a0) (N' := nn.toNatClampNeg) hx hb (hts _ (List.mem_filter.mpr ⟨harr, rfl⟩)) hty hK hw.1 hw.2 hS hA ha0 c1 rfl hbytes (by rw [hR.1]; show (mB k).1 - (bc + 1) + 1 ≤ _; omega) (by rw [hR.2.1]; show (mB k).2 - bs + nn.toNatClampNeg ≤ _; omega) hd (fun q cA H1 q0 q1 q2 q3 => ?_)
  have e1 := hprim s cA (q0.2 (ab_tys dA).length (cA, ty) (by rw [List.getElem?_append_right (Nat.le_refl _), Nat.sub_self]; rfl)).2
  have e2 := hprim s (dA g) (hK.2 g (dA g, ty) htag).2
  have e3 : cA = dA g := Option.some.inj (e1.symm.trans e2)
  subst e3
  have he : ∀ i, i < h.length → va_up ad h.length q i = ad i := fun i hi => va_up_ne ad q (Nat.ne_of_lt hi)
  have fin := w4 (va_up ad h.length q) H1 locs ls (by show n0 ≤ List.length _; rw [List.length_append]; exact Nat.le_trans h1 (Nat.le_add_right _ _)) (fun i hi => by rw [va_up_ne ad q (Nat.ne_of_lt (Nat.lt_of_lt_of_le hi h1))]; exact h2 i hi) (fun hz => by omega) (hl.ext he l1) hlen (ab_wd.push (e := e0) l3 q1 q2 (hme _)) q3 (by show bc ≤ _; omega) (by show bs - nn.toNatClampNeg ≤ _; omega)
  rw [show List.map (ab_cv (va_up ad h.length q) sb) (.ref h.length :: r) = .ref q :: r.map (ab_cv ad sb) by rw [List.map_cons, ab_map_ext he l2]; show Value.ref (va_up ad h.length q h.length) :: _ = _; rw [va_up_self]] at fin
  exact W.cs (by show (mB k).1 - (bc + 1) + 1 = (mB k).1 - bc; omega) (by show (mB k).2 - bs + nn.toNatClampNeg = (mB k).2 - (bs - nn.toNatClampNeg); omega) fin
theorem ab_j_newarray (cx : ab_cx p l R s m args meth c D dA sb A k d X) (t : ArrayType) (hd : decode (mC k) pc = .ok (.newarray t, n)) (hn : nx = pc + n) (hln : ab_ln (.newarray t) n = true) (hok : ok_i k pc (.newarray t) au = true) (w : ab_rs (mCC d) post (ab_I p l e R s m args below meth c Q D dA sb A ad0 n0 k) h (ab_do mB mF (mR k) X (.newarray t) nx au lv st b h)) : ab_I p l e R s m args below meth c Q D dA sb A ad0 n0 k (pc, lv, st, b, h) := by
  dsimp only [ok_i] at hok
  split at hok
  · rename_i g pl
    rw [Bool.and_eq_true] at hok
    obtain ⟨o1, o2⟩ := hok
    obtain ⟨bc, bs⟩ := b
    cases bc with
    | zero => cases w
    | succ bc =>
      obtain ⟨nn, r, rfl, w1⟩ := ab_i.inv w
      clear w
      obtain ⟨hc, w2⟩ := ab_gd.inv w1
      match g, o2, w2 with
      | 0, o2, w2 => exact ab_j_newarrayG (ty := .int) (g := 0) (a0 := (nn.toNatClampNeg, .inl (fun _ => 0))) cx t (of_decide_eq_true o2) rfl (fun _ _ q => q) (fun _ => rfl) (fun _ => rfl) (by decide) (ok_at.mem o1) rfl rfl hc w2 hd hn hln
      | 1, o2, w2 => exact ab_j_newarrayG (ty := .long) (g := 1) (a0 := (nn.toNatClampNeg, .inr (.inl (fun _ => 0)))) cx t (of_decide_eq_true o2) rfl (fun _ _ q => q) (fun _ => rfl) (fun _ => rfl) (by decide) (ok_at.mem o1) rfl rfl hc w2 hd hn hln
      | 2, o2, w2 => exact ab_j_newarrayG (ty := .boolean) (g := 2) (a0 := (nn.toNatClampNeg, .inl (fun _ => 0))) cx t (of_decide_eq_true o2) rfl (fun _ _ q => q) (fun _ => rfl) (fun _ => rfl) (by decide) (ok_at.mem o1) rfl rfl hc w2 hd hn hln
      | _ + 3, o2, w2 => cases o2
  · cases hok
theorem ab_j_anewarrayG (cx : ab_cx p l R s m args meth c D dA sb A k d X) (ix : Nat) {g : Nat} {C : String} {nn : Int32} {r : List Value} {bc bs : Nat} (htag : (ab_tys dA)[g]? = some (dA g, .object C)) (hao : va_AO C s) (hlk : Cond.classLink (mY k).cls ix C ∈ lw_tbl) (hst : st = .int nn :: r) (hbb : b = (bc + 1, bs)) (hc : (!(decide (nn < 0)) && (Nat.ble nn.toNatClampNeg bs && (Nat.ble nn.toNatClampNeg 67108864 && (ab_clo lv r h && (Nat.beq g 3 || Nat.beq g 4))))) = true) (w4 : ab_I p l e R s m args below meth c Q D dA sb A ad0 n0 k (nx, lv, .ref h.length :: r, (bc, bs - nn.toNatClampNeg), h ++ [.inl (g, nn.toNatClampNeg, .inr (.inr (.inr (.inr (fun _ => none)))))])) (hd : decode (mC k) pc = .ok (.anewarray ix, n)) (hn : nx = pc + n) (hln : ab_ln (.anewarray ix) n = true) : ab_I p l e R s m args below meth c Q D dA sb A ad0 n0 k (pc, lv, st, b, h) := by
  obtain rfl := Nat.eq_of_beq_eq_true hln
  subst hn
  subst hst
  subst hbb
  intro ad H locs ls h1 h2 h3 hl hlen hw hS hb1 hb2
  obtain ⟨hx, hb, hml, hown, hts, hK, hex, hA, hin, hR, hX, hM⟩ := cx
  simp only [Bool.and_eq_true, Bool.not_eq_true', decide_eq_false_iff_not] at hc
  obtain ⟨c1, c2, c3, c4, c5⟩ := hc
  obtain ⟨l1, l2, l3⟩ : lv.all (ab_cl h.length) = true ∧ r.all (ab_cl h.length) = true ∧ h.all (ab_ce h.length) = true := by
    simp only [ab_clo, Bool.and_eq_true] at c4
    exact c4
  have c2 := Nat.le_of_ble_eq_true c2
  have c3 := Nat.le_of_ble_eq_true c3
  have hb1 : bc + 1 ≤ (mB k).1 := hb1
  have hb2 : bs ≤ (mB k).2 := hb2
  refine va_newq (N' := nn.toNatClampNeg) hx hb hown (hts _ (List.mem_filter.mpr ⟨hlk, rfl⟩)) hao hK hw.1 hw.2 hS hA c1 rfl (by omega) (by rw [hR.1]; show (mB k).1 - (bc + 1) + 1 ≤ _; omega) (by rw [hR.2.1]; show (mB k).2 - bs + nn.toNatClampNeg ≤ _; omega) hd (fun q cA H1 q0 q1 q2 q3 => ?_)
  obtain ⟨_, _, _, _, _, e1⟩ := (q0.2 (ab_tys dA).length (cA, .object C) (by rw [List.getElem?_append_right (Nat.le_refl _), Nat.sub_self]; rfl)).2
  obtain ⟨_, _, _, _, _, e2⟩ := (hK.2 g (dA g, .object C) htag).2
  have e3 : cA = dA g := Option.some.inj (e1.symm.trans e2)
  subst e3
  have he : ∀ i, i < h.length → va_up ad h.length q i = ad i := fun i hi => va_up_ne ad q (Nat.ne_of_lt hi)
  have fin := w4 (va_up ad h.length q) H1 locs ls (by show n0 ≤ List.length _; rw [List.length_append]; exact Nat.le_trans h1 (Nat.le_add_right _ _)) (fun i hi => by rw [va_up_ne ad q (Nat.ne_of_lt (Nat.lt_of_lt_of_le hi h1))]; exact h2 i hi) (fun hz => by omega) (hl.ext he l1) hlen (ab_wd.push (e := .inl (g, nn.toNatClampNeg, .inr (.inr (.inr (.inr (fun _ => none)))))) l3 q1 q2 rfl) q3 (by show bc ≤ _; omega) (by show bs - nn.toNatClampNeg ≤ _; omega)
  rw [show List.map (ab_cv (va_up ad h.length q) sb) (.ref h.length :: r) = .ref q :: r.map (ab_cv ad sb) by rw [List.map_cons, ab_map_ext he l2]; show Value.ref (va_up ad h.length q h.length) :: _ = _; rw [va_up_self]] at fin
  exact W.cs (by show (mB k).1 - (bc + 1) + 1 = (mB k).1 - bc; omega) (by show (mB k).2 - bs + nn.toNatClampNeg = (mB k).2 - (bs - nn.toNatClampNeg); omega) fin
theorem ab_j_anewarray (cx : ab_cx p l R s m args meth c D dA sb A k d X) (ix : Nat) (hd : decode (mC k) pc = .ok (.anewarray ix, n)) (hn : nx = pc + n) (hln : ab_ln (.anewarray ix) n = true) (hok : ok_i k pc (.anewarray ix) au = true) (w : ab_rs (mCC d) post (ab_I p l e R s m args below meth c Q D dA sb A ad0 n0 k) h (ab_do mB mF (mR k) X (.anewarray ix) nx au lv st b h)) : ab_I p l e R s m args below meth c Q D dA sb A ad0 n0 k (pc, lv, st, b, h) := by
  dsimp only [ok_i] at hok
  split at hok
  · rename_i g p1 p2
    obtain ⟨bc, bs⟩ := b
    cases bc with
    | zero => cases w
    | succ bc =>
      obtain ⟨nn, r, rfl, w1⟩ := ab_i.inv w
      clear w
      obtain ⟨hc, w2⟩ := ab_gd.inv w1
      match g, hok, hc, w2 with
      | 3, hok, hc, w2 => exact ab_j_anewarrayG (g := 3) (C := RX4) cx ix rfl cx.2.2.2.2.2.2.1.1 (ok_at.mem ((Bool.and_eq_true _ _).mp hok).1) rfl rfl hc w2 hd hn hln
      | 4, hok, hc, w2 => exact ab_j_anewarrayG (g := 4) (C := RX0) cx ix rfl cx.2.2.2.2.2.2.1.2.1 (ok_at.mem ((Bool.and_eq_true _ _).mp hok).1) rfl rfl hc w2 hd hn hln
      | 0, hok, hc, w2 => cases hok
      | 1, hok, hc, w2 => cases hok
      | 2, hok, hc, w2 => cases hok
      | _ + 5, hok, hc, w2 => cases hok
  · cases hok
end ABK
