/-! what the tables of code must keep, decided by program -/
def ok_at (p : Nat) (w : Cond) : Bool := decide (lw_tbl[p]? = some w)
theorem ok_at.mem {p : Nat} {w : Cond} (h : ok_at p w = true) : w ∈ lw_tbl := List.mem_of_getElem? (of_decide_eq_true h)
/-- the words that stay good on the way -/
def lw_good : List Cond := lw_tbl.filter goodWord
theorem ok_at.use {p : Nat} {w : Cond} {args : Array Value} {s : State} (h : ok_at p w = true) (hts : ∀ w ∈ lw_good, w.before args s = true) (hg : goodWord w = true) : w.before args s = true := hts w (List.mem_filter.mpr ⟨ok_at.mem h, hg⟩)
def ok_ft (t : Nat) (d : String) : Bool := match t with
  | 0 => decide (d = "I")
  | 1 => decide (d = "Z")
  | 2 => decide (d = "J")
  | 3 => match parseFieldDescriptor d with
    | some (.object _) => true
    | some (.array _) => true
    | _ => false
  | _ => false
def ok_tag (t : Nat) : Option String := match t with
  | 3 => some RX4
  | 4 => some RX0
  | _ => none
def ok_i (k pc : Nat) (i : Instr) (au : List Nat) : Bool := match i with
  | .iconst v => decide (Int32.ofInt v = ab_ki au)
  | .bipush v => decide ((Int8.ofInt v).toInt32 = ab_ki au)
  | .sipush v => decide ((Int16.ofInt v).toInt32 = ab_ki au)
  | .lconst v => decide (Int64.ofNat v = ab_kl au)
  | .iinc _ v => decide (Int32.ofInt v = ab_ki au)
  | .ldc_w ix => match au with
    | [c, p] => ok_at p (.constant (mY k).cls ix (ab_ki [c]))
    | _ => false
  | .ldc2_w ix => match au with
    | [c, z, p] => ok_at p (.constantLong (mY k).cls ix (ab_kl [c, z, p]))
    | _ => false
  | .goto o => match au with
    | [t] => decide ((pc : Int) + o = (t : Int))
    | _ => false
  | .ifnull o => match au with
    | [t] => decide ((pc : Int) + o = (t : Int))
    | _ => false
  | .ifnonnull o => match au with
    | [t] => decide ((pc : Int) + o = (t : Int))
    | _ => false
  | .ifCond _ o => match au with
    | [t] => decide ((pc : Int) + o = (t : Int))
    | _ => false
  | .if_icmp _ o => match au with
    | [t] => decide ((pc : Int) + o = (t : Int))
    | _ => false
  | .tableswitch d _ _ offs => match au with
    | t :: ts => decide ((pc : Int) + d = (t : Int)) && decide (offs.toList.map (fun o => (pc : Int) + o) = ts.map (fun (t : Nat) => (t : Int)))
    | _ => false
  | .getfield ix => match au with
    | [ci, f, p] => match vwCl[ci]? with
      | some r => Nat.blt f r.2.2 && ok_at p (.fieldLink (mY k).cls ix (r.2.1 f).1 (r.2.1 f).2.1 (r.2.1 f).2.2.1)
      | none => false
    | _ => false
  | .putfield ix => match au with
    | [ci, f, t, z, p] => match vwCl[ci]? with
      | some r => Nat.blt f r.2.2 && (ok_at p (.fieldLink (mY k).cls ix (r.2.1 f).1 (r.2.1 f).2.1 (r.2.1 f).2.2.1) && (ok_ft t (r.2.1 f).2.2.1 && (decide ((r.2.1 f).2.2.2 = Nat.beq z 1) && (!(Nat.beq z 1) || (decide ((mY k).name = "<init>") && decide ((r.2.1 f).1 = (mY k).cls))))))
      | none => false
    | _ => false
  | .new ix => match au with
    | [ci, n, p1, p2, p3] => match vwCl[ci]? with
      | some r => Nat.beq n r.2.2 && (ok_at p1 (.classLink (mY k).cls ix r.1) && (ok_at p2 (.instantiable r.1 n) && ok_at p3 (.initialized r.1)))
      | none => false
    | _ => false
  | .newarray t => match au with
    | [g, p] => ok_at p (.arrayClass (newarray.typeOf t)) && (match g with
      | 0 => decide (newarray.typeOf t = .int)
      | 1 => decide (newarray.typeOf t = .long)
      | 2 => decide (newarray.typeOf t = .boolean)
      | _ => false)
    | _ => false
  | .anewarray ix => match au with
    | [g, p1, p2] => match ok_tag g with
      | some C => ok_at p1 (.classLink (mY k).cls ix C) && ok_at p2 (.arrayOver (.object C))
      | none => false
    | _ => false
  | .invokestatic ix => match au with
    | [0, k', n, p1, p2, p3] => Nat.blt k' mN && (decide ((parseMethodDescriptor (mY k').desc).map (fun d => d.parameters.length) = some n) && (ok_at p1 (.methodLink (mY k).cls ix (mY k')) && (ok_at p2 (.static (mY k')) && ok_at p3 (.initialized (mY k').cls))))
    | [1, p1, p2, p3, p4] => ok_at p1 (.methodLink (mY k).cls ix arraycopyName) && (ok_at p2 (.native arraycopyName) && (ok_at p3 (.static arraycopyName) && ok_at p4 (.initialized "java/lang/System")))
    | [2, p1, p2, p3, p4] => ok_at p1 (.methodLink (mY k).cls ix Lib.Math.max.name) && (ok_at p2 (.static Lib.Math.max.name) && (ok_at p3 (.initialized "java/lang/Math") && ok_at p4 (.code Lib.Math.max.name Lib.Math.max.code 2 (some .int))))
    | [3, p1, p2, p3, p4] => ok_at p1 (.methodLink (mY k).cls ix Lib.Math.min.name) && (ok_at p2 (.static Lib.Math.min.name) && (ok_at p3 (.initialized "java/lang/Math") && ok_at p4 (.code Lib.Math.min.name Lib.Math.min.code 2 (some .int))))
    | _ => false
  | .invokevirtual ix => match au with
    | [k', n, ci, p1, p2, p3, p4] => match vwCl[ci]? with
      | some r => Nat.blt k' mN && (decide ((mY k').cls = r.1) && (decide ((parseMethodDescriptor (mY k').desc).map (fun d => d.parameters.length) = some n) && (ok_at p1 (.methodLink (mY k).cls ix (mY k')) && (ok_at p2 (.instanceMethod (mY k')) && (ok_at p3 (.selects r.1 (mY k') (mY k')) && ok_at p4 (.initialized (mY k').cls))))))
      | none => false
    | _ => false
  | .invokespecial ix => match au with
    | [0, k', n, z, p1, p2, p3] => Nat.blt k' mN && (decide ((mY k').name = "<init>" ∧ mR k' = none) && (decide ((parseMethodDescriptor (mY k').desc).map (fun d => d.parameters.length) = some n) && ((match z with
      | 0 => ok_at p1 (.methodLink (mY k).cls ix (mY k'))
      | _ => ok_at p1 (.methodLinkNest (mY k).cls ix (mY k') "SpanStamps")) && (ok_at p2 (.instanceMethod (mY k')) && ok_at p3 (.initialized (mY k').cls)))))
    | [1, p1, p2, p3] => ok_at p1 (.methodLink (mY k).cls ix objectInit) && (ok_at p2 (.instanceMethod objectInit) && ok_at p3 (.code objectInit ⟨#[0xb1]⟩ 1 none))
    | _ => false
  | .lreturn => decide (mR k = some .long)
  | .areturn => match mR k with
    | some (.object _) => true
    | _ => false
  | .return_ => decide (mR k = none)
  | _ => true
def ab_ln (i : Instr) (n : Nat) : Bool := match i with
  | .bipush _ => Nat.beq n 2
  | .iload _ => Nat.beq n 2
  | .lload _ => Nat.beq n 2
  | .aload _ => Nat.beq n 2
  | .istore _ => Nat.beq n 2
  | .lstore _ => Nat.beq n 2
  | .astore _ => Nat.beq n 2
  | .newarray _ => Nat.beq n 2
  | .sipush _ => Nat.beq n 3
  | .ldc_w _ => Nat.beq n 3
  | .ldc2_w _ => Nat.beq n 3
  | .iinc _ _ => Nat.beq n 3
  | .goto _ => Nat.beq n 3
  | .ifnull _ => Nat.beq n 3
  | .ifnonnull _ => Nat.beq n 3
  | .ifCond _ _ => Nat.beq n 3
  | .if_icmp _ _ => Nat.beq n 3
  | .getfield _ => Nat.beq n 3
  | .putfield _ => Nat.beq n 3
  | .new _ => Nat.beq n 3
  | .anewarray _ => Nat.beq n 3
  | .invokestatic _ => Nat.beq n 3
  | .invokevirtual _ => Nat.beq n 3
  | .invokespecial _ => Nat.beq n 3
  | .tableswitch _ _ _ _ => true
  | _ => Nat.beq n 1
def ok_e (k : Nat) (e : Nat × ab_E) : Bool := (match decode (mC k) e.1 with
  | .ok (i, n) => decide (i = e.2.1) && (Nat.beq (e.1 + n) e.2.2.1 && ab_ln i n)
  | _ => false) && ok_i k e.1 e.2.1 e.2.2.2
