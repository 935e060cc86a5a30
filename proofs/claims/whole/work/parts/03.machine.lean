/-! THE ABSTRACT MACHINE: references are places in a list of cells; a step is a function -/
abbrev ab_H : Type := List va_E
abbrev ab_S : Type := Nat × List Value × List Value × (Nat × Nat) × ab_H
abbrev ab_R : Type := Option (ab_S ⊕ ((Nat × List Value × ab_S) ⊕ Option Value))
abbrev ab_E : Type := Instr × Nat × List Nat
abbrev ab_X : Type := Option (Nat × (Nat → Int32))
def ab_nx (pc : Nat) (lv st : List Value) (b : Nat × Nat) (h : ab_H) : ab_R := some (.inl (pc, lv, st, b, h))
def ab_i (st : List Value) (f : Int32 → List Value → ab_R) : ab_R := match st with
  | .int x :: r => f x r
  | _ => none
def ab_l (st : List Value) (f : Int64 → List Value → ab_R) : ab_R := match st with
  | .long x :: r => f x r
  | _ => none
def ab_r (st : List Value) (f : Nat → List Value → ab_R) : ab_R := match st with
  | .ref x :: r => f x r
  | _ => none
def ab_v (st : List Value) (f : Value → List Value → ab_R) : ab_R := match st with
  | x :: r => f x r
  | _ => none
def ab_gd (b : Bool) (r : ab_R) : ab_R := match b with
  | true => r
  | false => none
def ab_lg : List Value → Nat → Value
  | [], _ => .retAddr 0
  | v :: _, 0 => v
  | _ :: r, i + 1 => ab_lg r i
def ab_ls : List Value → Nat → Value → List Value
  | [], _, _ => []
  | _ :: r, 0, v => v :: r
  | a :: r, i + 1, v => a :: ab_ls r i v
def ab_c2 (v : Value) : Bool := match v with
  | .long _ => true
  | .double _ => true
  | _ => false
def ab_c1r (v : Value) : Bool := match v with
  | .ref _ => true
  | .null => true
  | _ => false
def ab_lok (lv : List Value) (i : Nat) : Bool := match i with
  | 0 => true
  | i + 1 => !(ab_c2 (ab_lg lv i))
def ab_s1 (lv : List Value) (i : Nat) (v : Value) (f : List Value → ab_R) : ab_R := ab_gd (ab_lok lv i && Nat.blt i lv.length) (f (ab_ls lv i v))
def ab_s2 (lv : List Value) (i : Nat) (v : Value) (f : List Value → ab_R) : ab_R := ab_gd (ab_lok lv i && Nat.blt (i + 1) lv.length) (f (ab_ls (ab_ls lv i v) (i + 1) (.retAddr 0)))
def ab_o (h : ab_H) (a : Nat) (f : Nat → List Value → ab_R) : ab_R := match h[a]? with
  | some (.inr (ci, fs)) => f ci fs
  | _ => none
def ab_ai (h : ab_H) (a : Nat) (f : Nat → Nat → (Nat → Int32) → ab_R) : ab_R := match h[a]? with
  | some (.inl (t, n, .inl g)) => f t n g
  | _ => none
def ab_al (h : ab_H) (a : Nat) (f : Nat → Nat → (Nat → Int64) → ab_R) : ab_R := match h[a]? with
  | some (.inl (t, n, .inr (.inl g))) => f t n g
  | _ => none
def ab_aq (h : ab_H) (a : Nat) (f : Nat → Nat → (Nat → Option Nat) → ab_R) : ab_R := match h[a]? with
  | some (.inl (t, n, .inr (.inr (.inr (.inr g))))) => f t n g
  | _ => none
def ab_in (i : Int32) (n : Nat) : Bool := !(decide (i < 0)) && Nat.blt i.toNatClampNeg n
def ab_ft (t : Nat) (v : Value) : Bool := match t, v with
  | 0, .int _ => true
  | 1, .int x => x == 0 || x == 1
  | 2, .long _ => true
  | 3, .ref _ => true
  | _, _ => false
def ab_ki (au : List Nat) : Int32 := match au with
  | [c] => nI c
  | c :: _ => -(nI c)
  | [] => 0
def ab_kl (au : List Nat) : Int64 := match au with
  | c :: 0 :: _ => lN c
  | c :: _ => -(lN c)
  | [] => 0
def ab_ws (st : List Value) : Nat := (st.map fun v => v.category).sum
def ab_pop : Nat → List Value → List Value → Option (List Value × List Value)
  | 0, acc, st => some (acc, st)
  | n + 1, acc, v :: st => ab_pop n (v :: acc) st
  | _ + 1, _, [] => none
def ab_cl (n : Nat) (v : Value) : Bool := match v with
  | .ref a => Nat.blt a n
  | _ => true
def ab_ce (n : Nat) (e : va_E) : Bool := match e with
  | .inr (_, fs) => fs.all (ab_cl n)
  | .inl (_, m, .inr (.inr (.inr (.inr g)))) => (List.range m).all (fun j => match g j with
    | some a => Nat.blt a n
    | none => true)
  | _ => true
def ab_clo (lv st : List Value) (h : ab_H) : Bool := lv.all (ab_cl h.length) && (st.all (ab_cl h.length) && h.all (ab_ce h.length))
def ab_na (t n : Nat) : Option va_E := match t with
  | 0 => some (.inl (0, n, .inl (fun _ => 0)))
  | 1 => some (.inl (1, n, .inr (.inl (fun _ => 0))))
  | 2 => some (.inl (2, n, .inl (fun _ => 0)))
  | _ => none
def ab_nr (rt : Option FieldType) (v : Int32) : Bool := match rt with
  | some .int => true
  | some .boolean => v == 0 || v == 1
  | _ => false
def ab_call (B : Nat → Nat × Nat) (k : Nat) (av lv rest : List Value) (nx : Nat) (b : Nat × Nat) (h : ab_H) : ab_R :=
  ab_gd (Nat.ble (ab_ws rest) 8 && (Nat.ble (B k).1 b.1 && (Nat.ble (B k).2 b.2 && (Nat.beq (B k).1 0 || ab_clo lv rest h))))
    (some (.inr (.inl (k, av, (nx, lv, rest, (b.1 - (B k).1, b.2 - (B k).2), h)))))
def ab_sw (x : Int32) (lo hi : Int) (au : List Nat) (f : Nat → ab_R) : ab_R := match au with
  | d :: ts => if x.toInt < lo ∨ hi < x.toInt then f d else match ts[(x.toInt - lo).toNat]? with
    | some t => f t
    | none => none
  | [] => none
def ab_jp (au : List Nat) (f : Nat → ab_R) : ab_R := match au with
  | t :: _ => f t
  | [] => none
def ab_do (B : Nat → Nat × Nat) (dF : Nat → List Value) (rt : Option FieldType) (X : ab_X) (i : Instr) (nx : Nat) (au : List Nat) (lv st : List Value) (b : Nat × Nat) (h : ab_H) : ab_R :=
  match i with
  | .iconst _ => ab_nx nx lv (.int (ab_ki au) :: st) b h
  | .bipush _ => ab_nx nx lv (.int (ab_ki au) :: st) b h
  | .sipush _ => ab_nx nx lv (.int (ab_ki au) :: st) b h
  | .lconst _ => ab_nx nx lv (.long (ab_kl au) :: st) b h
  | .ldc_w _ => ab_nx nx lv (.int (ab_ki (au.take 1)) :: st) b h
  | .ldc2_w _ => ab_nx nx lv (.long (ab_kl au) :: st) b h
  | .aconst_null => ab_nx nx lv (.null :: st) b h
  | .iload_n j => ab_i [ab_lg lv j] fun x _ => ab_nx nx lv (.int x :: st) b h
  | .iload j => ab_i [ab_lg lv j] fun x _ => ab_nx nx lv (.int x :: st) b h
  | .lload_n j => ab_l [ab_lg lv j] fun x _ => ab_nx nx lv (.long x :: st) b h
  | .lload j => ab_l [ab_lg lv j] fun x _ => ab_nx nx lv (.long x :: st) b h
  | .aload_n j => match ab_lg lv j with
    | .ref a => ab_nx nx lv (.ref a :: st) b h
    | .null => ab_nx nx lv (.null :: st) b h
    | .retAddr 1 => ab_nx nx lv (.retAddr 1 :: st) b h
    | _ => none
  | .aload j => match ab_lg lv j with
    | .ref a => ab_nx nx lv (.ref a :: st) b h
    | .null => ab_nx nx lv (.null :: st) b h
    | _ => none
  | .istore_n j => ab_i st fun x r => ab_s1 lv j (.int x) fun lv => ab_nx nx lv r b h
  | .istore j => ab_i st fun x r => ab_s1 lv j (.int x) fun lv => ab_nx nx lv r b h
  | .lstore_n j => ab_l st fun x r => ab_s2 lv j (.long x) fun lv => ab_nx nx lv r b h
  | .lstore j => ab_l st fun x r => ab_s2 lv j (.long x) fun lv => ab_nx nx lv r b h
  | .astore_n j => match st with
    | .ref a :: r => ab_s1 lv j (.ref a) fun lv => ab_nx nx lv r b h
    | .null :: r => ab_s1 lv j .null fun lv => ab_nx nx lv r b h
    | _ => none
  | .astore j => match st with
    | .ref a :: r => ab_s1 lv j (.ref a) fun lv => ab_nx nx lv r b h
    | .null :: r => ab_s1 lv j .null fun lv => ab_nx nx lv r b h
    | _ => none
  | .iinc j _ => ab_i [ab_lg lv j] fun x _ => ab_s1 lv j (.int (x + ab_ki au)) fun lv => ab_nx nx lv st b h
  | .iadd => ab_i st fun y r => ab_i r fun x r => ab_nx nx lv (.int (x + y) :: r) b h
  | .isub => ab_i st fun y r => ab_i r fun x r => ab_nx nx lv (.int (x - y) :: r) b h
  | .imul => ab_i st fun y r => ab_i r fun x r => ab_nx nx lv (.int (x * y) :: r) b h
  | .iand => ab_i st fun y r => ab_i r fun x r => ab_nx nx lv (.int (x &&& y) :: r) b h
  | .ior => ab_i st fun y r => ab_i r fun x r => ab_nx nx lv (.int (x ||| y) :: r) b h
  | .idiv => ab_i st fun y r => ab_i r fun x r => ab_gd (!(decide (y = 0))) (ab_nx nx lv (.int (x / y) :: r) b h)
  | .irem => ab_i st fun y r => ab_i r fun x r => ab_gd (!(decide (y = 0))) (ab_nx nx lv (.int (x - x / y * y) :: r) b h)
  | .ineg => ab_i st fun x r => ab_nx nx lv (.int (-x) :: r) b h
  | .ishl => ab_i st fun y r => ab_i r fun x r => ab_nx nx lv (.int (x <<< (y &&& 31)) :: r) b h
  | .ishr => ab_i st fun y r => ab_i r fun x r => ab_nx nx lv (.int (x >>> (y &&& 31)) :: r) b h
  | .iushr => ab_i st fun y r => ab_i r fun x r => ab_nx nx lv (.int (x.toUInt32 >>> (y.toUInt32 &&& Int32.toUInt32 31)).toInt32 :: r) b h
  | .ladd => ab_l st fun y r => ab_l r fun x r => ab_nx nx lv (.long (x + y) :: r) b h
  | .lsub => ab_l st fun y r => ab_l r fun x r => ab_nx nx lv (.long (x - y) :: r) b h
  | .land => ab_l st fun y r => ab_l r fun x r => ab_nx nx lv (.long (x &&& y) :: r) b h
  | .lor => ab_l st fun y r => ab_l r fun x r => ab_nx nx lv (.long (x ||| y) :: r) b h
  | .lxor => ab_l st fun y r => ab_l r fun x r => ab_nx nx lv (.long (x ^^^ y) :: r) b h
  | .lneg => ab_l st fun x r => ab_nx nx lv (.long (-x) :: r) b h
  | .lshl => ab_i st fun y r => ab_l r fun x r => ab_nx nx lv (.long (x <<< (y.toInt64 &&& 63)) :: r) b h
  | .lshr => ab_i st fun y r => ab_l r fun x r => ab_nx nx lv (.long (x >>> (y.toInt64 &&& 63)) :: r) b h
  | .lushr => ab_i st fun y r => ab_l r fun x r => ab_nx nx lv (.long (x.toUInt64 >>> (y.toInt64.toUInt64 &&& Int64.toUInt64 63)).toInt64 :: r) b h
  | .lcmp => ab_l st fun y r => ab_l r fun x r => ab_nx nx lv (.int (lg_cmp x y) :: r) b h
  | .l2i => ab_l st fun x r => ab_nx nx lv (.int x.toInt32 :: r) b h
  | .dup => ab_v st fun v r => ab_gd (!(ab_c2 v)) (ab_nx nx lv (v :: v :: r) b h)
  | .pop => ab_v st fun v r => ab_gd (!(ab_c2 v)) (ab_nx nx lv r b h)
  | .dup2 => ab_v st fun v r => ab_v r fun w r => ab_gd (!(ab_c2 v) && !(ab_c2 w)) (ab_nx nx lv (v :: w :: v :: w :: r) b h)
  | .goto _ => ab_jp au fun t => ab_nx t lv st b h
  | .ifnull _ => ab_jp au fun t => match st with
    | .null :: r => ab_nx t lv r b h
    | .ref _ :: r => ab_nx nx lv r b h
    | _ => none
  | .ifnonnull _ => ab_jp au fun t => match st with
    | .null :: r => ab_nx nx lv r b h
    | .ref _ :: r => ab_nx t lv r b h
    | _ => none
  | .ifCond c _ => ab_jp au fun t => ab_i st fun x r => match c with
    | .eq => if x = 0 then ab_nx t lv r b h else ab_nx nx lv r b h
    | .ne => if x = 0 then ab_nx nx lv r b h else ab_nx t lv r b h
    | .lt => if x < 0 then ab_nx t lv r b h else ab_nx nx lv r b h
    | .ge => if 0 ≤ x then ab_nx t lv r b h else ab_nx nx lv r b h
    | .gt => if 0 < x then ab_nx t lv r b h else ab_nx nx lv r b h
    | .le => if x ≤ 0 then ab_nx t lv r b h else ab_nx nx lv r b h
  | .if_icmp c _ => ab_jp au fun t => ab_i st fun y r => ab_i r fun x r => match c with
    | .eq => if x = y then ab_nx t lv r b h else ab_nx nx lv r b h
    | .ne => if x = y then ab_nx nx lv r b h else ab_nx t lv r b h
    | .lt => if x < y then ab_nx t lv r b h else ab_nx nx lv r b h
    | .ge => if y ≤ x then ab_nx t lv r b h else ab_nx nx lv r b h
    | .gt => if y < x then ab_nx t lv r b h else ab_nx nx lv r b h
    | .le => if x ≤ y then ab_nx t lv r b h else ab_nx nx lv r b h
  | .tableswitch _ lo hi _ => ab_i st fun x r => ab_sw x lo hi au fun t => ab_nx t lv r b h
  | .getfield _ => match au with
    | ci :: k :: _ => ab_r st fun a r => ab_o h a fun ci' fs => ab_gd (Nat.beq ci' ci) (match fs[k]? with
      | some v => ab_nx nx lv (v :: r) b h
      | none => none)
    | _ => none
  | .putfield _ => match au with
    | ci :: k :: t :: _ => ab_v st fun v r => ab_r r fun a r => ab_o h a fun ci' fs => ab_gd (Nat.beq ci' ci && (ab_ft t v && Nat.blt k fs.length)) (ab_nx nx lv r b (h.set a (.inr (ci', fs.set k v))))
    | _ => none
  | .iaload => ab_i st fun i r => match r with
    | .ref a :: r => ab_ai h a fun t n g => ab_gd (Nat.beq t 0 && ab_in i n) (ab_nx nx lv (.int (g i.toNatClampNeg) :: r) b h)
    | .retAddr 1 :: r => match X with
      | some x => ab_gd (ab_in i x.1) (ab_nx nx lv (.int (x.2 i.toNatClampNeg) :: r) b h)
      | none => none
    | _ => none
  | .baload => ab_i st fun i r => ab_r r fun a r => ab_ai h a fun t n g => ab_gd (Nat.beq t 2 && ab_in i n) (ab_nx nx lv (.int (g i.toNatClampNeg) :: r) b h)
  | .laload => ab_i st fun i r => ab_r r fun a r => ab_al h a fun t n g => ab_gd (Nat.beq t 1 && ab_in i n) (ab_nx nx lv (.long (g i.toNatClampNeg) :: r) b h)
  | .aaload => ab_i st fun i r => ab_r r fun a r => ab_aq h a fun t n g => ab_gd ((Nat.beq t 3 || Nat.beq t 4) && ab_in i n) (ab_nx nx lv (va_rf (g i.toNatClampNeg) :: r) b h)
  | .iastore => ab_i st fun x r => ab_i r fun i r => ab_r r fun a r => ab_ai h a fun t n g => ab_gd (Nat.beq t 0 && ab_in i n) (ab_nx nx lv r b (h.set a (.inl (t, n, .inl (upd g i.toNatClampNeg x)))))
  | .bastore => ab_i st fun x r => ab_i r fun i r => ab_r r fun a r => ab_ai h a fun t n g => ab_gd (Nat.beq t 2 && ((x == 0 || x == 1) && ab_in i n)) (ab_nx nx lv r b (h.set a (.inl (t, n, .inl (upd g i.toNatClampNeg x)))))
  | .lastore => ab_l st fun x r => ab_i r fun i r => ab_r r fun a r => ab_al h a fun t n g => ab_gd (Nat.beq t 1 && ab_in i n) (ab_nx nx lv r b (h.set a (.inl (t, n, .inr (.inl (vp_updL g i.toNatClampNeg x))))))
  | .aastore => ab_r st fun v r => ab_i r fun i r => ab_r r fun a r => ab_aq h a fun t n g => ab_o h v fun ci _ => ab_gd ((Nat.beq t 3 && Nat.beq ci 3 || Nat.beq t 4 && Nat.beq ci 0) && ab_in i n) (ab_nx nx lv r b (h.set a (.inl (t, n, .inr (.inr (.inr (.inr (va_up g i.toNatClampNeg (some v)))))))))
  | .arraylength => match st, X with
    | .retAddr 1 :: r, some x => ab_nx nx lv (.int (nI x.1) :: r) b h
    | _, _ => none
  | .new _ => match au, b with
    | ci :: n :: _, (bc + 1, bs) => ab_gd (Nat.ble n bs && ab_clo lv st h) (ab_nx nx lv (.ref h.length :: st) (bc, bs - n) (h ++ [.inr (ci, dF ci)]))
    | _, _ => none
  | .newarray _ => match au, b with
    | t :: _, (bc + 1, bs) => ab_i st fun n r => ab_gd (!(decide (n < 0)) && (Nat.ble n.toNatClampNeg bs && (Nat.ble n.toNatClampNeg 67108864 && ab_clo lv r h))) (match ab_na t n.toNatClampNeg with
      | some e => ab_nx nx lv (.ref h.length :: r) (bc, bs - n.toNatClampNeg) (h ++ [e])
      | none => none)
    | _, _ => none
  | .anewarray _ => match au, b with
    | t :: _, (bc + 1, bs) => ab_i st fun n r => ab_gd (!(decide (n < 0)) && (Nat.ble n.toNatClampNeg bs && (Nat.ble n.toNatClampNeg 67108864 && (ab_clo lv r h && (Nat.beq t 3 || Nat.beq t 4))))) (ab_nx nx lv (.ref h.length :: r) (bc, bs - n.toNatClampNeg) (h ++ [.inl (t, n.toNatClampNeg, .inr (.inr (.inr (.inr (fun _ => none)))))]))
    | _, _ => none
  | .invokestatic _ => match au with
    | 0 :: k :: n :: _ => match ab_pop n [] st with
      | some (av, r) => ab_call B k av lv r nx b h
      | none => none
    | 1 :: _ => ab_i st fun n r => ab_i r fun dp r => ab_r r fun a r => ab_i r fun sp r => ab_r r fun a0 r => ab_ai h a0 fun t0 n0 f => ab_ai h a fun t1 n1 g =>
      ab_gd (Nat.ble (ab_ws r) 8 && (Nat.beq t0 0 && (Nat.beq t1 0 && (!(decide (sp < 0)) && (!(decide (dp < 0)) && (!(decide (n < 0)) && (Nat.ble (sp.toNatClampNeg + n.toNatClampNeg) n0 && Nat.ble (dp.toNatClampNeg + n.toNatClampNeg) n1)))))))
        (ab_nx nx lv r b (h.set a (.inl (t1, n1, .inl (va_cpy f g sp.toNatClampNeg dp.toNatClampNeg n.toNatClampNeg)))))
    | 2 :: _ => ab_i st fun y r => ab_i r fun x r => ab_gd (Nat.ble (ab_ws r) 8) (ab_nx nx lv (.int (if x < y then y else x) :: r) b h)
    | 3 :: _ => ab_i st fun y r => ab_i r fun x r => ab_gd (Nat.ble (ab_ws r) 8) (ab_nx nx lv (.int (if y < x then y else x) :: r) b h)
    | _ => none
  | .invokevirtual _ => match au with
    | k :: n :: ci :: _ => match ab_pop n [] st with
      | some (av, r) => ab_r r fun a r => ab_o h a fun ci' _ => ab_gd (Nat.beq ci' ci) (ab_call B k (.ref a :: av) lv r nx b h)
      | none => none
    | _ => none
  | .invokespecial _ => match au with
    | 0 :: k :: n :: _ => match ab_pop n [] st with
      | some (av, r) => ab_r r fun a r => ab_call B k (.ref a :: av) lv r nx b h
      | none => none
    | 1 :: _ => ab_r st fun _ r => ab_gd (Nat.ble (ab_ws r) 8) (ab_nx nx lv r b h)
    | _ => none
  | .ireturn => match st with
    | [.int v] => ab_gd (ab_nr rt v) (some (.inr (.inr (some (.int v)))))
    | _ => none
  | .lreturn => match st with
    | [.long v] => some (.inr (.inr (some (.long v))))
    | _ => none
  | .areturn => match st with
    | [.ref v] => some (.inr (.inr (some (.ref v))))
    | [.null] => some (.inr (.inr (some .null)))
    | _ => none
  | .return_ => match st with
    | [] => some (.inr (.inr none))
    | _ => none
  | _ => none
def ab_st (T : Nat → Option ab_E) (B : Nat → Nat × Nat) (dF : Nat → List Value) (rt : Option FieldType) (X : ab_X) (q : ab_S) : ab_R :=
  match T q.1 with
  | some (i, nx, au) => ab_do B dF rt X i nx au q.2.1 q.2.2.1 q.2.2.2.1 q.2.2.2.2
  | none => none
/-- what an outcome of a step means -/
abbrev ab_P : Type := Option Value → ab_H → Prop
abbrev ab_C : Type := Nat → List Value → ab_H → ab_P → Prop
def ab_rs (C : ab_C) (post : ab_P) (P : ab_S → Prop) (h : ab_H) (r : ab_R) : Prop := match r with
  | none => False
  | some (.inl c) => P c
  | some (.inr (.inl (k, av, c))) => C k av c.2.2.2.2 (fun v h' => P (c.1, c.2.1, v.toList ++ c.2.2.1, c.2.2.2.1, h'))
  | some (.inr (.inr v)) => post v h
def ab_mono (C : ab_C) : Prop := ∀ (k : Nat) (av : List Value) (h : ab_H) (p q : ab_P), (∀ v h', p v h' → q v h') → C k av h p → C k av h q
/-- the machine comes to an end with post: the least fixed point of a step -/
def ab_W (F : ab_S → ab_R) (C : ab_C) (post : ab_P) (q : ab_S) : Prop := ∀ P : ab_S → Prop, (∀ q, ab_rs C post P q.2.2.2.2 (F q) → P q) → P q
theorem ab_W.mono {F : ab_S → ab_R} {C : ab_C} {p q : ab_P} (h : ∀ v h', p v h' → q v h') {c : ab_S} (w : ab_W F C p c) : ab_W F C q c := by
  intro P hP
  refine w P fun c hc => hP c ?_
  revert hc
  cases F c with
  | none => exact id
  | some r =>
    rcases r with r | r | r
    · exact id
    · exact id
    · exact h r _
theorem ab_W.fold {F : ab_S → ab_R} {C : ab_C} (hC : ab_mono C) {post : ab_P} {c : ab_S} (w : ab_rs C post (ab_W F C post) c.2.2.2.2 (F c)) : ab_W F C post c := by
  intro P hP
  refine hP c ?_
  revert w
  cases F c with
  | none => exact id
  | some r =>
    rcases r with r | r | r
    · exact fun w => w P hP
    · exact fun w => hC _ _ _ _ _ (fun v h' q => q P hP) w
    · exact id
/-- some steps that neither call nor return -/
def ab_sn (F : ab_S → ab_R) : Nat → ab_S → ab_R
  | 0, c => some (.inl c)
  | n + 1, c => match F c with
    | some (.inl c') => ab_sn F n c'
    | r => r
theorem ab_W.go {F : ab_S → ab_R} {C : ab_C} (hC : ab_mono C) {post : ab_P} (n : Nat) : ∀ {c c' : ab_S}, ab_sn F n c = some (.inl c') → ab_W F C post c' → ab_W F C post c := by
  induction n with
  | zero =>
    intro c c' e w
    cases e
    exact w
  | succ n ih =>
    intro c c' e w
    refine ab_W.fold hC ?_
    unfold ab_sn at e
    revert e
    cases hF : F c with
    | none => intro e; cases e
    | some r =>
      rcases r with r | r | r
      · intro e
        exact ih e w
      · intro e; cases e
      · intro e; cases e
theorem ab_W.ret {F : ab_S → ab_R} {C : ab_C} (hC : ab_mono C) {post : ab_P} {c : ab_S} {v : Option Value} (e : F c = some (.inr (.inr v))) (w : post v c.2.2.2.2) : ab_W F C post c := by
  refine ab_W.fold hC ?_
  rw [e]
  exact w
theorem ab_W.call {F : ab_S → ab_R} {C : ab_C} (hC : ab_mono C) {post : ab_P} {c c' : ab_S} {k : Nat} {av : List Value} (e : F c = some (.inr (.inl (k, av, c')))) (w : C k av c'.2.2.2.2 (fun v h' => ab_W F C post (c'.1, c'.2.1, v.toList ++ c'.2.2.1, c'.2.2.2.1, h'))) : ab_W F C post c := by
  refine ab_W.fold hC ?_
  rw [e]
  exact w
theorem ab_W.ite {F : ab_S → ab_R} {C : ab_C} (hC : ab_mono C) {post : ab_P} {c c1 c2 : ab_S} {p : Prop} [Decidable p] (e : F c = if p then some (.inl c1) else some (.inl c2)) (w1 : p → ab_W F C post c1) (w2 : ¬ p → ab_W F C post c2) : ab_W F C post c := by
  refine ab_W.fold hC ?_
  rw [e]
  by_cases h : p
  · rw [if_pos h]
    exact w1 h
  · rw [if_neg h]
    exact w2 h
theorem ab_W.gd {F : ab_S → ab_R} {C : ab_C} (hC : ab_mono C) {post : ab_P} {c c1 : ab_S} {b : Bool} (e : F c = ab_gd b (some (.inl c1))) (hb : b = true) (w1 : ab_W F C post c1) : ab_W F C post c := by
  refine ab_W.fold hC ?_
  rw [e, hb]
  exact w1
/-- the calls, by their depth -/
def ab_lv : Nat → List Value → List Value
  | n, [] => List.replicate n (.retAddr 0)
  | n, v :: vs => match ab_c2 v with
    | true => v :: .retAddr 0 :: ab_lv (n - 2) vs
    | false => v :: ab_lv (n - 1) vs
def ab_CC (T : Nat → Nat → Option ab_E) (B : Nat → Nat × Nat) (dF : Nat → List Value) (rT : Nat → Option FieldType) (mL : Nat → Nat) : Nat → ab_C
  | 0 => fun _ _ _ _ => False
  | d + 1 => fun k av h post => Nat.ble (ab_ws av) (mL k) = true ∧ ab_W (ab_st (T k) B dF (rT k) none) (ab_CC T B dF rT mL d) post (0, ab_lv (mL k) av, [], B k, h)
theorem ab_CC.mono (T : Nat → Nat → Option ab_E) (B : Nat → Nat × Nat) (dF : Nat → List Value) (rT : Nat → Option FieldType) (mL : Nat → Nat) (d : Nat) : ab_mono (ab_CC T B dF rT mL d) := by
  cases d with
  | zero => exact fun _ _ _ _ _ _ h => h
  | succ d => exact fun _ _ _ _ _ h w => ⟨w.1, ab_W.mono h w.2⟩
