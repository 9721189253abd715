def upI (I : AI) (k : Nat) (i v : Int) : AI := fun a j => if a = k ∧ j = i then v else I a j
def upJ (I : AJ) (k : Nat) (i : Int) (v : BitVec 64) : AJ := fun a j => if a = k ∧ j = i then v else I a j
def upR (I : AR) (k : Nat) (i : Int) (v : Option Nat) : AR := fun a j => if a = k ∧ j = i then v else I a j
def g_i (l : LO) (i : Nat) : Option Int := match l[i]? with
  | some (some (Sum.inl x)) => some x
  | _ => none
def g_l (l : LO) (i : Nat) : Option (BitVec 64) := match l[i]? with
  | some (some (Sum.inr (Sum.inl x))) => some x
  | _ => none
def g_r (l : LO) (i : Nat) : Option Nat := match l[i]? with
  | some (some (Sum.inr (Sum.inr (some x)))) => some x
  | _ => none
/-- a store of one word at i: i is there, and no long lies at i - 1 -/
def s_ok (l : LO) (i : Nat) : Bool := decide (i < l.length) && (decide (i = 0) || (match l[i - 1]? with
  | some (some (Sum.inr (Sum.inl _))) => false
  | _ => true))
def a_kill (ks : List Nat) (l : LO) : LO := ks.foldl (fun l i => l.set i none) l
def a_cat (v : AV) : Bool := match v with
  | Sum.inr (Sum.inl _) => false
  | _ => true
/-- the kinds of the fields of the classes: 0 int, 1 boolean, 3 long, 4 a reference -/
def a_tyc (t : FieldType) : Nat := match t with
  | .int => 0
  | .boolean => 1
  | .byte => 2
  | .long => 3
  | .object _ => 4
  | .array _ => 4
  | _ => 9
def a_cls (ci : Nat) : Nat × (Nat → FieldType) := match ci with
  | 0 => (10, tyX0)
  | 1 => (4, tyX1)
  | 2 => (12, tyX2)
  | 3 => (6, tyX3)
  | 4 => (2, tyX4)
  | 5 => (3, tyX5)
  | 6 => (2, tyX6)
  | 7 => (9, tyX7)
  | 8 => (10, tyX8)
  | 9 => (6, tyX9)
  | 10 => (11, tyX10)
  | 11 => (62, tyX11)
  | _ => (0, fun _ => .int)
def a_fty (ci k : Nat) : Nat := a_tyc ((a_cls ci).2 k)
def f_get (h : Hp) (ci k a : Nat) : Option AV := match h.1[a]? with
  | some (t, n) => if t = 10 + ci ∧ n = (a_cls ci).1 ∧ k < n ∧ 0 < a then
      (match a_fty ci k with
        | 3 => some (vl (h.2.2.1 a k))
        | 4 => some (vq (h.2.2.2 a k))
        | _ => some (vi (h.2.1 a k))) else none
  | none => none
def f_put (h : Hp) (ci k a : Nat) (v : AV) : Option Hp := match h.1[a]? with
  | some (t, n) => if t = 10 + ci ∧ n = (a_cls ci).1 ∧ k < n ∧ 0 < a then
      (match a_fty ci k, v with
        | 0, Sum.inl x => some (h.1, upI h.2.1 a k x, h.2.2.1, h.2.2.2)
        | 1, Sum.inl x => if x = 0 ∨ x = 1 then some (h.1, upI h.2.1 a k x, h.2.2.1, h.2.2.2) else none
        | 3, Sum.inr (Sum.inl x) => some (h.1, h.2.1, upJ h.2.2.1 a k x, h.2.2.2)
        | 4, Sum.inr (Sum.inr (some x)) => some (h.1, h.2.1, h.2.2.1, upR h.2.2.2 a k (some x))
        | _, _ => none) else none
  | none => none
def a_len (h : Hp) (t a : Nat) : Option Nat := match h.1[a]? with
  | some (t', n) => if t' = t then some n else none
  | none => none
def a_aty (t : ArrayType) : Nat := match t with
  | .int => 0
  | .boolean => 1
  | .byte => 2
  | .long => 3
  | _ => 9
def c_hold (c : ClassFile.Cond) (x y : Int) : Bool := match c with
  | .eq => decide (x = y)
  | .ne => decide (¬ x = y)
  | .lt => decide (x < y)
  | .ge => decide (y ≤ x)
  | .gt => decide (y < x)
  | .le => decide (x ≤ y)
def a_tgt (pc : Nat) (off : Int) : Nat := ((pc : Int) + off).toNat
/-- what may lie below the arguments of a call: at most eight words; below one call of the reference's linesOf (from findMerge) at most ten -/
def a_rest (M pc : Nat) (r : List AV) : Bool := decide (r.length ≤ 4) || (r.all a_cat && (decide (r.length ≤ 8) || (decide (M = 172 ∧ pc = 171) && decide (r.length ≤ 10))))
/-- a call: as many as n are taken off the stack -/
def a_inv (M n : Nat) (v : Bool) (pc : Nat) (l : LO) (st : List AV) (h : Hp) : Res := if n ≤ st.length ∧ a_rest M pc (st.drop n) = true ∧ M < 231 then r_call M (st.take n).reverse v pc l (st.drop n) h else none
def a_recv (h : Hp) (ci : Nat) (as : List AV) : Bool := match as with
  | Sum.inr (Sum.inr (some a)) :: _ => decide (h.1[a]? = some (10 + ci, (a_cls ci).1)) && decide (0 < a)
  | _ => false
def a_step (mi : Nat → MI) (E : Ent) (pc : Nat) (l : LO) (st : List AV) (h : Hp) : Res := match E.1 with
  | .iconst n => if -1 ≤ n ∧ n ≤ 5 then r_go (pc + 1) l (vi n :: st) h else none
  | .bipush n => if -128 ≤ n ∧ n ≤ 127 then r_go (pc + 2) l (vi n :: st) h else none
  | .sipush n => if -32768 ≤ n ∧ n ≤ 32767 then r_go (pc + 3) l (vi n :: st) h else none
  | .lconst n => r_go (pc + 1) l (vl (BitVec.ofNat 64 n.val) :: st) h
  | .ldc _ => if -2147483648 ≤ E.2.2.2 ∧ E.2.2.2 ≤ 2147483647 then r_go (pc + 2) l (vi E.2.2.2 :: st) h else none
  | .ldc_w _ => if -2147483648 ≤ E.2.2.2 ∧ E.2.2.2 ≤ 2147483647 then r_go (pc + 3) l (vi E.2.2.2 :: st) h else none
  | .ldc2_w _ => r_go (pc + 3) l (vl (BitVec.ofInt 64 E.2.2.2) :: st) h
  | .iload_n k => match g_i l k.val with
    | some x => r_go (pc + 1) l (vi x :: st) h
    | none => none
  | .iload i => match g_i l i with
    | some x => r_go (pc + 2) l (vi x :: st) h
    | none => none
  | .lload_n k => match g_l l k.val with
    | some x => r_go (pc + 1) l (vl x :: st) h
    | none => none
  | .aload_n k => match g_r l k.val with
    | some x => r_go (pc + 1) l (vr x :: st) h
    | none => none
  | .aload i => match g_r l i with
    | some x => r_go (pc + 2) l (vr x :: st) h
    | none => none
  | .istore_n k => match st with
    | Sum.inl x :: r => if s_ok l k.val = true then r_go (pc + 1) (l.set k.val (some (vi x))) r h else none
    | _ => none
  | .istore i => match st with
    | Sum.inl x :: r => if s_ok l i = true then r_go (pc + 2) (l.set i (some (vi x))) r h else none
    | _ => none
  | .astore_n k => match st with
    | Sum.inr (Sum.inr (some x)) :: r => if s_ok l k.val = true then r_go (pc + 1) (l.set k.val (some (vr x))) r h else none
    | _ => none
  | .astore i => match st with
    | Sum.inr (Sum.inr (some x)) :: r => if s_ok l i = true then r_go (pc + 2) (l.set i (some (vr x))) r h else none
    | _ => none
  | .lstore_n k => match st with
    | Sum.inr (Sum.inl x) :: r => if s_ok l k.val = true ∧ k.val + 1 < l.length ∧ k.val = 0 then r_go (pc + 1) ((l.set k.val (some (vl x))).set (k.val + 1) none) r h else none
    | _ => none
  | .iinc i n => match g_i l i with
    | some x => if s_ok l i = true ∧ (-2147483648 ≤ x + n ∧ x + n ≤ 2147483647) ∧ (-32768 ≤ n ∧ n ≤ 32767) then r_go (pc + 3) (l.set i (some (vi (x + n)))) st h else none
    | none => none
  | .iadd => match st with
    | Sum.inl y :: Sum.inl x :: r => if -2147483648 ≤ x + y ∧ x + y ≤ 2147483647 then r_go (pc + 1) l (vi (x + y) :: r) h else none
    | _ => none
  | .isub => match st with
    | Sum.inl y :: Sum.inl x :: r => if -2147483648 ≤ x - y ∧ x - y ≤ 2147483647 then r_go (pc + 1) l (vi (x - y) :: r) h else none
    | _ => none
  | .imul => match st with
    | Sum.inl y :: Sum.inl x :: r => if -2147483648 ≤ x * y ∧ x * y ≤ 2147483647 then r_go (pc + 1) l (vi (x * y) :: r) h else none
    | _ => none
  | .ineg => match st with
    | Sum.inl x :: r => if -2147483648 ≤ -x ∧ -x ≤ 2147483647 then r_go (pc + 1) l (vi (-x) :: r) h else none
    | _ => none
  | .idiv => match st with
    | Sum.inl y :: Sum.inl x :: r => if 0 ≤ x ∧ 0 < y then r_go (pc + 1) l (vi (x / y) :: r) h else none
    | _ => none
  | .irem => match st with
    | Sum.inl y :: Sum.inl x :: r => if 0 ≤ x ∧ 0 < y then r_go (pc + 1) l (vi (x % y) :: r) h else none
    | _ => none
  | .iand => match st with
    | Sum.inl y :: Sum.inl x :: r => if y = 63 then r_go (pc + 1) l (vi (x % 64) :: r) h else if y = 127 then r_go (pc + 1) l (vi (x % 128) :: r) h else none
    | _ => none
  | .i2b => match st with
    | Sum.inl x :: r => if -128 ≤ x ∧ x ≤ 127 then r_go (pc + 1) l (vi x :: r) h else none
    | _ => none
  | .l2i => match st with
    | Sum.inr (Sum.inl x) :: r => r_go (pc + 1) l (vi (x.signExtend 32).toInt :: r) h
    | _ => none
  | .ladd => match st with
    | Sum.inr (Sum.inl y) :: Sum.inr (Sum.inl x) :: r => r_go (pc + 1) l (vl (x + y) :: r) h
    | _ => none
  | .lsub => match st with
    | Sum.inr (Sum.inl y) :: Sum.inr (Sum.inl x) :: r => r_go (pc + 1) l (vl (x - y) :: r) h
    | _ => none
  | .land => match st with
    | Sum.inr (Sum.inl y) :: Sum.inr (Sum.inl x) :: r => r_go (pc + 1) l (vl (x &&& y) :: r) h
    | _ => none
  | .lor => match st with
    | Sum.inr (Sum.inl y) :: Sum.inr (Sum.inl x) :: r => r_go (pc + 1) l (vl (x ||| y) :: r) h
    | _ => none
  | .lxor => match st with
    | Sum.inr (Sum.inl y) :: Sum.inr (Sum.inl x) :: r => r_go (pc + 1) l (vl (x ^^^ y) :: r) h
    | _ => none
  | .lushr => match st with
    | Sum.inl y :: Sum.inr (Sum.inl x) :: r => if 0 ≤ y ∧ y < 64 then r_go (pc + 1) l (vl (x >>> y.toNat) :: r) h else none
    | _ => none
  | .lshl => match st with
    | Sum.inl y :: Sum.inr (Sum.inl x) :: r => if 0 ≤ y ∧ y < 64 then r_go (pc + 1) l (vl (x <<< y.toNat) :: r) h else none
    | _ => none
  | .lcmp => match st with
    | Sum.inr (Sum.inl y) :: Sum.inr (Sum.inl x) :: r => r_go (pc + 1) l (vi (if y.slt x then 1 else if x = y then 0 else -1) :: r) h
    | _ => none
  | .dup => match st with
    | v :: r => if a_cat v = true then r_go (pc + 1) l (v :: v :: r) h else none
    | _ => none
  | .pop => match st with
    | v :: r => if a_cat v = true then r_go (pc + 1) l r h else none
    | _ => none
  | .goto off => if 0 ≤ (pc : Int) + off then r_go (a_tgt pc off) l st h else none
  | .ifCond c off => match st with
    | Sum.inl x :: r => if 0 ≤ (pc : Int) + off then (if c_hold c x 0 = true then r_go (a_tgt pc off) l r h else r_go (pc + 3) l r h) else none
    | _ => none
  | .if_icmp c off => match st with
    | Sum.inl y :: Sum.inl x :: r => if 0 ≤ (pc : Int) + off then (if c_hold c x y = true then r_go (a_tgt pc off) l r h else r_go (pc + 3) l r h) else none
    | _ => none
  | .tableswitch d lo hi offs => match st with
    | Sum.inl x :: r => if x < lo ∨ hi < x then (if 0 ≤ (pc : Int) + d then r_go (a_tgt pc d) l r h else none) else
      (match offs[(x - lo).toNat]? with
        | some o => if 0 ≤ (pc : Int) + o then r_go (a_tgt pc o) l r h else none
        | none => none)
    | _ => none
  | .getfield _ => match st, E.2.1 with
    | Sum.inr (Sum.inr (some a)) :: r, ci :: k :: _ => match f_get h ci k a with
      | some v => r_go (pc + 3) l (v :: r) h
      | none => none
    | _, _ => none
  | .putfield _ => match st, E.2.1 with
    | v :: Sum.inr (Sum.inr (some a)) :: r, ci :: k :: _ => match f_put h ci k a v with
      | some h' => r_go (pc + 3) l r h'
      | none => none
    | _, _ => none
  | .iaload => match st with
    | Sum.inl i :: Sum.inr (Sum.inr (some a)) :: r => match a_len h 0 a with
      | some n => if 0 ≤ i ∧ i < (n : Int) then r_go (pc + 1) l (vi (h.2.1 a i) :: r) h else none
      | none => none
    | _ => none
  | .baload => match st with
    | Sum.inl i :: Sum.inr (Sum.inr (some a)) :: r => match h.1[a]? with
      | some (t, n) => if (t = 1 ∨ t = 2) ∧ 0 < a ∧ 0 ≤ i ∧ i < (n : Int) then r_go (pc + 1) l (vi (h.2.1 a i) :: r) h else none
      | none => none
    | _ => none
  | .laload => match st with
    | Sum.inl i :: Sum.inr (Sum.inr (some a)) :: r => match a_len h 3 a with
      | some n => if 0 < a ∧ 0 ≤ i ∧ i < (n : Int) then r_go (pc + 1) l (vl (h.2.2.1 a i) :: r) h else none
      | none => none
    | _ => none
  | .aaload => match st with
    | Sum.inl i :: Sum.inr (Sum.inr (some a)) :: r => match a_len h 4 a with
      | some n => if 0 < a ∧ 0 ≤ i ∧ i < (n : Int) then r_go (pc + 1) l (vq (h.2.2.2 a i) :: r) h else none
      | none => none
    | _ => none
  | .iastore => match st with
    | Sum.inl x :: Sum.inl i :: Sum.inr (Sum.inr (some a)) :: r => match a_len h 0 a with
      | some n => if 0 < a ∧ 0 ≤ i ∧ i < (n : Int) then r_go (pc + 1) l r (h.1, upI h.2.1 a i x, h.2.2.1, h.2.2.2) else none
      | none => none
    | _ => none
  | .bastore => match st with
    | Sum.inl x :: Sum.inl i :: Sum.inr (Sum.inr (some a)) :: r => match h.1[a]? with
      | some (t, n) => if ((t = 1 ∧ (x = 0 ∨ x = 1)) ∨ (t = 2 ∧ -128 ≤ x ∧ x ≤ 127)) ∧ 0 < a ∧ 0 ≤ i ∧ i < (n : Int) then r_go (pc + 1) l r (h.1, upI h.2.1 a i x, h.2.2.1, h.2.2.2) else none
      | none => none
    | _ => none
  | .lastore => match st with
    | Sum.inr (Sum.inl x) :: Sum.inl i :: Sum.inr (Sum.inr (some a)) :: r => match a_len h 3 a with
      | some n => if 0 < a ∧ 0 ≤ i ∧ i < (n : Int) then r_go (pc + 1) l r (h.1, h.2.1, upJ h.2.2.1 a i x, h.2.2.2) else none
      | none => none
    | _ => none
  | .aastore => match st with
    | Sum.inr (Sum.inr (some v)) :: Sum.inl i :: Sum.inr (Sum.inr (some a)) :: r => match a_len h 4 a, h.1[v]? with
      | some n, some (t, n2) => if t = 14 ∧ n2 = 2 ∧ 0 < v ∧ 0 < a ∧ 0 ≤ i ∧ i < (n : Int) then r_go (pc + 1) l r (h.1, h.2.1, h.2.2.1, upR h.2.2.2 a i (some v)) else none
      | _, _ => none
    | _ => none
  | .arraylength => match st with
    | Sum.inr (Sum.inr (some a)) :: r => match h.1[a]? with
      | some (t, n) => if t < 5 ∧ n ≤ 100000 then r_go (pc + 1) l (vi (n : Int) :: r) h else none
      | none => none
    | _ => none
  | .newarray t => match st with
    | Sum.inl n :: r => if 0 ≤ n ∧ n ≤ 10000 ∧ a_aty t < 4 ∧ 0 < h.1.length then r_go (pc + 2) l (vr h.1.length :: r) (h.1 ++ [(a_aty t, n.toNat)], h.2.1, h.2.2.1, h.2.2.2) else none
    | _ => none
  | .anewarray _ => match st with
    | Sum.inl n :: r => if 0 ≤ n ∧ n ≤ 10000 ∧ 0 < h.1.length then r_go (pc + 3) l (vr h.1.length :: r) (h.1 ++ [(4, n.toNat)], h.2.1, h.2.2.1, h.2.2.2) else none
    | _ => none
  | .new _ => match E.2.1 with
    | ci :: _ => if 0 < h.1.length then r_go (pc + 3) l (vr h.1.length :: st) (h.1 ++ [(10 + ci, (a_cls ci).1)], h.2.1, h.2.2.1, h.2.2.2) else none
    | _ => none
  | .invokevirtual _ => match E.2.1 with
    | M :: _ => if a_recv h ((mi M).2.2 - 1) (st.take (mi M).1).reverse = true then a_inv M (mi M).1 (mi M).2.1 (pc + 3) l st h else none
    | _ => none
  | .invokestatic _ => match E.2.1 with
    | M :: _ => if M = 1001 then (match st with
        | Sum.inl x :: r => if r.length ≤ 3 ∧ -2147483647 ≤ x then r_go (pc + 3) l (vi (if 0 ≤ x then x else -x) :: r) h else none
        | _ => none) else if M = 1002 then (match st with
        | Sum.inl y :: Sum.inl x :: r => if r.length ≤ 3 then r_go (pc + 3) l (vi (if x < y then y else x) :: r) h else none
        | _ => none) else if M = 1003 then (match st with
        | Sum.inl y :: Sum.inl x :: r => if r.length ≤ 3 then r_go (pc + 3) l (vi (if y < x then y else x) :: r) h else none
        | _ => none) else a_inv M (mi M).1 (mi M).2.1 (pc + 3) l st h
    | _ => none
  | .invokespecial _ => match E.2.1 with
    | M :: _ => if M = 999 then (match st with
        | Sum.inr (Sum.inr (some _)) :: r => if r.length ≤ 4 then r_go (pc + 3) l r h else none
        | _ => none) else if a_recv h ((mi M).2.2 - 1) (st.take (mi M).1).reverse = true then a_inv M (mi M).1 (mi M).2.1 (pc + 3) l st h else none
    | _ => none
  | .ireturn => match st with
    | [Sum.inl x] => if E.2.1 = [0] ∨ (E.2.1 = [1] ∧ (x = 0 ∨ x = 1)) then r_ret (vi x) h else none
    | _ => none
  | .areturn => match st with
    | [Sum.inr (Sum.inr (some x))] => r_ret (vr x) h
    | _ => none
  | .return_ => match st with
    | [] => r_ret (vi 0) h
    | _ => none
  | _ => none
/-- the locals of a method at its start -/
def a_sl (as : List AV) : LO := as.flatMap (fun v => match v with
  | Sum.inr (Sum.inl x) => [some (vl x), none]
  | v => [some v])
def a_ent (mL : Nat) (as : List AV) : LO := a_sl as ++ List.replicate (mL - (a_sl as).length) none
def a_run (P : Prg) : Nat → Nat → Nat → LO → List AV → Hp → Option (AV × Hp)
  | 0, _, _, _, _, _ => none
  | n + 1, M, pc, l, st, h => match P.1 M pc with
    | none => none
    | some E => match a_step P.2.1 E pc (a_kill E.2.2.1 l) st h with
      | none => none
      | some (Sum.inl r) => some r
      | some (Sum.inr (Sum.inl g)) => a_run P n M g.1 g.2.1 g.2.2.1 g.2.2.2
      | some (Sum.inr (Sum.inr k)) => if (a_sl k.2.1).length ≤ P.2.2 k.1 then (match a_run P n k.1 0 (a_ent (P.2.2 k.1) k.2.1) [] k.2.2.2.2.2.2 with
        | none => none
        | some q => a_run P n M k.2.2.2.1 k.2.2.2.2.1 (if k.2.2.1 then k.2.2.2.2.2.1 else q.1 :: k.2.2.2.2.2.1) q.2) else none
theorem a_run_mono (P : Prg) : ∀ (n M pc : Nat) (l : LO) (st : List AV) (h : Hp) (r : AV × Hp), a_run P n M pc l st h = some r → a_run P (n + 1) M pc l st h = some r := by
  intro n
  induction n with
  | zero => intro M pc l st h r hr; simp [a_run] at hr
  | succ n ih =>
    intro M pc l st h r hr
    rw [a_run] at hr ⊢
    cases hE : P.1 M pc with
    | none => rw [hE] at hr; simp at hr
    | some E =>
      rw [hE] at hr
      dsimp only at hr ⊢
      cases hs : a_step P.2.1 E pc (a_kill E.2.2.1 l) st h with
      | none => rw [hs] at hr; simp at hr
      | some x =>
        rw [hs] at hr
        rcases x with r' | g | k
        · exact hr
        · exact ih _ _ _ _ _ _ hr
        · dsimp only at hr ⊢
          by_cases hf : (a_sl k.2.1).length ≤ P.2.2 k.1
          case neg => rw [if_neg hf] at hr; cases hr
          rw [if_pos hf] at hr ⊢
          cases hc : a_run P n k.1 0 (a_ent (P.2.2 k.1) k.2.1) [] k.2.2.2.2.2.2 with
          | none => rw [hc] at hr; simp at hr
          | some q =>
            rw [hc] at hr
            rw [ih _ _ _ _ _ _ hc]
            exact ih _ _ _ _ _ _ hr
theorem a_run_le (P : Prg) {n k : Nat} (hk : n ≤ k) {M pc : Nat} {l : LO} {st : List AV} {h : Hp} {r : AV × Hp} (hr : a_run P n M pc l st h = some r) : a_run P k M pc l st h = some r := by
  obtain ⟨d, rfl⟩ := Nat.exists_eq_add_of_le hk
  clear hk
  induction d with
  | zero => exact hr
  | succ d ih => exact a_run_mono P _ _ _ _ _ _ _ ih
/-- what the machine comes to, without a count of steps -/
noncomputable def a_ev (P : Prg) (M pc : Nat) (l : LO) (st : List AV) (h : Hp) : Option (AV × Hp) := by
  classical exact if q : ∃ (n : Nat) (r : AV × Hp), a_run P n M pc l st h = some r then some q.choose_spec.choose else none
theorem a_ev_some (P : Prg) {M pc : Nat} {l : LO} {st : List AV} {h : Hp} {r : AV × Hp} : a_ev P M pc l st h = some r ↔ ∃ n, a_run P n M pc l st h = some r := by
  unfold a_ev
  constructor
  · intro e
    split at e
    · rename_i q
      have h1 := q.choose_spec.choose_spec
      cases e
      exact ⟨_, h1⟩
    · cases e
  · intro ⟨n, hn⟩
    have q : ∃ (n : Nat) (r : AV × Hp), a_run P n M pc l st h = some r := ⟨n, r, hn⟩
    rw [dif_pos q]
    have h1 := q.choose_spec.choose_spec
    have h2 := a_run_le P (Nat.le_max_left q.choose n) h1
    have h3 := a_run_le P (Nat.le_max_right q.choose n) hn
    rw [h2] at h3
    exact h3
noncomputable def a_evc (P : Prg) (M : Nat) (as : List AV) (h : Hp) : Option (AV × Hp) := if (a_sl as).length ≤ P.2.2 M then a_ev P M 0 (a_ent (P.2.2 M) as) [] h else none
theorem a_ev_eq (P : Prg) (M pc : Nat) (l : LO) (st : List AV) (h : Hp) : a_ev P M pc l st h = (match P.1 M pc with
    | none => none
    | some E => match a_step P.2.1 E pc (a_kill E.2.2.1 l) st h with
      | none => none
      | some (Sum.inl r) => some r
      | some (Sum.inr (Sum.inl g)) => a_ev P M g.1 g.2.1 g.2.2.1 g.2.2.2
      | some (Sum.inr (Sum.inr k)) => match a_evc P k.1 k.2.1 k.2.2.2.2.2.2 with
        | none => none
        | some q => a_ev P M k.2.2.2.1 k.2.2.2.2.1 (if k.2.2.1 then k.2.2.2.2.2.1 else q.1 :: k.2.2.2.2.2.1) q.2) := by
  apply Option.ext
  intro r
  rw [a_ev_some]
  constructor
  · intro ⟨n, hn⟩
    cases n with
    | zero => simp [a_run] at hn
    | succ n =>
      rw [a_run] at hn
      cases hE : P.1 M pc with
      | none => rw [hE] at hn; simp at hn
      | some E =>
        rw [hE] at hn
        dsimp only at hn ⊢
        cases hs : a_step P.2.1 E pc (a_kill E.2.2.1 l) st h with
        | none => rw [hs] at hn; simp at hn
        | some x =>
          rw [hs] at hn
          rcases x with r' | g | k
          · exact hn
          · exact (a_ev_some P).mpr ⟨n, hn⟩
          · dsimp only at hn ⊢
            by_cases hf : (a_sl k.2.1).length ≤ P.2.2 k.1
            case neg => rw [if_neg hf] at hn; cases hn
            rw [if_pos hf] at hn
            cases hc : a_run P n k.1 0 (a_ent (P.2.2 k.1) k.2.1) [] k.2.2.2.2.2.2 with
            | none => rw [hc] at hn; simp at hn
            | some q =>
              rw [hc] at hn
              rw [show a_evc P k.1 k.2.1 k.2.2.2.2.2.2 = some q by unfold a_evc; rw [if_pos hf]; exact (a_ev_some P).mpr ⟨n, hc⟩]
              exact (a_ev_some P).mpr ⟨n, hn⟩
  · intro hr
    cases hE : P.1 M pc with
    | none => rw [hE] at hr; simp at hr
    | some E =>
      rw [hE] at hr
      dsimp only at hr
      cases hs : a_step P.2.1 E pc (a_kill E.2.2.1 l) st h with
      | none => rw [hs] at hr; simp at hr
      | some x =>
        rw [hs] at hr
        rcases x with r' | g | k
        · exact ⟨1, by rw [a_run, hE]; dsimp only; rw [hs]; exact hr⟩
        · obtain ⟨n, hn⟩ := (a_ev_some P).mp hr
          exact ⟨n + 1, by rw [a_run, hE]; dsimp only; rw [hs]; exact hn⟩
        · dsimp only at hr
          cases hc : a_evc P k.1 k.2.1 k.2.2.2.2.2.2 with
          | none => rw [hc] at hr; simp at hr
          | some q =>
            rw [hc] at hr
            unfold a_evc at hc
            by_cases hf : (a_sl k.2.1).length ≤ P.2.2 k.1
            case neg => rw [if_neg hf] at hc; cases hc
            rw [if_pos hf] at hc
            obtain ⟨n1, h1⟩ := (a_ev_some P).mp hc
            obtain ⟨n2, h2⟩ := (a_ev_some P).mp hr
            refine ⟨max n1 n2 + 1, ?_⟩
            rw [a_run, hE]; dsimp only; rw [hs]; dsimp only; rw [if_pos hf]
            rw [a_run_le P (Nat.le_max_left n1 n2) h1]
            exact a_run_le P (Nat.le_max_right n1 n2) h2
