def fk : Nat → List Nat := fun c => match c with
  | 0 => [2, 2, 2, 0, 0, 0, 2]
  | 1 => [1, 1, 3]
  | 2 => [2, 2, 0]
  | 3 => [0, 2, 2, 2, 0, 2]
  | 4 => [2, 2, 2, 2]
  | 5 => [2, 2, 2, 2, 2, 2, 2, 2, 2, 2, 2, 2]
  | 6 => [0, 0, 2]
  | 7 => [2, 0, 2, 2, 2, 2, 0, 0, 0]
  | 8 => [2, 2, 3, 2, 2, 2, 2, 2, 2, 2]
  | 9 => [0, 0, 0, 0, 2, 2, 2, 2, 2, 0, 0, 0, 2, 2, 2, 2, 2, 2, 1, 1, 3, 2, 2, 2, 2, 2, 2, 2, 1, 1, 0, 0, 0, 0, 1, 1, 1, 1, 1, 1, 1, 1, 0, 0, 2, 2, 2, 2, 2, 2, 0, 0, 2, 2, 2, 2, 2, 2, 2, 2, 2, 3]
  | _ => []
def ff : Nat → List Bool := fun c => match c with
  | 0 => [true, true, true, false, false, false, true]
  | 1 => [false, false, false]
  | 2 => [true, true, false]
  | 3 => [false, true, true, true, false, true]
  | 4 => [true, true, true, true]
  | 5 => [true, true, true, true, true, true, true, true, true, true, true, true]
  | 6 => [false, false, true]
  | 7 => [true, false, true, true, true, true, false, false, false]
  | 8 => [true, true, false, true, true, true, true, true, true, true]
  | 9 => [false, false, false, false, true, true, true, true, true, false, false, false, true, true, true, true, true, true, false, false, false, true, true, true, true, true, true, true, false, false, false, false, false, false, false, false, false, false, false, false, false, false, false, false, true, true, true, true, true, true, false, false, true, true, true, true, true, true, true, true, true, false]
  | _ => []
/-! THE ENGINE: an abstract walk of a method's body, over cells laid out as LAY says, with numbers from 0 for addresses -/
abbrev LGt : Type := Nat → Nat → Int64
abbrev ITt : Type := Nat → Nat → Int32
abbrev RFt : Type := Nat → Nat → Option Nat
abbrev Post : Type := Option Value → LGt → ITt → RFt → Prop
abbrev Spc : Type := List Value → Nat → LGt → ITt → RFt → Post → Prop
abbrev PT : Type := Nat → List Value → List Value → Nat → LGt → ITt → RFt → Prop
/-- fields, classes, long constants by their pool numbers; methods: pool number, kind (0 virtual, 1 static, 2 special), how many values, the receiver's class, how many cells it makes, what it does; the constructor's class; the answer's type -/
abbrev Ent : Type := Nat × Nat × Nat × Nat × Spc
abbrev Tab : Type := List (Nat × Nat × Nat) × List (Nat × Nat) × List (Nat × Int64) × List (Nat × Ent) × Nat × Option FieldType
def xlk {α : Type} (i : Nat) : List (Nat × α) → Option α
  | [] => none
  | q :: t => bif Nat.beq i q.1 then some q.2 else xlk i t
theorem xlk_mem {α : Type} {i : Nat} {v : α} : ∀ {L : List (Nat × α)}, xlk i L = some v → (i, v) ∈ L
  | [], h => by cases h
  | q :: t, h => by
    unfold xlk at h
    cases hb : Nat.beq i q.1 with
    | true =>
      rw [hb] at h
      have e := Nat.eq_of_beq_eq_true hb
      have h2 : q.2 = v := Option.some.inj h
      subst h2; subst e
      exact List.mem_cons_self
    | false =>
      rw [hb] at h
      exact List.mem_cons_of_mem _ (xlk_mem h)
def uu : Value := .retAddr 0
def isU : Value → Bool := fun v => match v with | .retAddr n => Nat.beq n 0 | _ => false
def u2 {α : Type} (f : Nat → Nat → α) (j k : Nat) (v : α) : Nat → Nat → α := fun a b => if a = j ∧ b = k then v else f a b
def zr {α : Type} (z : α) (f : Nat → Nat → α) (j : Nat) : Nat → Nat → α := fun a b => if a = j then z else f a b
def rfv (o : Option Nat) : Value := match o with | some j => .ref j | none => .null
def fva (lg : LGt) (it : ITt) (rf : RFt) (j k t : Nat) : Value := match t with | 1 => .long (lg j k) | 2 => rfv (rf j k) | _ => .int (it j k)
def Ob (N j c : Nat) : Prop := j < N ∧ (LAY j).1 = c
def p_i (st : List Value) (K : Int32 → List Value → Prop) : Prop := match st with | .int x :: r => K x r | _ => False
def p_l (st : List Value) (K : Int64 → List Value → Prop) : Prop := match st with | .long x :: r => K x r | _ => False
def p_r (st : List Value) (K : Nat → List Value → Prop) : Prop := match st with | .ref x :: r => K x r | _ => False
def p_d (st : List Value) (K : Value → List Value → Prop) : Prop := match st with | .ref x :: r => K (.ref x) r | .int x :: r => K (.int x) r | _ => False
def ret_i (o : Option FieldType) (x : Int32) (A : Prop) : Prop := match o with | some .int => A | some .boolean => x &&& 1 = x ∧ A | _ => False
def ret_l (o : Option FieldType) (A : Prop) : Prop := match o with | some .long => A | _ => False
def ret_a (o : Option FieldType) (A : Prop) : Prop := match o with | some (.object _) => A | _ => False
def ret_v (o : Option FieldType) (A : Prop) : Prop := match o with | none => A | _ => False
def g_i (ls : List Value) (k : Nat) (K : Int32 → Prop) : Prop := match ls[k]? with | some (.int x) => K x | _ => False
def g_l (ls : List Value) (k : Nat) (K : Int64 → Prop) : Prop := match ls[k]? with | some (.long x) => K x | _ => False
def g_r (ls : List Value) (k : Nat) (K : Value → Prop) : Prop := match ls[k]? with | some (.ref x) => K (.ref x) | some (.retAddr 1) => K (.retAddr 1) | _ => False
def stc (ls : List Value) (i : Nat) : List Value := match i with
  | 0 => ls
  | k + 1 => match ls[k]? with
    | some w => bif Nat.beq w.category 2 then ls.set k uu else ls
    | none => ls
def st1 (ls : List Value) (i : Nat) (v : Value) : List Value := (stc ls i).set i v
def st2 (ls : List Value) (i : Nat) (v : Value) : List Value := ((stc ls i).set i v).set (i + 1) uu
def p_s1 (ls : List Value) (k : Nat) (v : Value) (K : List Value → Prop) : Prop := match ls[k]? with | some _ => K (st1 ls k v) | none => False
def p_s2 (ls : List Value) (k : Nat) (v : Value) (K : List Value → Prop) : Prop := match ls[k + 1]? with | some _ => K (st2 ls k v) | none => False
def pa : Nat → List Value → List Value → (List Value → List Value → Prop) → Prop
  | 0, st, acc, K => K acc st
  | _ + 1, [], _, _ => False
  | n + 1, v :: st, acc, K => pa n st (v :: acc) K
def tg (pc : Nat) (off : Int) (K : Nat → Prop) : Prop := match (pc : Int) + off with | .ofNat t => K t | .negSucc _ => False
def br (c : Jvm.ClassFile.Cond) (x y : Int32) (A B : Prop) : Prop := match c with
  | .eq => (x = y → A) ∧ (¬ x = y → B)
  | .ne => (¬ x = y → A) ∧ (x = y → B)
  | .lt => (x < y → A) ∧ (¬ x < y → B)
  | .ge => (y ≤ x → A) ∧ (¬ y ≤ x → B)
  | .gt => (y < x → A) ∧ (¬ y < x → B)
  | .le => (x ≤ y → A) ∧ (¬ x ≤ y → B)
def swt (pc : Nat) (x : Int32) (K : Nat → Prop) : Int → List Int → Prop
  | _, [] => True
  | lo, o :: t => (x.toInt = lo → tg pc o K) ∧ swt pc x K (lo + 1) t
def swl (pc : Nat) (x : Int32) (K : Nat → Prop) : List (Int × Int) → Prop
  | [] => True
  | q :: t => (x.toInt = q.1 → tg pc q.2 K) ∧ (¬ x.toInt = q.1 → swl pc x K t)
def wr (t : Nat) (v : Value) (j k : Nat) (lg : LGt) (it : ITt) (rf : RFt) (K : LGt → ITt → RFt → Prop) : Prop := match t with
  | 0 => match v with | .int x => K lg (u2 it j k x) rf | _ => False
  | 1 => match v with | .long x => K (u2 lg j k x) it rf | _ => False
  | 2 => match v with | .ref q => K lg it (u2 rf j k (some q)) | _ => False
  | 3 => match v with | .int x => x &&& 1 = x ∧ K lg (u2 it j k x) rf | _ => False
  | _ => False
def akd (t : ArrayType) : Nat := match t with | .byte => 10 | .int => 11 | .long => 12 | _ => 99
def aty (t : ArrayType) : FieldType := match t with | .byte => .byte | .int => .int | _ => .long
def ako (c : Nat) : Nat := match c with | 1 => 13 | 3 => 14 | 6 => 15 | _ => 97
def isB (v : Bool) (A : Prop) : Prop := match v with | true => A | false => False
def ctgs (l : List Value) : Nat := (l.map fun v => v.category).sum
def o_o {α : Type} (o : Option α) (K : α → Prop) : Prop := match o with | some a => K a | none => False
def lec (mc : Nat) (A B : Prop) : Prop := match mc with | 0 => B | _ => A ∧ B
def inv (T : Tab) (Ne : Nat) (P : PT) (kd idx pc : Nat) (ls st : List Value) (N : Nat) (lg : LGt) (it : ITt) (rf : RFt) : Prop :=
  o_o (xlk idx T.2.2.2.1) fun q => isB (Nat.beq q.1 kd) (pa q.2.1 st [] fun as rest => isB (Nat.ble (ctgs rest) 8)
    ((match kd with | 0 => o_o as.head? (fun v => match v with | .ref j => Ob N j q.2.2.1 | _ => False) | _ => True) ∧
    lec q.2.2.2.1 (N + q.2.2.2.1 ≤ Ne) (q.2.2.2.2 as N lg it rf fun r lg' it' rf' => P (pc + 3) ls (r.toList ++ rest) (N + q.2.2.2.1) lg' it' rf')))
/-- one instruction: what must hold ahead of it for P to hold behind it -/
def stp (T : Tab) (Ne : Nat) (Q : Post) (P : PT) (i : Instr) (pc : Nat) (ls st : List Value) (N : Nat) (lg : LGt) (it : ITt) (rf : RFt) : Prop :=
  match i with
  | .iconst c => P (pc + 1) ls (.int (Int32.ofInt c) :: st) N lg it rf
  | .bipush c => P (pc + 2) ls (.int (Int8.ofInt c).toInt32 :: st) N lg it rf
  | .sipush c => P (pc + 3) ls (.int (Int16.ofInt c).toInt32 :: st) N lg it rf
  | .lconst c => P (pc + 1) ls (.long (Int64.ofNat c) :: st) N lg it rf
  | .ldc2_w idx => o_o (xlk idx T.2.2.1) fun v => P (pc + 3) ls (.long v :: st) N lg it rf
  | .iload_n k => g_i ls k fun x => P (pc + 1) ls (.int x :: st) N lg it rf
  | .iload k => g_i ls k fun x => P (pc + 2) ls (.int x :: st) N lg it rf
  | .lload_n k => g_l ls k fun x => P (pc + 1) ls (.long x :: st) N lg it rf
  | .lload k => g_l ls k fun x => P (pc + 2) ls (.long x :: st) N lg it rf
  | .aload_n k => g_r ls k fun x => P (pc + 1) ls (x :: st) N lg it rf
  | .aload k => g_r ls k fun x => P (pc + 2) ls (x :: st) N lg it rf
  | .istore_n k => p_i st fun x r => p_s1 ls k (.int x) fun ls' => P (pc + 1) ls' r N lg it rf
  | .istore k => p_i st fun x r => p_s1 ls k (.int x) fun ls' => P (pc + 2) ls' r N lg it rf
  | .lstore_n k => p_l st fun x r => p_s2 ls k (.long x) fun ls' => P (pc + 1) ls' r N lg it rf
  | .lstore k => p_l st fun x r => p_s2 ls k (.long x) fun ls' => P (pc + 2) ls' r N lg it rf
  | .astore_n k => p_r st fun x r => p_s1 ls k (.ref x) fun ls' => P (pc + 1) ls' r N lg it rf
  | .astore k => p_r st fun x r => p_s1 ls k (.ref x) fun ls' => P (pc + 2) ls' r N lg it rf
  | .iinc k c => g_i ls k fun x => p_s1 ls k (.int (x + Int32.ofInt c)) fun ls' => P (pc + 3) ls' st N lg it rf
  | .iadd => p_i st fun y r => p_i r fun x r => P (pc + 1) ls (.int (x + y) :: r) N lg it rf
  | .isub => p_i st fun y r => p_i r fun x r => P (pc + 1) ls (.int (x - y) :: r) N lg it rf
  | .imul => p_i st fun y r => p_i r fun x r => P (pc + 1) ls (.int (x * y) :: r) N lg it rf
  | .iand => p_i st fun y r => p_i r fun x r => P (pc + 1) ls (.int (x &&& y) :: r) N lg it rf
  | .ior => p_i st fun y r => p_i r fun x r => P (pc + 1) ls (.int (x ||| y) :: r) N lg it rf
  | .ineg => p_i st fun x r => P (pc + 1) ls (.int (-x) :: r) N lg it rf
  | .ladd => p_l st fun y r => p_l r fun x r => P (pc + 1) ls (.long (x + y) :: r) N lg it rf
  | .lsub => p_l st fun y r => p_l r fun x r => P (pc + 1) ls (.long (x - y) :: r) N lg it rf
  | .lmul => p_l st fun y r => p_l r fun x r => P (pc + 1) ls (.long (x * y) :: r) N lg it rf
  | .land => p_l st fun y r => p_l r fun x r => P (pc + 1) ls (.long (x &&& y) :: r) N lg it rf
  | .lor => p_l st fun y r => p_l r fun x r => P (pc + 1) ls (.long (x ||| y) :: r) N lg it rf
  | .lxor => p_l st fun y r => p_l r fun x r => P (pc + 1) ls (.long (x ^^^ y) :: r) N lg it rf
  | .ldiv => p_l st fun y r => p_l r fun x r => ¬ y = 0 ∧ P (pc + 1) ls (.long (x / y) :: r) N lg it rf
  | .lrem => p_l st fun y r => p_l r fun x r => ¬ y = 0 ∧ P (pc + 1) ls (.long (x - x / y * y) :: r) N lg it rf
  | .lneg => p_l st fun x r => P (pc + 1) ls (.long (-x) :: r) N lg it rf
  | .lshl => p_i st fun y r => p_l r fun x r => P (pc + 1) ls (.long (x <<< (y.toInt64 &&& 63)) :: r) N lg it rf
  | .i2l => p_i st fun x r => P (pc + 1) ls (.long x.toInt64 :: r) N lg it rf
  | .l2i => p_l st fun x r => P (pc + 1) ls (.int x.toInt32 :: r) N lg it rf
  | .i2b => p_i st fun x r => P (pc + 1) ls (.int x.toInt8.toInt32 :: r) N lg it rf
  | .i2s => p_i st fun x r => P (pc + 1) ls (.int x.toInt16.toInt32 :: r) N lg it rf
  | .lcmp => p_l st fun y r => p_l r fun x r => P (pc + 1) ls (.int (lg_cmp x y) :: r) N lg it rf
  | .dup => p_d st fun v r => P (pc + 1) ls (v :: v :: r) N lg it rf
  | .ifCond c off => p_i st fun x r => tg pc off fun t => br c x 0 (P t ls r N lg it rf) (P (pc + 3) ls r N lg it rf)
  | .if_icmp c off => p_i st fun y r => p_i r fun x r => tg pc off fun t => br c x y (P t ls r N lg it rf) (P (pc + 3) ls r N lg it rf)
  | .goto off => tg pc off fun t => P t ls st N lg it rf
  | .tableswitch d lo hi offs => p_i st fun x r => ((x.toInt < lo ∨ hi < x.toInt) → tg pc d fun t => P t ls r N lg it rf) ∧ isB (decide ((offs.size : Int) = hi - lo + 1)) (swt pc x (fun t => P t ls r N lg it rf) lo offs.toList)
  | .lookupswitch d ps => p_i st fun x r => isB ((ps.toList.zip (ps.toList.drop 1)).all (fun (a, next) => a.1 < next.1)) (swl pc x (fun t => P t ls r N lg it rf) (ps.toList ++ [(x.toInt, d)]))
  | .getfield idx => o_o (xlk idx T.1) fun q => p_r st fun j r => Ob N j q.1 ∧ o_o (fk q.1)[q.2]? fun t => P (pc + 3) ls (fva lg it rf j q.2 t :: r) N lg it rf
  | .putfield idx => o_o (xlk idx T.1) fun q => match st with
    | v :: r => p_r r fun j r => Ob N j q.1 ∧ o_o (ff q.1)[q.2]? fun fin => isB (bif fin then Nat.beq T.2.2.2.2.1 q.1 else true) (o_o (fk q.1)[q.2]? fun t => wr t v j q.2 lg it rf fun lg' it' rf' => P (pc + 3) ls r N lg' it' rf')
    | _ => False
  | .iaload => p_i st fun i r => p_r r fun j r => Ob N j 11 ∧ vp_in i (LAY j).2 ∧ P (pc + 1) ls (.int (it j i.toNatClampNeg) :: r) N lg it rf
  | .baload => p_i st fun i r => p_r r fun j r => Ob N j 10 ∧ vp_in i (LAY j).2 ∧ P (pc + 1) ls (.int (it j i.toNatClampNeg) :: r) N lg it rf
  | .laload => p_i st fun i r => p_r r fun j r => Ob N j 12 ∧ vp_in i (LAY j).2 ∧ P (pc + 1) ls (.long (lg j i.toNatClampNeg) :: r) N lg it rf
  | .aaload => p_i st fun i r => p_r r fun j r => (j < N ∧ 13 ≤ (LAY j).1 ∧ (LAY j).1 ≤ 15) ∧ vp_in i (LAY j).2 ∧ P (pc + 1) ls (rfv (rf j i.toNatClampNeg) :: r) N lg it rf
  | .iastore => p_i st fun x r => p_i r fun i r => p_r r fun j r => Ob N j 11 ∧ vp_in i (LAY j).2 ∧ P (pc + 1) ls r N lg (u2 it j i.toNatClampNeg x) rf
  | .bastore => p_i st fun x r => p_i r fun i r => p_r r fun j r => Ob N j 10 ∧ vp_in i (LAY j).2 ∧ P (pc + 1) ls r N lg (u2 it j i.toNatClampNeg x.toInt8.toInt32) rf
  | .lastore => p_l st fun x r => p_i r fun i r => p_r r fun j r => Ob N j 12 ∧ vp_in i (LAY j).2 ∧ P (pc + 1) ls r N (u2 lg j i.toNatClampNeg x) it rf
  | .aastore => p_r st fun x r => p_i r fun i r => p_r r fun j r => (j < N ∧ x < N ∧ ako (LAY x).1 = (LAY j).1 ∧ 13 ≤ (LAY j).1 ∧ (LAY j).1 ≤ 15) ∧ vp_in i (LAY j).2 ∧ P (pc + 1) ls r N lg it (u2 rf j i.toNatClampNeg (some x))
  | .arraylength => p_r st fun j r => (j < N ∧ 10 ≤ (LAY j).1 ∧ (LAY j).1 ≤ 15) ∧ P (pc + 1) ls (.int (Int32.ofNat (LAY j).2) :: r) N lg it rf
  | .new idx => o_o (xlk idx T.2.1) fun ci => (N < Ne ∧ LAY N = (ci, (fk ci).length)) ∧ P (pc + 3) ls (.ref N :: st) (N + 1) (zr 0 lg N) (zr 0 it N) (zr none rf N)
  | .newarray t => p_i st fun x r => (N < Ne ∧ ¬ x < 0 ∧ LAY N = (akd t, x.toNatClampNeg)) ∧ P (pc + 2) ls (.ref N :: r) (N + 1) (zr 0 lg N) (zr 0 it N) (zr none rf N)
  | .anewarray idx => o_o (xlk idx T.2.1) fun ci => p_i st fun x r => (N < Ne ∧ ¬ x < 0 ∧ LAY N = (ako ci, x.toNatClampNeg)) ∧ P (pc + 3) ls (.ref N :: r) (N + 1) (zr 0 lg N) (zr 0 it N) (zr none rf N)
  | .invokevirtual idx => inv T Ne P 0 idx pc ls st N lg it rf
  | .invokestatic idx => inv T Ne P 1 idx pc ls st N lg it rf
  | .invokespecial idx => inv T Ne P 2 idx pc ls st N lg it rf
  | .ireturn => p_i st fun x r => r = [] ∧ N = Ne ∧ ret_i T.2.2.2.2.2 x (Q (some (.int x)) lg it rf)
  | .lreturn => p_l st fun x r => r = [] ∧ N = Ne ∧ ret_l T.2.2.2.2.2 (Q (some (.long x)) lg it rf)
  | .areturn => p_r st fun x r => r = [] ∧ N = Ne ∧ ret_a T.2.2.2.2.2 (Q (some (.ref x)) lg it rf)
  | .return_ => st = [] ∧ N = Ne ∧ ret_v T.2.2.2.2.2 (Q none lg it rf)
  | _ => False
def iln (i : Instr) : Nat := match i with
  | .bipush _ | .iload _ | .lload _ | .aload _ | .istore _ | .lstore _ | .astore _ | .newarray _ => 2
  | .sipush _ | .ldc2_w _ | .iinc _ _ | .ifCond _ _ | .if_icmp _ _ | .goto _ | .getfield _ | .putfield _ | .new _ | .anewarray _ | .invokevirtual _ | .invokestatic _ | .invokespecial _ => 3
  | _ => 1
abbrev Rl (T : Tab) (cc : ByteArray) (Ne : Nat) (Q : Post) (P : PT) : Prop :=
  ∀ {pc : Nat} {i : Instr} {ls st : List Value} {N : Nat} {lg : LGt} {it : ITt} {rf : RFt}, decode cc pc = .ok (i, iln i) → stp T Ne Q P i pc ls st N lg it rf → P pc ls st N lg it rf
abbrev RlS (T : Tab) (cc : ByteArray) (Ne : Nat) (Q : Post) (P : PT) : Prop :=
  ∀ {pc n : Nat} {i : Instr} {ls st : List Value} {N : Nat} {lg : LGt} {it : ITt} {rf : RFt}, decode cc pc = .ok (i, n) → isB (match i with | .tableswitch .. => true | .lookupswitch .. => true | _ => false) (stp T Ne Q P i pc ls st N lg it rf) → P pc ls st N lg it rf
/-- some locals are forgotten -/
def fls : List Value → List Value → Prop
  | [], [] => True
  | a :: t, b :: u => (b = uu ∨ b = a) ∧ fls t u
  | _, _ => False
abbrev Fg (P : PT) : Prop := ∀ {pc : Nat} {ls st : List Value} {N : Nat} {lg : LGt} {it : ITt} {rf : RFt} (ls' : List Value), fls ls ls' → P pc ls' st N lg it rf → P pc ls st N lg it rf
def lflat : List Value → List Value
  | [] => []
  | v :: t => bif Nat.beq v.category 2 then v :: uu :: lflat t else v :: lflat t
def lini (as : List Value) (nL : Nat) : List Value := lflat as ++ List.replicate (nL - (lflat as).length) uu
/-- what a method's body is shown to do -/
def Bd (T : Tab) (cc : ByteArray) (nL mc : Nat) (as : List Value) (N : Nat) (lg : LGt) (it : ITt) (rf : RFt) (Q : Post) : Prop :=
  (lflat as).length ≤ nL ∧ ∀ P : PT, Rl T cc (N + mc) Q P → RlS T cc (N + mc) Q P → Fg P → P 0 (lini as nL) [] N lg it rf
