/-! THE ENGINE: an abstract machine over places, its meaning as a least predicate. -/
/-- an entry of the shape: its kind (0 an object, 1 ints, 2 longs, 3 booleans, 4 a row of objects, 5 a row of texts, 6 and 7 a row of rows that lie behind it), its class number or its length, the references that never change -/
abbrev eg_E : Type := Nat × Nat × List (Option Nat)
/-- the memory: what was made beyond the base; ints, longs and references by place and index -/
abbrev eg_M : Type := List eg_E × (Nat → Nat → Int32) × (Nat → Nat → Int64) × (Nat → Nat → Option Nat)
/-- the world: the base's entries, how many, the kinds of a class's fields (0 int, 1 long, 2 a reference, 3 boolean), how many fields -/
abbrev eg_W : Type := (Nat → eg_E) × Nat × (Nat → Nat → Nat) × (Nat → Nat)
/-- what a callee means -/
abbrev eg_S : Type := List Value → eg_M → (Option Value ⊕ String → eg_M → Prop) → Prop
/-- a method: its code; fields (class, number, whether it may be written), constants, calls (arguments, cells, slots, meaning; the number of a static one + 100000, of a special one + 200000), what 'new' makes (an exception that is thrown, or a class); what it returns (0 nothing, 1 int, 2 boolean, 3 long, 4 a reference), its cells, its slots -/
abbrev eg_C : Type := List (Nat × Instr × Nat) × List (Nat × Nat × Nat × Bool) × List (Nat × Value) × List (Nat × Nat × Nat × Nat × eg_S) × List (Nat × (String ⊕ Nat)) × Nat × Nat × Nat
abbrev eg_X : Type := Nat → Nat → Nat → List (Option Value) → List Value → eg_M → Prop
abbrev eg_P : Type := Option Value ⊕ String → eg_M → Prop
/-- a table's row by its number -/
def eg_lq {α : Type} : List (Nat × α) → Nat → Option α
  | [], _ => none
  | q :: t, k => bif Nat.beq q.1 k then some q.2 else eg_lq t k
def eg_gi (M : eg_M) (p k : Nat) : Int32 := M.2.1 p k
def eg_gl (M : eg_M) (p k : Nat) : Int64 := M.2.2.1 p k
def eg_gr (M : eg_M) (p k : Nat) : Option Nat := M.2.2.2 p k
def eg_up {α : Type} (f : Nat → Nat → α) (p k : Nat) (v : α) : Nat → Nat → α := fun q => if q = p then (fun j => if j = k then v else f p j) else f q
def eg_si (M : eg_M) (p k : Nat) (v : Int32) : eg_M := (M.1, eg_up M.2.1 p k v, M.2.2)
def eg_sl (M : eg_M) (p k : Nat) (v : Int64) : eg_M := (M.1, M.2.1, eg_up M.2.2.1 p k v, M.2.2.2)
def eg_sr (M : eg_M) (p k : Nat) (v : Option Nat) : eg_M := (M.1, M.2.1, M.2.2.1, eg_up M.2.2.2 p k v)
def eg_sh (w : eg_W) (M : eg_M) (p : Nat) : eg_E := bif Nat.blt p w.2.1 then w.1 p else M.1.getD (p - w.2.1) (99, 0, [])
def eg_N (w : eg_W) (M : eg_M) : Nat := w.2.1 + M.1.length
/-- one thing more, all of it 0 or null -/
def eg_new (w : eg_W) (M : eg_M) (x : eg_E) : eg_M := (M.1 ++ [x], (fun q => if q = eg_N w M then (fun _ => 0) else M.2.1 q), (fun q => if q = eg_N w M then (fun _ => 0) else M.2.2.1 q), (fun q => if q = eg_N w M then (fun _ => none) else M.2.2.2 q))
def eg_need (b : Bool) (P : Prop) : Prop := match b with
  | true => P
  | false => False
def eg_is (w : eg_W) (M : eg_M) (p k : Nat) : Bool := Nat.beq (eg_sh w M p).1 k
def eg_isO (w : eg_W) (M : eg_M) (p ci : Nat) : Bool := Nat.beq (eg_sh w M p).1 0 && Nat.beq (eg_sh w M p).2.1 ci
def eg_len (w : eg_W) (M : eg_M) (p : Nat) : Nat := (eg_sh w M p).2.1
def eg_ref (x : eg_E) (M : eg_M) (p k : Nat) : Option Nat := match x.2.2.getD k none with
  | some q => some q
  | none => eg_gr M p k
def eg_rv (r : Option Nat) : Value := match r with
  | some q => .ref q
  | none => .null
def eg_tv (r : Option Nat) : Value := match r with
  | some q => .retAddr q
  | none => .null
def eg_fld (w : eg_W) (M : eg_M) (p ci k : Nat) : Value := match w.2.2.1 ci k with
  | 0 => .int (eg_gi M p k)
  | 1 => .long (eg_gl M p k)
  | 2 => eg_rv (eg_ref (eg_sh w M p) M p k)
  | _ => .int (eg_gi M p k)
def eg_el (w : eg_W) (M : eg_M) (p i : Nat) : Value := match (eg_sh w M p).1 with
  | 4 => eg_rv (eg_gr M p i)
  | 5 => eg_tv (eg_ref (eg_sh w M p) M p i)
  | _ => .ref (p + 1 + i)
def eg_ci (n : Int) : Int32 := match n with
  | .ofNat k => nI k
  | .negSucc k => - nI (k + 1)
def eg_cat2 (v : Option Value) : Bool := match v with
  | some (.long _) => true
  | some (.double _) => true
  | _ => false
def eg_st1 (ls : List (Option Value)) (i : Nat) (v : Value) : List (Option Value) := match i with
  | 0 => ls.set 0 (some v)
  | j + 1 => (bif eg_cat2 (ls.getD j none) then ls.set j none else ls).set (j + 1) (some v)
def eg_st2 (ls : List (Option Value)) (i : Nat) (v : Value) : List (Option Value) := (eg_st1 ls i v).set (i + 1) none
/-- a branch: A if the test holds, else B -/
def eg_jc (op : Jvm.ClassFile.Cond) (x y : Int32) (A B : Prop) : Prop := match op with
  | .eq => (x = y → A) ∧ (¬ x = y → B)
  | .ne => (x = y → B) ∧ (¬ x = y → A)
  | .lt => (x < y → A) ∧ (¬ x < y → B)
  | .ge => (y ≤ x → A) ∧ (¬ y ≤ x → B)
  | .gt => (y < x → A) ∧ (¬ y < x → B)
  | .le => (x ≤ y → A) ∧ (¬ x ≤ y → B)
def eg_to (X : eg_X) (pc : Nat) (off : Int) (cu su : Nat) (ls : List (Option Value)) (st : List Value) (M : eg_M) : Prop := eg_need (decide (0 ≤ (pc : Int) + off)) (X ((pc : Int) + off).toNat cu su ls st M)
def eg_br (X : eg_X) (op : Jvm.ClassFile.Cond) (x y : Int32) (pc : Nat) (off : Int) (cu su : Nat) (ls : List (Option Value)) (st : List Value) (M : eg_M) : Prop := eg_need (decide (0 ≤ (pc : Int) + off)) (eg_jc op x y (X ((pc : Int) + off).toNat cu su ls st M) (X (pc + 3) cu su ls st M))
def eg_sw (X : eg_X) (pc cu su : Nat) (ls : List (Option Value)) (st : List Value) (M : eg_M) (x : Int32) : Int → List Int → Prop
  | _, [] => True
  | lo, o :: t => (x.toInt = lo → eg_to X pc o cu su ls st M) ∧ eg_sw X pc cu su ls st M x (lo + 1) t
def eg_wc1 : List Value → Nat
  | [] => 0
  | v :: t => (match v with
    | .long _ => 2
    | .double _ => 2
    | _ => 1) + eg_wc1 t
/-- no less than the words on a stack -/
def eg_wt (st : List Value) : Nat := bif Nat.ble st.length 4 then 2 * st.length else eg_wc1 st
def eg_call (c : eg_C) (P : eg_P) (X : eg_X) (idx pc cu su : Nat) (ls : List (Option Value)) (st : List Value) (M : eg_M) : Prop := match eg_lq c.2.2.2.1 idx with
  | some (n, kc, ks, S) => eg_need (Nat.ble n st.length && (Nat.ble (eg_wt (st.drop n)) 8 && (Nat.ble (cu + kc) c.2.2.2.2.2.2.1 && Nat.ble (su + ks) c.2.2.2.2.2.2.2))) (S (st.take n).reverse M (fun r N => match r with
    | .inl v => X (pc + 3) (cu + kc) (su + ks) ls (v.toList ++ st.drop n) N
    | .inr E => P (.inr E) N))
  | none => False
def eg_load (X : eg_X) (t : Nat) (i pc cu su : Nat) (ls : List (Option Value)) (st : List Value) (M : eg_M) : Prop := match ls.getD i none with
  | some v => eg_need (match v with
    | .int _ => Nat.beq t 0
    | .long _ => Nat.beq t 1
    | .ref _ => Nat.beq t 2
    | .retAddr _ => Nat.beq t 2
    | _ => false) (X pc cu su ls (v :: st) M)
  | none => False
def eg_ret (c : eg_C) (P : eg_P) (cu su : Nat) (v : Option Value) (M : eg_M) : Prop := eg_need (Nat.ble cu c.2.2.2.2.2.2.1 && Nat.ble su c.2.2.2.2.2.2.2) (P (.inl v) M)
/-- what makes a row, or fills one with references: a row of the calls by a number of its own -/
def eg_callE (c : eg_C) (X : eg_X) (idx pc n cu su : Nat) (ls : List (Option Value)) (st : List Value) (M : eg_M) : Prop := match eg_lq c.2.2.2.1 idx with
  | some (a, kc, ks, S) => eg_need (Nat.ble a st.length && (Nat.ble (cu + kc) c.2.2.2.2.2.2.1 && Nat.ble (su + ks) c.2.2.2.2.2.2.2)) (S (st.take a).reverse M (fun r N => match r with
    | .inl v => X (pc + n) (cu + kc) (su + ks) ls (v.toList ++ st.drop a) N
    | .inr _ => False))
  | none => False
def eg_nk (t : ArrayType) : Nat := match t with
  | .int => 300001
  | .long => 300002
  | .boolean => 300003
  | _ => 399999
/-- one instruction -/
def eg_step (w : eg_W) (c : eg_C) (P : eg_P) (X : eg_X) (pc cu su : Nat) (ls : List (Option Value)) (st : List Value) (M : eg_M) (i : Instr) (n : Nat) : Prop := match i with
  | .iconst k => X (pc + n) cu su ls (.int (eg_ci k) :: st) M
  | .bipush k => eg_need (decide (-128 ≤ k) && decide (k < 128)) (X (pc + n) cu su ls (.int (eg_ci k) :: st) M)
  | .sipush k => eg_need (decide (-32768 ≤ k) && decide (k < 32768)) (X (pc + n) cu su ls (.int (eg_ci k) :: st) M)
  | .lconst k => X (pc + n) cu su ls (.long (lN k.val) :: st) M
  | .iload_n k => eg_load X 0 k.val (pc + n) cu su ls st M
  | .iload k => eg_load X 0 k (pc + n) cu su ls st M
  | .lload_n k => eg_load X 1 k.val (pc + n) cu su ls st M
  | .lload k => eg_load X 1 k (pc + n) cu su ls st M
  | .aload_n k => eg_load X 2 k.val (pc + n) cu su ls st M
  | .aload k => eg_load X 2 k (pc + n) cu su ls st M
  | .istore_n k => match st with
    | .int x :: r => eg_need (Nat.blt k.val ls.length) (X (pc + n) cu su (eg_st1 ls k.val (.int x)) r M)
    | _ => False
  | .istore k => match st with
    | .int x :: r => eg_need (Nat.blt k ls.length) (X (pc + n) cu su (eg_st1 ls k (.int x)) r M)
    | _ => False
  | .lstore_n k => match st with
    | .long x :: r => eg_need (Nat.blt (k.val + 1) ls.length) (X (pc + n) cu su (eg_st2 ls k.val (.long x)) r M)
    | _ => False
  | .lstore k => match st with
    | .long x :: r => eg_need (Nat.blt (k + 1) ls.length) (X (pc + n) cu su (eg_st2 ls k (.long x)) r M)
    | _ => False
  | .astore_n k => match st with
    | .ref x :: r => eg_need (Nat.blt k.val ls.length) (X (pc + n) cu su (eg_st1 ls k.val (.ref x)) r M)
    | _ => False
  | .astore k => match st with
    | .ref x :: r => eg_need (Nat.blt k ls.length) (X (pc + n) cu su (eg_st1 ls k (.ref x)) r M)
    | _ => False
  | .iinc k d => match ls.getD k none with
    | some (.int x) => eg_need (Nat.blt k ls.length) (X (pc + n) cu su (eg_st1 ls k (.int (x + eg_ci d))) st M)
    | _ => False
  | .iadd => match st with
    | .int y :: .int x :: r => X (pc + n) cu su ls (.int (x + y) :: r) M
    | _ => False
  | .isub => match st with
    | .int y :: .int x :: r => X (pc + n) cu su ls (.int (x - y) :: r) M
    | _ => False
  | .imul => match st with
    | .int y :: .int x :: r => X (pc + n) cu su ls (.int (x * y) :: r) M
    | _ => False
  | .ineg => match st with
    | .int x :: r => X (pc + n) cu su ls (.int (-x) :: r) M
    | _ => False
  | .ifnull _ => match st with
    | .ref _ :: r => X (pc + n) cu su ls r M
    | _ => False
  | .idiv => match st with
    | .int y :: .int x :: r => ¬ y = 0 ∧ X (pc + n) cu su ls (.int (x / y) :: r) M
    | _ => False
  | .irem => match st with
    | .int y :: .int x :: r => ¬ y = 0 ∧ X (pc + n) cu su ls (.int (x - x / y * y) :: r) M
    | _ => False
  | .iand => match st with
    | .int y :: .int x :: r => X (pc + n) cu su ls (.int (x &&& y) :: r) M
    | _ => False
  | .ior => match st with
    | .int y :: .int x :: r => X (pc + n) cu su ls (.int (x ||| y) :: r) M
    | _ => False
  | .ixor => match st with
    | .int y :: .int x :: r => X (pc + n) cu su ls (.int (x ^^^ y) :: r) M
    | _ => False
  | .ishl => match st with
    | .int y :: .int x :: r => X (pc + n) cu su ls (.int (x <<< (y &&& 31)) :: r) M
    | _ => False
  | .ishr => match st with
    | .int y :: .int x :: r => X (pc + n) cu su ls (.int (x >>> (y &&& 31)) :: r) M
    | _ => False
  | .iushr => match st with
    | .int y :: .int x :: r => X (pc + n) cu su ls (.int (x.toUInt32 >>> (y.toUInt32 &&& Int32.toUInt32 31)).toInt32 :: r) M
    | _ => False
  | .ladd => match st with
    | .long y :: .long x :: r => X (pc + n) cu su ls (.long (x + y) :: r) M
    | _ => False
  | .lsub => match st with
    | .long y :: .long x :: r => X (pc + n) cu su ls (.long (x - y) :: r) M
    | _ => False
  | .lmul => match st with
    | .long y :: .long x :: r => X (pc + n) cu su ls (.long (x * y) :: r) M
    | _ => False
  | .ldiv => match st with
    | .long y :: .long x :: r => ¬ y = 0 ∧ X (pc + n) cu su ls (.long (x / y) :: r) M
    | _ => False
  | .lrem => match st with
    | .long y :: .long x :: r => ¬ y = 0 ∧ X (pc + n) cu su ls (.long (x - x / y * y) :: r) M
    | _ => False
  | .land => match st with
    | .long y :: .long x :: r => X (pc + n) cu su ls (.long (x &&& y) :: r) M
    | _ => False
  | .lor => match st with
    | .long y :: .long x :: r => X (pc + n) cu su ls (.long (x ||| y) :: r) M
    | _ => False
  | .lshl => match st with
    | .int y :: .long x :: r => X (pc + n) cu su ls (.long (x <<< (y.toInt64 &&& 63)) :: r) M
    | _ => False
  | .lshr => match st with
    | .int y :: .long x :: r => X (pc + n) cu su ls (.long (x >>> (y.toInt64 &&& 63)) :: r) M
    | _ => False
  | .lushr => match st with
    | .int y :: .long x :: r => X (pc + n) cu su ls (.long (x.toUInt64 >>> (y.toInt64.toUInt64 &&& Int64.toUInt64 63)).toInt64 :: r) M
    | _ => False
  | .i2l => match st with
    | .int x :: r => X (pc + n) cu su ls (.long x.toInt64 :: r) M
    | _ => False
  | .l2i => match st with
    | .long x :: r => X (pc + n) cu su ls (.int x.toInt32 :: r) M
    | _ => False
  | .lcmp => match st with
    | .long y :: .long x :: r => X (pc + n) cu su ls (.int (lg_cmp x y) :: r) M
    | _ => False
  | .dup => match st with
    | .int x :: r => X (pc + n) cu su ls (.int x :: .int x :: r) M
    | .ref x :: r => X (pc + n) cu su ls (.ref x :: .ref x :: r) M
    | _ => False
  | .dup_x1 => match st with
    | .int x :: .ref y :: r => X (pc + n) cu su ls (.int x :: .ref y :: .int x :: r) M
    | .int x :: .int y :: r => X (pc + n) cu su ls (.int x :: .int y :: .int x :: r) M
    | _ => False
  | .dup_x2 => match st with
    | .int x :: .int y :: .ref z :: r => X (pc + n) cu su ls (.int x :: .int y :: .ref z :: .int x :: r) M
    | _ => False
  | .dup2 => match st with
    | .int x :: .ref y :: r => X (pc + n) cu su ls (.int x :: .ref y :: .int x :: .ref y :: r) M
    | .long x :: r => X (pc + n) cu su ls (.long x :: .long x :: r) M
    | _ => False
  | .ifCond op off => match st with
    | .int x :: r => eg_br X op x 0 pc off cu su ls r M
    | _ => False
  | .if_icmp op off => match st with
    | .int y :: .int x :: r => eg_br X op x y pc off cu su ls r M
    | _ => False
  | .goto off => eg_to X pc off cu su ls st M
  | .tableswitch d lo hi offs => match st with
    | .int x :: r => (x.toInt < lo ∨ hi < x.toInt → eg_to X pc d cu su ls r M) ∧ (eg_need (decide (hi + 1 = lo + offs.toList.length)) (eg_sw X pc cu su ls r M x lo offs.toList))
    | _ => False
  | .ldc k => match eg_lq c.2.2.1 k with
    | some (.int x) => X (pc + n) cu su ls (.int x :: st) M
    | some (.retAddr x) => X (pc + n) cu su ls (.retAddr x :: st) M
    | _ => False
  | .ldc_w k => match eg_lq c.2.2.1 k with
    | some (.int x) => X (pc + n) cu su ls (.int x :: st) M
    | some (.retAddr x) => X (pc + n) cu su ls (.retAddr x :: st) M
    | _ => False
  | .ldc2_w k => match eg_lq c.2.2.1 k with
    | some (.long x) => X (pc + n) cu su ls (.long x :: st) M
    | _ => False
  | .getfield k => match st with
    | .ref p :: r => match eg_lq c.2.1 k with
      | some q => eg_need (eg_isO w M p q.1) (X (pc + n) cu su ls (eg_fld w M p q.1 q.2.1 :: r) M)
      | none => False
    | _ => False
  | .putfield k => match st with
    | v :: .ref p :: r => match eg_lq c.2.1 k with
      | some q => eg_need (eg_isO w M p q.1 && q.2.2) (match w.2.2.1 q.1 q.2.1 with
        | 0 => match v with
          | .int x => X (pc + n) cu su ls r (eg_si M p q.2.1 x)
          | _ => False
        | 1 => match v with
          | .long x => X (pc + n) cu su ls r (eg_sl M p q.2.1 x)
          | _ => False
        | 2 => eg_need (Option.isNone ((eg_sh w M p).2.2.getD q.2.1 none)) (match v with
          | .ref x => X (pc + n) cu su ls r (eg_sr M p q.2.1 (some x))
          | _ => False)
        | 3 => match v with
          | .int x => (x = 0 ∨ x = 1) ∧ X (pc + n) cu su ls r (eg_si M p q.2.1 x)
          | _ => False
        | _ => False)
      | none => False
    | _ => False
  | .arraylength => match st with
    | .ref p :: r => eg_need (Nat.ble 1 (eg_sh w M p).1 && Nat.ble (eg_sh w M p).1 7) (X (pc + n) cu su ls (.int (nI (eg_len w M p)) :: r) M)
    | _ => False
  | .iaload => match st with
    | .int i :: .ref p :: r => eg_need (eg_is w M p 1) (vp_in i (eg_len w M p) ∧ X (pc + n) cu su ls (.int (eg_gi M p i.toNatClampNeg) :: r) M)
    | _ => False
  | .laload => match st with
    | .int i :: .ref p :: r => eg_need (eg_is w M p 2) (vp_in i (eg_len w M p) ∧ X (pc + n) cu su ls (.long (eg_gl M p i.toNatClampNeg) :: r) M)
    | _ => False
  | .baload => match st with
    | .int i :: .ref p :: r => eg_need (eg_is w M p 3) (vp_in i (eg_len w M p) ∧ X (pc + n) cu su ls (.int (eg_gi M p i.toNatClampNeg) :: r) M)
    | _ => False
  | .aaload => match st with
    | .int i :: .ref p :: r => eg_need (Nat.ble 4 (eg_sh w M p).1 && Nat.ble (eg_sh w M p).1 7) (vp_in i (eg_len w M p) ∧ X (pc + n) cu su ls (eg_el w M p i.toNatClampNeg :: r) M)
    | _ => False
  | .iastore => match st with
    | .int x :: .int i :: .ref p :: r => eg_need (eg_is w M p 1) (vp_in i (eg_len w M p) ∧ X (pc + n) cu su ls r (eg_si M p i.toNatClampNeg x))
    | _ => False
  | .lastore => match st with
    | .long x :: .int i :: .ref p :: r => eg_need (eg_is w M p 2) (vp_in i (eg_len w M p) ∧ X (pc + n) cu su ls r (eg_sl M p i.toNatClampNeg x))
    | _ => False
  | .bastore => match st with
    | .int x :: .int i :: .ref p :: r => eg_need (eg_is w M p 3) (vp_in i (eg_len w M p) ∧ (x = 0 ∨ x = 1) ∧ X (pc + n) cu su ls r (eg_si M p i.toNatClampNeg x))
    | _ => False
  | .invokevirtual k => eg_need (Nat.blt k 100000) (eg_call c P X k pc cu su ls st M)
  | .invokestatic k => eg_need (Nat.blt k 100000) (eg_call c P X (k + 100000) pc cu su ls st M)
  | .invokespecial k => eg_need (Nat.blt k 100000) (eg_call c P X (k + 200000) pc cu su ls st M)
  | .newarray t => eg_need (Nat.blt (eg_nk t) 399999) (eg_callE c X (eg_nk t) pc n cu su ls st M)
  | .anewarray k => eg_need (Nat.blt k 10000) (eg_callE c X (k + 310000) pc n cu su ls st M)
  | .multianewarray k d => eg_need (Nat.blt k 10000 && Nat.beq d 2) (eg_callE c X (k + 320000) pc n cu su ls st M)
  | .aastore => eg_callE c X 330000 pc n cu su ls st M
  | .new k => match eg_lq c.2.2.2.2.1 k with
    | some (.inl E) => eg_need (Nat.ble (cu + 1) c.2.2.2.2.2.2.1 && Nat.ble (su + 6) c.2.2.2.2.2.2.2 && Nat.ble st.length 0) (P (.inr E) M)
    | some (.inr ci) => eg_need (Nat.ble (cu + 1) c.2.2.2.2.2.2.1 && Nat.ble (su + w.2.2.2 ci) c.2.2.2.2.2.2.2) (X (pc + n) (cu + 1) (su + w.2.2.2 ci) ls (.ref (eg_N w M) :: st) (eg_new w M (0, ci, [])))
    | none => False
  | .ireturn => match st with
    | [.int v] => eg_need (Nat.beq c.2.2.2.2.2.1 1 || Nat.beq c.2.2.2.2.2.1 2) ((Nat.beq c.2.2.2.2.2.1 2 = true → v = 0 ∨ v = 1) ∧ eg_ret c P cu su (some (.int v)) M)
    | _ => False
  | .lreturn => match st with
    | [.long v] => eg_need (Nat.beq c.2.2.2.2.2.1 3) (eg_ret c P cu su (some (.long v)) M)
    | _ => False
  | .areturn => match st with
    | [.ref v] => eg_need (Nat.beq c.2.2.2.2.2.1 4) (eg_ret c P cu su (some (.ref v)) M)
    | [.retAddr v] => eg_need (Nat.beq c.2.2.2.2.2.1 4) (eg_ret c P cu su (some (.retAddr v)) M)
    | _ => False
  | .return_ => match st with
    | [] => eg_need (Nat.beq c.2.2.2.2.2.1 0) (eg_ret c P cu su none M)
    | _ => False
  | _ => False
/-- how long an instruction is (0: any) -/
def eg_sz (i : Instr) : Nat := match i with
  | .bipush _ => 2
  | .sipush _ => 3
  | .iload _ => 2
  | .lload _ => 2
  | .aload _ => 2
  | .istore _ => 2
  | .lstore _ => 2
  | .astore _ => 2
  | .iinc _ _ => 3
  | .ifCond _ _ => 3
  | .if_icmp _ _ => 3
  | .goto _ => 3
  | .ifnull _ => 3
  | .tableswitch _ _ _ _ => 0
  | .ldc _ => 2
  | .ldc_w _ => 3
  | .ldc2_w _ => 3
  | .getfield _ => 3
  | .putfield _ => 3
  | .invokevirtual _ => 3
  | .invokestatic _ => 3
  | .invokespecial _ => 3
  | .new _ => 3
  | .newarray _ => 2
  | .anewarray _ => 3
  | .multianewarray _ _ => 4
  | _ => 1
def eg_szok (i : Instr) (n : Nat) : Bool := match eg_sz i with
  | 0 => true
  | k + 1 => Nat.beq n (k + 1)
def eg_at (w : eg_W) (c : eg_C) (P : eg_P) (X : eg_X) : eg_X := fun pc cu su ls st M => match eg_lq c.1 pc with
  | some q => eg_need (eg_szok q.1 q.2) (eg_step w c P X pc cu su ls st M q.1 q.2)
  | none => False
/-- it comes to an end, and there P holds -/
def eg_T (w : eg_W) (c : eg_C) (P : eg_P) : eg_X := fun pc cu su ls st M => ∀ X : eg_X, (∀ pc cu su ls st M, eg_at w c P X pc cu su ls st M → X pc cu su ls st M) → X pc cu su ls st M
def eg_in : List Nat → Nat → Bool
  | [], _ => false
  | a :: t, b => bif Nat.beq a b then true else eg_in t b
/-- so many instructions on, but to the cuts at most -/
def eg_run (w : eg_W) (c : eg_C) (P : eg_P) (X : eg_X) (cut : List Nat) : Nat → eg_X
  | 0 => X
  | n + 1 => eg_at w c P (fun pc cu su ls st M => bif eg_in cut pc then X pc cu su ls st M else eg_run w c P X cut n pc cu su ls st M)
