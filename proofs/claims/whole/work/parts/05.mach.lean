/-! ===== a small interpreter over an abstract heap: values are Int, references are numbers ===== -/
abbrev zV : Type := Int ⊕ (Int ⊕ Option Nat)
abbrev zi (x : Int) : zV := Sum.inl x
abbrev zl (x : Int) : zV := Sum.inr (Sum.inl x)
abbrev zr (r : Option Nat) : zV := Sum.inr (Sum.inr r)
/-- the heap: the next number; of each cell its kind (a class's number; 100 int[], 101 byte[], 102 boolean[], 103 long[], 104 Shapes[]) and length; its numbers; its references -/
abbrev zH : Type := Nat × (Nat → Nat × Nat) × (Nat → Nat → Int) × (Nat → Nat → Option Nat)
abbrev zLs : Type := List (Option zV)
abbrev zQ : Type := Int → zH → Prop
def z32 (x : Int) : Prop := -2147483648 ≤ x ∧ x ≤ 2147483647
def z64 (x : Int) : Prop := -9223372036854775808 ≤ x ∧ x ≤ 9223372036854775807
def zS (H : zH) : Nat := H.1
def zK (H : zH) (a : Nat) : Nat := (H.2.1 a).1
def zN (H : zH) (a : Nat) : Nat := (H.2.1 a).2
def zA (H : zH) (a j : Nat) : Int := H.2.2.1 a j
def zR (H : zH) (a j : Nat) : Option Nat := H.2.2.2 a j
def zwA (H : zH) (a j : Nat) (x : Int) : zH := (H.1, H.2.1, (fun b k => if b = a ∧ k = j then x else H.2.2.1 b k), H.2.2.2)
def zwR (H : zH) (a j : Nat) (r : Option Nat) : zH := (H.1, H.2.1, H.2.2.1, (fun b k => if b = a ∧ k = j then r else H.2.2.2 b k))
def zcp (H : zH) (a sp b dp n : Nat) : zH := (H.1, H.2.1, (fun c k => if c = b ∧ dp ≤ k ∧ k < dp + n then H.2.2.1 a (sp + (k - dp)) else H.2.2.1 c k), H.2.2.2)
def znw (H : zH) (kind len : Nat) : zH := (H.1 + 1, (fun b => if b = H.1 then (kind, len) else H.2.1 b), (fun b k => if b = H.1 then 0 else H.2.2.1 b k), (fun b k => if b = H.1 then none else H.2.2.2 b k))
-- numbers
def zand (x y : Int) : Int := (Int32.ofInt x &&& Int32.ofInt y).toInt
def zor (x y : Int) : Int := (Int32.ofInt x ||| Int32.ofInt y).toInt
def zxor (x y : Int) : Int := (Int32.ofInt x ^^^ Int32.ofInt y).toInt
def zshl (x y : Int) : Int := (Int32.ofInt x <<< (Int32.ofInt y &&& 31)).toInt
def zshr (x y : Int) : Int := (Int32.ofInt x >>> (Int32.ofInt y &&& 31)).toInt
def zushr (x y : Int) : Int := ((Int32.ofInt x).toUInt32 >>> ((Int32.ofInt y).toUInt32 &&& Int32.toUInt32 31)).toInt32.toInt
def zi2b (x : Int) : Int := (Int32.ofInt x).toInt8.toInt32.toInt
def zland (x y : Int) : Int := (Int64.ofInt x &&& Int64.ofInt y).toInt
def zlor (x y : Int) : Int := (Int64.ofInt x ||| Int64.ofInt y).toInt
def zlshl (x y : Int) : Int := (Int64.ofInt x <<< ((Int32.ofInt y).toInt64 &&& 63)).toInt
def zlshr (x y : Int) : Int := (Int64.ofInt x >>> ((Int32.ofInt y).toInt64 &&& 63)).toInt
def zlcm (x y : Int) : Int := if x < y then -1 else if x = y then 0 else 1
def zcn (c : ClassFile.Cond) (x y : Int) : Prop := match c with
  | .eq => x = y
  | .ne => ¬ x = y
  | .lt => x < y
  | .ge => y ≤ x
  | .gt => y < x
  | .le => x ≤ y
def zsw (d lo hi : Int) (offs : Array Int) (x : Int) : Int := if x < lo ∨ hi < x then d else offs.getD (x - lo).toNat d
-- tables
def zM (m : Nat) : MethodName × ByteArray × Nat × Option FieldType := zML.getD m (⟨"", "", ""⟩, ⟨#[]⟩, 0, none)
def zy (m : Nat) : MethodName := (zM m).1
def zcc (m : Nat) : ByteArray := (zM m).2.1
def zml (m : Nat) : Nat := (zM m).2.2.1
def zre (m : Nat) : Option FieldType := (zM m).2.2.2
def zMi (m : Nat) : Nat × Nat × Nat × Nat × Nat × Nat × Nat := zMN.getD m (15, 0, 0, 0, 0, 0, 0)
def znf (ci : Nat) : Nat := match zcl[ci]? with
  | some q => q.2.2
  | none => 0
/-- of a field: 0 int, 1 long, 2 a reference, 3 boolean -/
def zft (ci k : Nat) : Nat := match zcl[ci]? with
  | some q => (match (q.2.1 k).2.2.1 with
    | "I" => 0
    | "J" => 1
    | "Z" => 3
    | _ => 2)
  | none => 9
-- locals
def zgt (ls : zLs) (i : Nat) : Option zV := ls.getD i none
def zkl (ls : zLs) (i : Nat) : zLs := match zgt ls (i - 1) with
  | some (.inr (.inl _)) => if i = 0 then ls else ls.set (i - 1) none
  | _ => ls
def zs1 (ls : zLs) (i : Nat) (v : zV) : zLs := (zkl ls i).set i (some v)
def zs2 (ls : zLs) (i : Nat) (v : zV) : zLs := ((zkl ls i).set i (some v)).set (i + 1) none
def zlo : List zV → zLs
  | [] => []
  | v :: vs => (match v with
    | .inr (.inl _) => [some v, none]
    | _ => [some v]) ++ zlo vs
def zent (m : Nat) (args : List zV) : zLs := zlo args ++ List.replicate (zml m - (zlo args).length) none
def zpu (k : Nat) (r : Int) : List zV := match k with
  | 0 => []
  | 1 => [zi r]
  | _ => [zl r]
def zaty (t : ArrayType) : Nat := match t with
  | .int => 100
  | .byte => 101
  | .boolean => 102
  | .long => 103
  | _ => 999
/-- what a method that makes cells makes at most: cells, slots (others: none); at a heap -/
def zac (m : Nat) (H : zH) : Nat × Nat := zalc m H
abbrev zKo : Type := Nat → Nat → zLs → List zV → zH → Prop
abbrev zJt : Type := Nat → Nat → Nat → zLs → List zV → zH → Prop
abbrev zCt : Type := Nat → Nat → Nat → List zV → zH → zQ → Prop
def zcal (C : zCt) (b1 b2 m na rk ci : Nat) (vr : Bool) (k : List zV → zH → Prop) (st : List zV) (H : zH) : Prop :=
  na ≤ st.length ∧ (st.drop na).length ≤ 4 ∧ (vr = true → ∃ a : Nat, (st.take na).reverse.head? = some (zr (some a)) ∧ zK H a = ci) ∧ C b1 b2 m (st.take na).reverse H (fun r H' => k (zpu rk r ++ st.drop na) H')
def zins (J : zJt) (C : zCt) (sc : Bool) (xs : Nat → Int) (L : Nat) (Q : zQ) (i : Instr) (k : zKo) (bc bs : Nat) (ls : zLs) (st : List zV) (H : zH) : Prop :=
  match i with
  | .iconst n => k bc bs ls (zi n :: st) H
  | .jsr_w n => k bc bs ls (zl n :: st) H
  | .lookupswitch v a => if a.size = 1 then k bc bs ls (zi v :: st) H else k bc bs ls (zl v :: st) H
  | .aconst_null => k bc bs ls (zr none :: st) H
  | .iload n => (match zgt ls n with
    | some (.inl x) => k bc bs ls (zi x :: st) H
    | _ => False)
  | .lload n => (match zgt ls n with
    | some (.inr (.inl x)) => k bc bs ls (zl x :: st) H
    | _ => False)
  | .aload n => (match zgt ls n with
    | some (.inr (.inr (some a))) => k bc bs ls (zr (some a) :: st) H
    | _ => False)
  | .istore n => (match st with
    | .inl x :: st => n < ls.length ∧ k bc bs (zs1 ls n (zi x)) st H
    | _ => False)
  | .lstore n => (match st with
    | .inr (.inl x) :: st => n + 1 < ls.length ∧ k bc bs (zs2 ls n (zl x)) st H
    | _ => False)
  | .astore n => (match st with
    | .inr (.inr (some a)) :: st => n < ls.length ∧ k bc bs (zs1 ls n (zr (some a))) st H
    | _ => False)
  | .iinc n d => (match zgt ls n with
    | some (.inl x) => n < ls.length ∧ z32 (x + d) ∧ k bc bs (zs1 ls n (zi (x + d))) st H
    | _ => False)
  | .iadd => (match st with
    | .inl y :: .inl x :: st => z32 (x + y) ∧ k bc bs ls (zi (x + y) :: st) H
    | _ => False)
  | .isub => (match st with
    | .inl y :: .inl x :: st => z32 (x - y) ∧ k bc bs ls (zi (x - y) :: st) H
    | _ => False)
  | .imul => (match st with
    | .inl y :: .inl x :: st => z32 (x * y) ∧ k bc bs ls (zi (x * y) :: st) H
    | _ => False)
  | .idiv => (match st with
    | .inl y :: .inl x :: st => y ≠ 0 ∧ z32 (x.tdiv y) ∧ k bc bs ls (zi (x.tdiv y) :: st) H
    | _ => False)
  | .irem => (match st with
    | .inl y :: .inl x :: st => y ≠ 0 ∧ k bc bs ls (zi (x.tmod y) :: st) H
    | _ => False)
  | .iand => (match st with
    | .inl y :: .inl x :: st => k bc bs ls (zi (zand x y) :: st) H
    | _ => False)
  | .ior => (match st with
    | .inl y :: .inl x :: st => k bc bs ls (zi (zor x y) :: st) H
    | _ => False)
  | .ixor => (match st with
    | .inl y :: .inl x :: st => k bc bs ls (zi (zxor x y) :: st) H
    | _ => False)
  | .ishl => (match st with
    | .inl y :: .inl x :: st => k bc bs ls (zi (zshl x y) :: st) H
    | _ => False)
  | .ishr => (match st with
    | .inl y :: .inl x :: st => k bc bs ls (zi (zshr x y) :: st) H
    | _ => False)
  | .iushr => (match st with
    | .inl y :: .inl x :: st => k bc bs ls (zi (zushr x y) :: st) H
    | _ => False)
  | .i2b => (match st with
    | .inl x :: st => k bc bs ls (zi (zi2b x) :: st) H
    | _ => False)
  | .i2l => (match st with
    | .inl x :: st => k bc bs ls (zl x :: st) H
    | _ => False)
  | .l2i => (match st with
    | .inr (.inl x) :: st => z32 x ∧ k bc bs ls (zi x :: st) H
    | _ => False)
  | .ladd => (match st with
    | .inr (.inl y) :: .inr (.inl x) :: st => z64 (x + y) ∧ k bc bs ls (zl (x + y) :: st) H
    | _ => False)
  | .lmul => (match st with
    | .inr (.inl y) :: .inr (.inl x) :: st => z64 (x * y) ∧ k bc bs ls (zl (x * y) :: st) H
    | _ => False)
  | .ldiv => (match st with
    | .inr (.inl y) :: .inr (.inl x) :: st => y ≠ 0 ∧ z64 (x.tdiv y) ∧ k bc bs ls (zl (x.tdiv y) :: st) H
    | _ => False)
  | .lrem => (match st with
    | .inr (.inl y) :: .inr (.inl x) :: st => y ≠ 0 ∧ k bc bs ls (zl (x.tmod y) :: st) H
    | _ => False)
  | .land => (match st with
    | .inr (.inl y) :: .inr (.inl x) :: st => k bc bs ls (zl (zland x y) :: st) H
    | _ => False)
  | .lor => (match st with
    | .inr (.inl y) :: .inr (.inl x) :: st => k bc bs ls (zl (zlor x y) :: st) H
    | _ => False)
  | .lshl => (match st with
    | .inl y :: .inr (.inl x) :: st => k bc bs ls (zl (zlshl x y) :: st) H
    | _ => False)
  | .lshr => (match st with
    | .inl y :: .inr (.inl x) :: st => k bc bs ls (zl (zlshr x y) :: st) H
    | _ => False)
  | .lcmp => (match st with
    | .inr (.inl y) :: .inr (.inl x) :: st => k bc bs ls (zi (zlcm x y) :: st) H
    | _ => False)
  | .dup => (match st with
    | .inl x :: st => k bc bs ls (zi x :: zi x :: st) H
    | .inr (.inr r) :: st => k bc bs ls (zr r :: zr r :: st) H
    | _ => False)
  | .dup2 => (match st with
    | .inr (.inl x) :: st => k bc bs ls (zl x :: zl x :: st) H
    | .inl y :: .inr (.inr r) :: st => k bc bs ls (zi y :: zr r :: zi y :: zr r :: st) H
    | _ => False)
  | .pop => (match st with
    | .inl _ :: st => k bc bs ls st H
    | _ => False)
  | .ifCond c t => (match st with
    | .inl x :: st => (zcn c x 0 → J t.toNat bc bs ls st H) ∧ (¬ zcn c x 0 → k bc bs ls st H)
    | _ => False)
  | .if_icmp c t => (match st with
    | .inl y :: .inl x :: st => (zcn c x y → J t.toNat bc bs ls st H) ∧ (¬ zcn c x y → k bc bs ls st H)
    | _ => False)
  | .ifnull t => (match st with
    | .inr (.inr none) :: st => J t.toNat bc bs ls st H
    | .inr (.inr (some _)) :: st => k bc bs ls st H
    | _ => False)
  | .ifnonnull t => (match st with
    | .inr (.inr none) :: st => k bc bs ls st H
    | .inr (.inr (some _)) :: st => J t.toNat bc bs ls st H
    | _ => False)
  | .goto t => J t.toNat bc bs ls st H
  | .goto_w t => J t.toNat bc bs ls st H
  | .tableswitch d lo hi offs => (match st with
    | .inl x :: st => J (zsw d lo hi offs x).toNat bc bs ls st H
    | _ => False)
  | .iaload => (match st with
    | .inl i :: .inr (.inr (some a)) :: st => if sc = true ∧ a = 0 then 0 ≤ i ∧ i < L ∧ k bc bs ls (zi (xs i.toNat) :: st) H else zK H a = 100 ∧ 0 ≤ i ∧ i < zN H a ∧ k bc bs ls (zi (zA H a i.toNat) :: st) H
    | _ => False)
  | .baload => (match st with
    | .inl i :: .inr (.inr (some a)) :: st => (zK H a = 101 ∨ zK H a = 102) ∧ 0 ≤ i ∧ i < zN H a ∧ k bc bs ls (zi (zA H a i.toNat) :: st) H
    | _ => False)
  | .laload => (match st with
    | .inl i :: .inr (.inr (some a)) :: st => zK H a = 103 ∧ 0 ≤ i ∧ i < zN H a ∧ k bc bs ls (zl (zA H a i.toNat) :: st) H
    | _ => False)
  | .aaload => (match st with
    | .inl i :: .inr (.inr (some a)) :: st => zK H a = 104 ∧ 0 ≤ i ∧ i < zN H a ∧ k bc bs ls (zr (zR H a i.toNat) :: st) H
    | _ => False)
  | .iastore => (match st with
    | .inl x :: .inl i :: .inr (.inr (some a)) :: st => zK H a = 100 ∧ 0 ≤ i ∧ i < zN H a ∧ k bc bs ls st (zwA H a i.toNat x)
    | _ => False)
  | .bastore => (match st with
    | .inl x :: .inl i :: .inr (.inr (some a)) :: st => ((zK H a = 101 ∧ -128 ≤ x ∧ x ≤ 127) ∨ (zK H a = 102 ∧ 0 ≤ x ∧ x ≤ 1)) ∧ 0 ≤ i ∧ i < zN H a ∧ k bc bs ls st (zwA H a i.toNat x)
    | _ => False)
  | .lastore => (match st with
    | .inr (.inl x) :: .inl i :: .inr (.inr (some a)) :: st => zK H a = 103 ∧ 0 ≤ i ∧ i < zN H a ∧ k bc bs ls st (zwA H a i.toNat x)
    | _ => False)
  | .aastore => (match st with
    | .inr (.inr (some v)) :: .inl i :: .inr (.inr (some a)) :: st => zK H a = 104 ∧ zK H v = 5 ∧ 0 ≤ i ∧ i < zN H a ∧ k bc bs ls st (zwR H a i.toNat (some v))
    | _ => False)
  | .arraylength => (match st with
    | .inr (.inr (some a)) :: st => if sc = true ∧ a = 0 then k bc bs ls (zi L :: st) H else (100 ≤ zK H a ∧ zK H a ≤ 103) ∧ k bc bs ls (zi (zN H a) :: st) H
    | _ => False)
  | .newarray t => (match st with
    | .inl n :: st => 0 ≤ n ∧ n ≤ 1000000 ∧ 1 ≤ bc ∧ n ≤ bs ∧ k (bc - 1) (bs - n.toNat) ls (zr (some (zS H)) :: st) (znw H (zaty t) n.toNat)
    | _ => False)
  | .anewarray _ => (match st with
    | .inl n :: st => 0 ≤ n ∧ n ≤ 1000000 ∧ 1 ≤ bc ∧ n ≤ bs ∧ k (bc - 1) (bs - n.toNat) ls (zr (some (zS H)) :: st) (znw H 104 n.toNat)
    | _ => False)
  | .new n => 1 ≤ bc ∧ znf (n % 16) ≤ bs ∧ k (bc - 1) (bs - znf (n % 16)) ls (zr (some (zS H)) :: st) (znw H (n % 16) (znf (n % 16)))
  | .getfield n => (match st with
    | .inr (.inr (some a)) :: st => zK H a = n / 128 % 16 ∧ k bc bs ls (zi (zA H a (n % 128)) :: st) H
    | _ => False)
  | .instanceof n => (match st with
    | .inr (.inr (some a)) :: st => zK H a = n / 128 % 16 ∧ k bc bs ls (zl (zA H a (n % 128)) :: st) H
    | _ => False)
  | .getstatic n => (match st with
    | .inr (.inr (some a)) :: st => zK H a = n / 128 % 16 ∧ k bc bs ls (zr (zR H a (n % 128)) :: st) H
    | _ => False)
  | .putfield n => (match st with
    | .inl x :: .inr (.inr (some a)) :: st => zK H a = n / 128 % 16 ∧ k bc bs ls st (zwA H a (n % 128) x)
    | _ => False)
  | .invokedynamic n => (match st with
    | .inl x :: .inr (.inr (some a)) :: st => zK H a = n / 128 % 16 ∧ 0 ≤ x ∧ x ≤ 1 ∧ k bc bs ls st (zwA H a (n % 128) x)
    | _ => False)
  | .checkcast n => (match st with
    | .inr (.inl x) :: .inr (.inr (some a)) :: st => zK H a = n / 128 % 16 ∧ k bc bs ls st (zwA H a (n % 128) x)
    | _ => False)
  | .putstatic n => (match st with
    | .inr (.inr r) :: .inr (.inr (some a)) :: st => zK H a = n / 128 % 16 ∧ k bc bs ls st (zwR H a (n % 128) r)
    | _ => False)
  | .invokeinterface n kk => zcal C 0 0 (n % 512) (kk / 64) (kk / 16 % 4) (kk % 16) false (k bc bs ls) st H
  | .multianewarray n kk => zcal C 0 0 (n % 512) (kk / 64) (kk / 16 % 4) (kk % 16) true (k bc bs ls) st H
  | .jsr n => (zac (n.toNat % 512) H).1 ≤ bc ∧ (zac (n.toNat % 512) H).2 ≤ bs ∧ zcal C (zac (n.toNat % 512) H).1 (zac (n.toNat % 512) H).2 (n.toNat % 512) (zMi (n.toNat % 512)).2.1 (zMi (n.toNat % 512)).2.2.1 (zMi (n.toNat % 512)).1 true (k (bc - (zac (n.toNat % 512) H).1) (bs - (zac (n.toNat % 512) H).2) ls) st H
  | .ret _ => (match st with
    | .inr (.inr (some _)) :: st => st.length ≤ 4 ∧ k bc bs ls st H
    | _ => False)
  | .dstore _ => (match st with
    | .inl n :: .inl dp :: .inr (.inr (some b)) :: .inl sp :: .inr (.inr (some a)) :: st => zK H a = 100 ∧ zK H b = 100 ∧ 0 ≤ sp ∧ 0 ≤ dp ∧ 0 ≤ n ∧ sp + n ≤ zN H a ∧ dp + n ≤ zN H b ∧ st.length ≤ 4 ∧ k bc bs ls st (zcp H a sp.toNat b dp.toNat n.toNat)
    | _ => False)
  | .fstore _ => (match st with
    | .inl n :: .inl dp :: .inr (.inr (some b)) :: .inl sp :: .inr (.inr (some a)) :: st => zK H a = 103 ∧ zK H b = 103 ∧ 0 ≤ sp ∧ 0 ≤ dp ∧ 0 ≤ n ∧ sp + n ≤ zN H a ∧ dp + n ≤ zN H b ∧ st.length ≤ 4 ∧ k bc bs ls st (zcp H a sp.toNat b dp.toNat n.toNat)
    | _ => False)
  | .fload _ => (match st with
    | .inl y :: .inl x :: st => st.length ≤ 4 ∧ k bc bs ls (zi (if x < y then y else x) :: st) H
    | _ => False)
  | .dload _ => (match st with
    | .inl y :: .inl x :: st => st.length ≤ 4 ∧ k bc bs ls (zi (if y < x then y else x) :: st) H
    | _ => False)
  | .bipush _ => (match st with
    | .inr (.inl y) :: .inr (.inl x) :: st => st.length ≤ 4 ∧ k bc bs ls (zl (if y < x then y else x) :: st) H
    | _ => False)
  | .ireturn => (match st with
    | [.inl x] => Q x H
    | _ => False)
  | .areturn => (match st with
    | [.inl x] => 0 ≤ x ∧ x ≤ 1 ∧ Q x H
    | _ => False)
  | .lreturn => (match st with
    | [.inr (.inl x)] => Q x H
    | _ => False)
  | .return_ => (match st with
    | [] => Q 0 H
    | _ => False)
  | _ => False
def zrun (J : zJt) (C : zCt) (sc : Bool) (xs : Nat → Int) (L : Nat) (Q : zQ) : List Instr → zKo
  | [] => fun _ _ _ _ _ => False
  | i :: il => zins J C sc xs L Q i (zrun J C sc xs L Q il)
abbrev zE : Type := Nat → Nat → Nat → Bool → Nat → List Instr → zLs → List zV → zH → zQ → Prop
def zF (xs : Nat → Int) (L : Nat) (X : zE) : zE := fun d bc bs sc m il ls st H Q =>
  zrun (fun t bc bs ls st H => X d bc bs sc m (zblk m t) ls st H Q)
    (fun b1 b2 m' args H K => 1 ≤ d ∧ (zlo args).length ≤ zml m' ∧ ∃ Q1 : zQ, X (d - 1) b1 b2 false m' (zblk m' 0) (zent m' args) [] H Q1 ∧ ∀ r H', Q1 r H' → K r H') sc xs L Q il bc bs ls st H
/-- the least such -/
def zEV (xs : Nat → Int) (L : Nat) : zE := fun d bc bs sc m il ls st H Q => ∀ X : zE, (∀ d bc bs sc m il ls st H Q, zF xs L X d bc bs sc m il ls st H Q → X d bc bs sc m il ls st H Q) → X d bc bs sc m il ls st H Q
/-- a method's run from its entry -/
def zEm (xs : Nat → Int) (L d b1 b2 m : Nat) (args : List zV) (H : zH) (Q : zQ) : Prop := (zlo args).length ≤ zml m ∧ zEV xs L d b1 b2 false m (zblk m 0) (zent m args) [] H Q
