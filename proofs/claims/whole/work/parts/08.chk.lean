/-! ===== the code lists beside the bytes ===== -/
def zon (m : Nat) : String := (zy m).cls
def zct (m : Nat) : Bool := (zy m).name == "<init>"
def zf4 (f : Fin 4 → Instr) (i : Nat) : List (Instr × Nat) := if h : i < 4 then [(f ⟨i, h⟩, 1)] else []
/-- the instructions that a listed one may stand for at a place, with their lengths -/
def zraw (pc : Nat) (i : Instr) : List (Instr × Nat) := match i with
  | .iconst n => (.iconst n, 1) :: ((if -128 ≤ n ∧ n ≤ 127 then [(.bipush n, 2)] else []) ++ (if -32768 ≤ n ∧ n ≤ 32767 then [(.sipush n, 3)] else []))
  | .jsr_w n => if n = 0 then [(.lconst 0, 1)] else if n = 1 then [(.lconst 1, 1)] else []
  | .lookupswitch _ a => if a.size = 1 then [(.ldc (a.getD 0 (0, 0)).1.toNat, 2), (.ldc_w (a.getD 0 (0, 0)).1.toNat, 3)] else [(.ldc2_w (a.getD 0 (0, 0)).1.toNat, 3)]
  | .iload n => (.iload n, 2) :: zf4 .iload_n n
  | .lload n => (.lload n, 2) :: zf4 .lload_n n
  | .aload n => (.aload n, 2) :: zf4 .aload_n n
  | .istore n => (.istore n, 2) :: zf4 .istore_n n
  | .lstore n => (.lstore n, 2) :: zf4 .lstore_n n
  | .astore n => (.astore n, 2) :: zf4 .astore_n n
  | .iinc n d => [(.iinc n d, 3)]
  | .ifCond c t => [(.ifCond c (t - pc), 3)]
  | .if_icmp c t => [(.if_icmp c (t - pc), 3)]
  | .ifnull t => [(.ifnull (t - pc), 3)]
  | .ifnonnull t => [(.ifnonnull (t - pc), 3)]
  | .goto t => [(.goto (t - pc), 3)]
  | .tableswitch d lo hi offs => [(.tableswitch (d - pc) lo hi (offs.map (fun t => t - (pc : Int))), (pc / 4 + 1) * 4 + 12 + 4 * offs.size - pc)]
  | .newarray t => [(.newarray t, 2)]
  | .anewarray n => [(.anewarray (n % 512), 3)]
  | .new n => [(.new (n / 16 % 512), 3)]
  | .getfield n => [(.getfield (n / 2048 % 512), 3)]
  | .getstatic n => [(.getfield (n / 2048 % 512), 3)]
  | .instanceof n => [(.getfield (n / 2048 % 512), 3)]
  | .putfield n => [(.putfield (n / 2048 % 512), 3)]
  | .putstatic n => [(.putfield (n / 2048 % 512), 3)]
  | .checkcast n => [(.putfield (n / 2048 % 512), 3)]
  | .invokedynamic n => [(.putfield (n / 2048 % 512), 3)]
  | .invokeinterface n _ => [(.invokestatic (n / 512 % 512), 3)]
  | .multianewarray n _ => [(.invokevirtual (n / 512 % 512), 3)]
  | .jsr n => if zct (n.toNat % 512) then [(.invokespecial (n.toNat / 512 % 512), 3)] else [(.invokevirtual (n.toNat / 512 % 512), 3)]
  | .ret n => [(.invokespecial (n % 512), 3)]
  | .dstore n => [(.invokestatic (n % 512), 3)]
  | .fstore n => [(.invokestatic (n % 512), 3)]
  | .fload n => [(.invokestatic (n % 512), 3)]
  | .dload n => [(.invokestatic (n % 512), 3)]
  | .bipush n => [(.invokestatic (n.toNat % 512), 3)]
  | .areturn => [(.ireturn, 1)]
  | .athrow => []
  | .goto_w _ => []
  | j => [(j, 1)]
/-- a field's word: its place in lw_tbl, its link, its class, its place among the fields stand in n -/
def zfw (m n : Nat) (t : Nat → Bool → Bool) : Bool := match zcl[n / 128 % 16]? with
  | some (_, T, N) => decide (n % 128 < N) && decide (lw_tbl[n / 1048576]? = some (.fieldLink (zon m) (n / 2048 % 512) (T (n % 128)).1 (T (n % 128)).2.1 (T (n % 128)).2.2.1)) && t (zft (n / 128 % 16) (n % 128)) (T (n % 128)).2.2.2
  | none => false
def zmw (m n : Nat) : Bool := decide (lw_tbl[n / 262144]? = some (.methodLink (zon m) (n / 512 % 512) (zy (n % 512))))
def zmwN (m n : Nat) : Bool := decide (lw_tbl[n / 262144]? = some (.methodLinkNest (zon m) (n / 512 % 512) (zy (n % 512)) "StagePair"))
/-- is a place the begin of a block -/
def zjo (m : Nat) (t : Int) : Bool := decide (0 ≤ t) && decide ((m, t.toNat) ∈ zPr)
/-- what the tables must say for a listed instruction -/
def zext (m : Nat) (i : Instr) : Bool := match i with
  | .iconst n => decide (-32768 ≤ n ∧ n ≤ 32767)
  | .lookupswitch v a => if a.size = 1 then decide (-2147483648 ≤ v ∧ v ≤ 2147483647) && decide (lw_tbl[(a.getD 0 (0, 0)).2.toNat]? = some (.constant (zon m) (a.getD 0 (0, 0)).1.toNat (Int32.ofInt v)))
      else decide (-9223372036854775808 ≤ v ∧ v ≤ 9223372036854775807) && decide (lw_tbl[(a.getD 0 (0, 0)).2.toNat]? = some (.constantLong (zon m) (a.getD 0 (0, 0)).1.toNat (Int64.ofInt v)))
  | .ifCond _ t => zjo m t
  | .if_icmp _ t => zjo m t
  | .ifnull t => zjo m t
  | .ifnonnull t => zjo m t
  | .goto t => zjo m t
  | .goto_w t => zjo m t
  | .tableswitch d lo hi offs => zjo m d && offs.toList.all (zjo m) && decide (hi - lo < offs.size)
  | .newarray t => decide (zaty t ≠ 999)
  | .anewarray n => decide (lw_tbl[n / 512]? = some (.classLink (zon m) (n % 512) "StagePair$Shapes"))
  | .new n => (match zcl[n % 16]? with
    | some (C, _, _) => decide (lw_tbl[n / 8192]? = some (.classLink (zon m) (n / 16 % 512) C))
    | none => false)
  | .getfield n => zfw m n (fun t _ => t == 0 || t == 3)
  | .getstatic n => zfw m n (fun t _ => t == 2)
  | .instanceof n => zfw m n (fun t _ => t == 1)
  | .putfield n => zfw m n (fun t f => t == 0 && !f)
  | .invokedynamic n => zfw m n (fun t f => t == 3 && !f)
  | .checkcast n => zfw m n (fun t f => t == 1 && !f)
  | .putstatic n => zfw m n (fun t f => t == 2 && (!f || (zct m && decide (zcl[n / 128 % 16]?.map (fun q => (q.2.1 (n % 128)).1) = some (zon m)))))
  | .invokeinterface n k => zmw m n && decide (n % 512 < 307) && decide ((zMi (n % 512)).2.1 = k / 64) && decide ((zMi (n % 512)).2.2.1 = k / 16 % 4) && decide ((zMi (n % 512)).2.2.2.2.2.2 = 0)
  | .multianewarray n k => zmw m n && decide (n % 512 < 307) && decide ((zMi (n % 512)).1 = k % 16) && decide ((zMi (n % 512)).2.1 = k / 64) && decide ((zMi (n % 512)).2.2.1 = k / 16 % 4) && decide ((zMi (n % 512)).2.2.2.2.2.2 ≠ 0) && !(zct (n % 512))
  | .jsr n => (zmw m n.toNat || (zct (n.toNat % 512) && zmwN m n.toNat)) && decide (n.toNat % 512 < 307) && decide ((zMi (n.toNat % 512)).2.2.2.2.2.2 ≠ 0)
  | .ret n => decide (lw_tbl[n / 512]? = some (.methodLink (zon m) (n % 512) objectInit))
  | .dstore n => decide (lw_tbl[n / 512]? = some (.methodLink (zon m) (n % 512) arraycopyName))
  | .fstore n => decide (lw_tbl[n / 512]? = some (.methodLink (zon m) (n % 512) arraycopyName))
  | .fload n => decide (lw_tbl[n / 512]? = some (.methodLink (zon m) (n % 512) Lib.Math.max.name))
  | .dload n => decide (lw_tbl[n / 512]? = some (.methodLink (zon m) (n % 512) Lib.Math.min.name))
  | .bipush n => decide (lw_tbl[n.toNat / 512]? = some (.methodLink (zon m) (n.toNat % 512) Lib.MathLoose.min_long.x))
  | .ireturn => decide (zre m = some .int)
  | .areturn => decide (zre m = some .boolean)
  | .lreturn => decide (zre m = some .long)
  | .return_ => decide (zre m = none)
  | _ => true
/-- nothing comes behind it -/
def zte (i : Instr) : Bool := match i with
  | .goto _ => true
  | .tableswitch .. => true
  | .ireturn => true
  | .areturn => true
  | .lreturn => true
  | .return_ => true
  | _ => false
def zchk (m : Nat) : Nat → List Instr → Bool
  | _, [] => false
  | pc, i :: il => match i with
    | .athrow => true
    | .goto_w t => decide (t = (pc : Int)) && zext m i
    | _ => (match decode (zcc m) pc with
      | .ok (j, len) => (zraw pc i).any (fun q => decide (q = (j, len))) && zext m i && (zte i || zchk m (pc + len) il)
      | _ => false)
/-- a method's own words -/
def zmf (m : Nat) : Bool :=
  decide (lw_tbl[(zMi m).2.2.2.2.1]? = some (.initialized (zy m).cls)) &&
  (if (zMi m).2.2.2.2.2.2 = 0 then decide (lw_tbl[(zMi m).2.2.2.2.2.1]? = some (.static (zy m))) && decide ((parseMethodDescriptor (zy m).desc).map (fun d => d.parameters.length) = some (zMi m).2.1)
   else decide (lw_tbl[(zMi m).2.2.2.2.2.1]? = some (.instanceMethod (zy m))) && (zct m || decide (lw_tbl[(zMi m).2.2.2.2.2.2 - 1]? = some (.selects (zy m).cls (zy m) (zy m)))) &&
     decide ((parseMethodDescriptor (zy m).desc).map (fun d => d.parameters.length + 1) = some (zMi m).2.1) && decide ((zcl[(zMi m).1]?).map (fun q => q.1) = some (zy m).cls)) &&
  decide (zml m ≤ 20) && plainName (zy m).cls && decide ((zy m).cls ≠ "java/lang/invoke/MethodHandle" ∧ (zy m).cls ≠ "java/lang/invoke/VarHandle") &&
  decide ((zre m = none ∧ (zMi m).2.2.1 = 0) ∨ ((zre m = some .int ∨ zre m = some .boolean) ∧ (zMi m).2.2.1 = 1) ∨ (zre m = some .long ∧ (zMi m).2.2.1 = 2)) && decide ((m, 0) ∈ zPr) && (!(zct m) || decide (zre m = none))
