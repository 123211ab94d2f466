theorem zrun_c {J : zJt} {C : zCt} {sc : Bool} {xs : Nat → Int} {L : Nat} {Q : zQ} (i : Instr) (il : List Instr) : zrun J C sc xs L Q (i :: il) = zins J C sc xs L Q i (zrun J C sc xs L Q il) := rfl
def zmI (o : Option zV) (f : Int → Prop) : Prop := match o with
  | some (.inl x) => f x
  | _ => False
def zmL (o : Option zV) (f : Int → Prop) : Prop := match o with
  | some (.inr (.inl x)) => f x
  | _ => False
def zmR (o : Option zV) (f : Nat → Prop) : Prop := match o with
  | some (.inr (.inr (some x))) => f x
  | _ => False
theorem zmI_s (x : Int) (f : Int → Prop) : zmI (some (Sum.inl x)) f = f x := rfl
theorem zmL_s (x : Int) (f : Int → Prop) : zmL (some (Sum.inr (Sum.inl x))) f = f x := rfl
theorem zmR_s (x : Nat) (f : Nat → Prop) : zmR (some (Sum.inr (Sum.inr (some x)))) f = f x := rfl
theorem zgt_0 (a : Option zV) (l : zLs) : zgt (a :: l) 0 = a := rfl
theorem zgt_s (a : Option zV) (l : zLs) (n : Nat) : zgt (a :: l) (n + 1) = zgt l n := rfl
theorem zln_0 (a : Option zV) (l : zLs) : (0 < (a :: l).length) = True := by simp
theorem zln_s (a : Option zV) (l : zLs) (n : Nat) : (n + 1 < (a :: l).length) = (n < l.length) := by simp
theorem zs1_0 (a : Option zV) (l : zLs) (v : zV) : zs1 (a :: l) 0 v = some v :: l := by
  unfold zs1 zkl
  split <;> rfl
theorem zs1_1i (x : Int) (b : Option zV) (l : zLs) (v : zV) : zs1 (some (Sum.inl x) :: b :: l) 1 v = some (Sum.inl x) :: some v :: l := rfl
theorem zs1_1r (x : Option Nat) (b : Option zV) (l : zLs) (v : zV) : zs1 (some (Sum.inr (Sum.inr x)) :: b :: l) 1 v = some (Sum.inr (Sum.inr x)) :: some v :: l := rfl
theorem zs1_1n (b : Option zV) (l : zLs) (v : zV) : zs1 (none :: b :: l) 1 v = none :: some v :: l := rfl
theorem zs1_1l (x : Int) (b : Option zV) (l : zLs) (v : zV) : zs1 (some (Sum.inr (Sum.inl x)) :: b :: l) 1 v = none :: some v :: l := rfl
theorem zkl_s (a : Option zV) (l : zLs) (n : Nat) : zkl (a :: l) (n + 2) = a :: zkl l (n + 1) := by
  unfold zkl
  rw [show n + 2 - 1 = n + 1 from rfl, zgt_s, show n + 1 - 1 = n from rfl]
  split
  · rw [if_neg (by omega), if_neg (by omega)]
    rfl
  · rfl
theorem zs1_s (a : Option zV) (l : zLs) (n : Nat) (v : zV) : zs1 (a :: l) (n + 2) v = a :: zs1 l (n + 1) v := by
  unfold zs1
  rw [zkl_s]
  rfl
theorem zs2_0 (a b : Option zV) (l : zLs) (v : zV) : zs2 (a :: b :: l) 0 v = some v :: none :: l := by
  unfold zs2 zkl
  split <;> rfl
theorem zs2_1i (x : Int) (b c : Option zV) (l : zLs) (v : zV) : zs2 (some (Sum.inl x) :: b :: c :: l) 1 v = some (Sum.inl x) :: some v :: none :: l := rfl
theorem zs2_1r (x : Option Nat) (b c : Option zV) (l : zLs) (v : zV) : zs2 (some (Sum.inr (Sum.inr x)) :: b :: c :: l) 1 v = some (Sum.inr (Sum.inr x)) :: some v :: none :: l := rfl
theorem zs2_1n (b c : Option zV) (l : zLs) (v : zV) : zs2 (none :: b :: c :: l) 1 v = none :: some v :: none :: l := rfl
theorem zs2_1l (x : Int) (b c : Option zV) (l : zLs) (v : zV) : zs2 (some (Sum.inr (Sum.inl x)) :: b :: c :: l) 1 v = none :: some v :: none :: l := rfl
theorem zs2_s (a : Option zV) (l : zLs) (n : Nat) (v : zV) : zs2 (a :: l) (n + 2) v = a :: zs2 l (n + 1) v := by
  unfold zs2
  rw [zkl_s]
  rfl
def zbr (c A B : Prop) : Prop := (c → A) ∧ (¬ c → B)
theorem zbr_t (A B : Prop) : zbr True A B = A := by simp [zbr]
theorem zbr_f (A B : Prop) : zbr False A B = B := by simp [zbr]
theorem zbr_i {c A B : Prop} (h1 : c → A) (h2 : ¬ c → B) : zbr c A B := ⟨h1, h2⟩
theorem zcn_eq (x y : Int) : zcn .eq x y = (x = y) := rfl
theorem zcn_ne (x y : Int) : zcn .ne x y = ¬ (x = y) := rfl
theorem zcn_lt (x y : Int) : zcn .lt x y = (x < y) := rfl
theorem zcn_ge (x y : Int) : zcn .ge x y = (y ≤ x) := rfl
theorem zcn_gt (x y : Int) : zcn .gt x y = (y < x) := rfl
theorem zcn_le (x y : Int) : zcn .le x y = (x ≤ y) := rfl
theorem zpu_0 (r : Int) (st : List zV) : zpu 0 r ++ st = st := rfl
theorem zpu_1 (r : Int) (st : List zV) : zpu 1 r ++ st = Sum.inl r :: st := rfl
theorem zpu_2 (r : Int) (st : List zV) : zpu 2 r ++ st = Sum.inr (Sum.inl r) :: st := rfl
theorem zx_iconst {J : zJt} {C : zCt} {sc : Bool} {xs : Nat → Int} {L : Nat} {Q : zQ} {k : zKo} {bc bs : Nat} {ls : zLs} {st : List zV} {H : zH} (n : Int) : zins J C sc xs L Q (.iconst n) k bc bs ls st H = (k bc bs ls (Sum.inl n :: st) (H)) := rfl
theorem zx_lconst {J : zJt} {C : zCt} {sc : Bool} {xs : Nat → Int} {L : Nat} {Q : zQ} {k : zKo} {bc bs : Nat} {ls : zLs} {st : List zV} {H : zH} (n : Int) : zins J C sc xs L Q (.jsr_w n) k bc bs ls st H = (k bc bs ls (Sum.inr (Sum.inl n) :: st) (H)) := rfl
theorem zx_ldc {J : zJt} {C : zCt} {sc : Bool} {xs : Nat → Int} {L : Nat} {Q : zQ} {k : zKo} {bc bs : Nat} {ls : zLs} {st : List zV} {H : zH} (v : Int) (q : Int × Int) : zins J C sc xs L Q (.lookupswitch v #[q]) k bc bs ls st H = (k bc bs ls (Sum.inl v :: st) (H)) := rfl
theorem zx_ldc2 {J : zJt} {C : zCt} {sc : Bool} {xs : Nat → Int} {L : Nat} {Q : zQ} {k : zKo} {bc bs : Nat} {ls : zLs} {st : List zV} {H : zH} (v : Int) (q r : Int × Int) : zins J C sc xs L Q (.lookupswitch v #[q, r]) k bc bs ls st H = (k bc bs ls (Sum.inr (Sum.inl v) :: st) (H)) := rfl
theorem zx_null {J : zJt} {C : zCt} {sc : Bool} {xs : Nat → Int} {L : Nat} {Q : zQ} {k : zKo} {bc bs : Nat} {ls : zLs} {st : List zV} {H : zH}  : zins J C sc xs L Q (.aconst_null) k bc bs ls st H = (k bc bs ls (Sum.inr (Sum.inr none) :: st) (H)) := rfl
theorem zx_iload {J : zJt} {C : zCt} {sc : Bool} {xs : Nat → Int} {L : Nat} {Q : zQ} {k : zKo} {bc bs : Nat} {ls : zLs} {st : List zV} {H : zH} (n : Nat) : zins J C sc xs L Q (.iload n) k bc bs ls st H = (zmI (zgt ls n) (fun x => k bc bs ls (Sum.inl x :: st) (H))) := rfl
theorem zx_lload {J : zJt} {C : zCt} {sc : Bool} {xs : Nat → Int} {L : Nat} {Q : zQ} {k : zKo} {bc bs : Nat} {ls : zLs} {st : List zV} {H : zH} (n : Nat) : zins J C sc xs L Q (.lload n) k bc bs ls st H = (zmL (zgt ls n) (fun x => k bc bs ls (Sum.inr (Sum.inl x) :: st) (H))) := rfl
theorem zx_aload {J : zJt} {C : zCt} {sc : Bool} {xs : Nat → Int} {L : Nat} {Q : zQ} {k : zKo} {bc bs : Nat} {ls : zLs} {st : List zV} {H : zH} (n : Nat) : zins J C sc xs L Q (.aload n) k bc bs ls st H = (zmR (zgt ls n) (fun x => k bc bs ls (Sum.inr (Sum.inr (some x)) :: st) (H))) := rfl
theorem zx_istore {J : zJt} {C : zCt} {sc : Bool} {xs : Nat → Int} {L : Nat} {Q : zQ} {k : zKo} {bc bs : Nat} {ls : zLs} {st : List zV} {H : zH} (n : Nat) (x : Int) : zins J C sc xs L Q (.istore n) k bc bs ls (Sum.inl x :: st) H = (n < ls.length ∧ k bc bs (zs1 ls n (Sum.inl x)) (st) (H)) := rfl
theorem zx_lstore {J : zJt} {C : zCt} {sc : Bool} {xs : Nat → Int} {L : Nat} {Q : zQ} {k : zKo} {bc bs : Nat} {ls : zLs} {st : List zV} {H : zH} (n : Nat) (x : Int) : zins J C sc xs L Q (.lstore n) k bc bs ls (Sum.inr (Sum.inl x) :: st) H = (n + 1 < ls.length ∧ k bc bs (zs2 ls n (Sum.inr (Sum.inl x))) (st) (H)) := rfl
theorem zx_astore {J : zJt} {C : zCt} {sc : Bool} {xs : Nat → Int} {L : Nat} {Q : zQ} {k : zKo} {bc bs : Nat} {ls : zLs} {st : List zV} {H : zH} (n : Nat) (x : Nat) : zins J C sc xs L Q (.astore n) k bc bs ls (Sum.inr (Sum.inr (some x)) :: st) H = (n < ls.length ∧ k bc bs (zs1 ls n (Sum.inr (Sum.inr (some x)))) (st) (H)) := rfl
theorem zx_iinc {J : zJt} {C : zCt} {sc : Bool} {xs : Nat → Int} {L : Nat} {Q : zQ} {k : zKo} {bc bs : Nat} {ls : zLs} {st : List zV} {H : zH} (n : Nat) (d : Int) : zins J C sc xs L Q (.iinc n d) k bc bs ls st H = (zmI (zgt ls n) (fun x => n < ls.length ∧ z32 (x + d) ∧ k bc bs (zs1 ls n (Sum.inl (x + d))) (st) (H))) := rfl
theorem zx_iadd {J : zJt} {C : zCt} {sc : Bool} {xs : Nat → Int} {L : Nat} {Q : zQ} {k : zKo} {bc bs : Nat} {ls : zLs} {st : List zV} {H : zH} (x y : Int) : zins J C sc xs L Q (.iadd) k bc bs ls (Sum.inl y :: Sum.inl x :: st) H = (z32 (x + y) ∧ k bc bs ls (Sum.inl (x + y) :: st) (H)) := rfl
theorem zx_isub {J : zJt} {C : zCt} {sc : Bool} {xs : Nat → Int} {L : Nat} {Q : zQ} {k : zKo} {bc bs : Nat} {ls : zLs} {st : List zV} {H : zH} (x y : Int) : zins J C sc xs L Q (.isub) k bc bs ls (Sum.inl y :: Sum.inl x :: st) H = (z32 (x - y) ∧ k bc bs ls (Sum.inl (x - y) :: st) (H)) := rfl
theorem zx_imul {J : zJt} {C : zCt} {sc : Bool} {xs : Nat → Int} {L : Nat} {Q : zQ} {k : zKo} {bc bs : Nat} {ls : zLs} {st : List zV} {H : zH} (x y : Int) : zins J C sc xs L Q (.imul) k bc bs ls (Sum.inl y :: Sum.inl x :: st) H = (z32 (x * y) ∧ k bc bs ls (Sum.inl (x * y) :: st) (H)) := rfl
theorem zx_idiv {J : zJt} {C : zCt} {sc : Bool} {xs : Nat → Int} {L : Nat} {Q : zQ} {k : zKo} {bc bs : Nat} {ls : zLs} {st : List zV} {H : zH} (x y : Int) : zins J C sc xs L Q (.idiv) k bc bs ls (Sum.inl y :: Sum.inl x :: st) H = (y ≠ 0 ∧ z32 (x.tdiv y) ∧ k bc bs ls (Sum.inl (x.tdiv y) :: st) (H)) := rfl
theorem zx_irem {J : zJt} {C : zCt} {sc : Bool} {xs : Nat → Int} {L : Nat} {Q : zQ} {k : zKo} {bc bs : Nat} {ls : zLs} {st : List zV} {H : zH} (x y : Int) : zins J C sc xs L Q (.irem) k bc bs ls (Sum.inl y :: Sum.inl x :: st) H = (y ≠ 0 ∧ k bc bs ls (Sum.inl (x.tmod y) :: st) (H)) := rfl
theorem zx_iand {J : zJt} {C : zCt} {sc : Bool} {xs : Nat → Int} {L : Nat} {Q : zQ} {k : zKo} {bc bs : Nat} {ls : zLs} {st : List zV} {H : zH} (x y : Int) : zins J C sc xs L Q (.iand) k bc bs ls (Sum.inl y :: Sum.inl x :: st) H = (k bc bs ls (Sum.inl (zand x y) :: st) (H)) := rfl
theorem zx_ior {J : zJt} {C : zCt} {sc : Bool} {xs : Nat → Int} {L : Nat} {Q : zQ} {k : zKo} {bc bs : Nat} {ls : zLs} {st : List zV} {H : zH} (x y : Int) : zins J C sc xs L Q (.ior) k bc bs ls (Sum.inl y :: Sum.inl x :: st) H = (k bc bs ls (Sum.inl (zor x y) :: st) (H)) := rfl
theorem zx_ixor {J : zJt} {C : zCt} {sc : Bool} {xs : Nat → Int} {L : Nat} {Q : zQ} {k : zKo} {bc bs : Nat} {ls : zLs} {st : List zV} {H : zH} (x y : Int) : zins J C sc xs L Q (.ixor) k bc bs ls (Sum.inl y :: Sum.inl x :: st) H = (k bc bs ls (Sum.inl (zxor x y) :: st) (H)) := rfl
theorem zx_ishl {J : zJt} {C : zCt} {sc : Bool} {xs : Nat → Int} {L : Nat} {Q : zQ} {k : zKo} {bc bs : Nat} {ls : zLs} {st : List zV} {H : zH} (x y : Int) : zins J C sc xs L Q (.ishl) k bc bs ls (Sum.inl y :: Sum.inl x :: st) H = (k bc bs ls (Sum.inl (zshl x y) :: st) (H)) := rfl
theorem zx_ishr {J : zJt} {C : zCt} {sc : Bool} {xs : Nat → Int} {L : Nat} {Q : zQ} {k : zKo} {bc bs : Nat} {ls : zLs} {st : List zV} {H : zH} (x y : Int) : zins J C sc xs L Q (.ishr) k bc bs ls (Sum.inl y :: Sum.inl x :: st) H = (k bc bs ls (Sum.inl (zshr x y) :: st) (H)) := rfl
theorem zx_iushr {J : zJt} {C : zCt} {sc : Bool} {xs : Nat → Int} {L : Nat} {Q : zQ} {k : zKo} {bc bs : Nat} {ls : zLs} {st : List zV} {H : zH} (x y : Int) : zins J C sc xs L Q (.iushr) k bc bs ls (Sum.inl y :: Sum.inl x :: st) H = (k bc bs ls (Sum.inl (zushr x y) :: st) (H)) := rfl
theorem zx_i2b {J : zJt} {C : zCt} {sc : Bool} {xs : Nat → Int} {L : Nat} {Q : zQ} {k : zKo} {bc bs : Nat} {ls : zLs} {st : List zV} {H : zH} (x : Int) : zins J C sc xs L Q (.i2b) k bc bs ls (Sum.inl x :: st) H = (k bc bs ls (Sum.inl (zi2b x) :: st) (H)) := rfl
theorem zx_i2l {J : zJt} {C : zCt} {sc : Bool} {xs : Nat → Int} {L : Nat} {Q : zQ} {k : zKo} {bc bs : Nat} {ls : zLs} {st : List zV} {H : zH} (x : Int) : zins J C sc xs L Q (.i2l) k bc bs ls (Sum.inl x :: st) H = (k bc bs ls (Sum.inr (Sum.inl x) :: st) (H)) := rfl
theorem zx_l2i {J : zJt} {C : zCt} {sc : Bool} {xs : Nat → Int} {L : Nat} {Q : zQ} {k : zKo} {bc bs : Nat} {ls : zLs} {st : List zV} {H : zH} (x : Int) : zins J C sc xs L Q (.l2i) k bc bs ls (Sum.inr (Sum.inl x) :: st) H = (z32 x ∧ k bc bs ls (Sum.inl x :: st) (H)) := rfl
theorem zx_ladd {J : zJt} {C : zCt} {sc : Bool} {xs : Nat → Int} {L : Nat} {Q : zQ} {k : zKo} {bc bs : Nat} {ls : zLs} {st : List zV} {H : zH} (x y : Int) : zins J C sc xs L Q (.ladd) k bc bs ls (Sum.inr (Sum.inl y) :: Sum.inr (Sum.inl x) :: st) H = (z64 (x + y) ∧ k bc bs ls (Sum.inr (Sum.inl (x + y)) :: st) (H)) := rfl
theorem zx_lmul {J : zJt} {C : zCt} {sc : Bool} {xs : Nat → Int} {L : Nat} {Q : zQ} {k : zKo} {bc bs : Nat} {ls : zLs} {st : List zV} {H : zH} (x y : Int) : zins J C sc xs L Q (.lmul) k bc bs ls (Sum.inr (Sum.inl y) :: Sum.inr (Sum.inl x) :: st) H = (z64 (x * y) ∧ k bc bs ls (Sum.inr (Sum.inl (x * y)) :: st) (H)) := rfl
theorem zx_ldiv {J : zJt} {C : zCt} {sc : Bool} {xs : Nat → Int} {L : Nat} {Q : zQ} {k : zKo} {bc bs : Nat} {ls : zLs} {st : List zV} {H : zH} (x y : Int) : zins J C sc xs L Q (.ldiv) k bc bs ls (Sum.inr (Sum.inl y) :: Sum.inr (Sum.inl x) :: st) H = (y ≠ 0 ∧ z64 (x.tdiv y) ∧ k bc bs ls (Sum.inr (Sum.inl (x.tdiv y)) :: st) (H)) := rfl
theorem zx_lrem {J : zJt} {C : zCt} {sc : Bool} {xs : Nat → Int} {L : Nat} {Q : zQ} {k : zKo} {bc bs : Nat} {ls : zLs} {st : List zV} {H : zH} (x y : Int) : zins J C sc xs L Q (.lrem) k bc bs ls (Sum.inr (Sum.inl y) :: Sum.inr (Sum.inl x) :: st) H = (y ≠ 0 ∧ k bc bs ls (Sum.inr (Sum.inl (x.tmod y)) :: st) (H)) := rfl
theorem zx_land {J : zJt} {C : zCt} {sc : Bool} {xs : Nat → Int} {L : Nat} {Q : zQ} {k : zKo} {bc bs : Nat} {ls : zLs} {st : List zV} {H : zH} (x y : Int) : zins J C sc xs L Q (.land) k bc bs ls (Sum.inr (Sum.inl y) :: Sum.inr (Sum.inl x) :: st) H = (k bc bs ls (Sum.inr (Sum.inl (zland x y)) :: st) (H)) := rfl
theorem zx_lor {J : zJt} {C : zCt} {sc : Bool} {xs : Nat → Int} {L : Nat} {Q : zQ} {k : zKo} {bc bs : Nat} {ls : zLs} {st : List zV} {H : zH} (x y : Int) : zins J C sc xs L Q (.lor) k bc bs ls (Sum.inr (Sum.inl y) :: Sum.inr (Sum.inl x) :: st) H = (k bc bs ls (Sum.inr (Sum.inl (zlor x y)) :: st) (H)) := rfl
theorem zx_lshl {J : zJt} {C : zCt} {sc : Bool} {xs : Nat → Int} {L : Nat} {Q : zQ} {k : zKo} {bc bs : Nat} {ls : zLs} {st : List zV} {H : zH} (x y : Int) : zins J C sc xs L Q (.lshl) k bc bs ls (Sum.inl y :: Sum.inr (Sum.inl x) :: st) H = (k bc bs ls (Sum.inr (Sum.inl (zlshl x y)) :: st) (H)) := rfl
theorem zx_lshr {J : zJt} {C : zCt} {sc : Bool} {xs : Nat → Int} {L : Nat} {Q : zQ} {k : zKo} {bc bs : Nat} {ls : zLs} {st : List zV} {H : zH} (x y : Int) : zins J C sc xs L Q (.lshr) k bc bs ls (Sum.inl y :: Sum.inr (Sum.inl x) :: st) H = (k bc bs ls (Sum.inr (Sum.inl (zlshr x y)) :: st) (H)) := rfl
theorem zx_lcmp {J : zJt} {C : zCt} {sc : Bool} {xs : Nat → Int} {L : Nat} {Q : zQ} {k : zKo} {bc bs : Nat} {ls : zLs} {st : List zV} {H : zH} (x y : Int) : zins J C sc xs L Q (.lcmp) k bc bs ls (Sum.inr (Sum.inl y) :: Sum.inr (Sum.inl x) :: st) H = (k bc bs ls (Sum.inl (zlcm x y) :: st) (H)) := rfl
theorem zx_dupi {J : zJt} {C : zCt} {sc : Bool} {xs : Nat → Int} {L : Nat} {Q : zQ} {k : zKo} {bc bs : Nat} {ls : zLs} {st : List zV} {H : zH} (x : Int) : zins J C sc xs L Q (.dup) k bc bs ls (Sum.inl x :: st) H = (k bc bs ls (Sum.inl x :: Sum.inl x :: st) (H)) := rfl
theorem zx_dupr {J : zJt} {C : zCt} {sc : Bool} {xs : Nat → Int} {L : Nat} {Q : zQ} {k : zKo} {bc bs : Nat} {ls : zLs} {st : List zV} {H : zH} (r : Option Nat) : zins J C sc xs L Q (.dup) k bc bs ls (Sum.inr (Sum.inr r) :: st) H = (k bc bs ls (Sum.inr (Sum.inr r) :: Sum.inr (Sum.inr r) :: st) (H)) := rfl
theorem zx_dup2l {J : zJt} {C : zCt} {sc : Bool} {xs : Nat → Int} {L : Nat} {Q : zQ} {k : zKo} {bc bs : Nat} {ls : zLs} {st : List zV} {H : zH} (x : Int) : zins J C sc xs L Q (.dup2) k bc bs ls (Sum.inr (Sum.inl x) :: st) H = (k bc bs ls (Sum.inr (Sum.inl x) :: Sum.inr (Sum.inl x) :: st) (H)) := rfl
theorem zx_dup2i {J : zJt} {C : zCt} {sc : Bool} {xs : Nat → Int} {L : Nat} {Q : zQ} {k : zKo} {bc bs : Nat} {ls : zLs} {st : List zV} {H : zH} (y : Int) (r : Option Nat) : zins J C sc xs L Q (.dup2) k bc bs ls (Sum.inl y :: Sum.inr (Sum.inr r) :: st) H = (k bc bs ls (Sum.inl y :: Sum.inr (Sum.inr r) :: Sum.inl y :: Sum.inr (Sum.inr r) :: st) (H)) := rfl
theorem zx_pop {J : zJt} {C : zCt} {sc : Bool} {xs : Nat → Int} {L : Nat} {Q : zQ} {k : zKo} {bc bs : Nat} {ls : zLs} {st : List zV} {H : zH} (x : Int) : zins J C sc xs L Q (.pop) k bc bs ls (Sum.inl x :: st) H = (k bc bs ls (st) (H)) := rfl
theorem zx_ifc {J : zJt} {C : zCt} {sc : Bool} {xs : Nat → Int} {L : Nat} {Q : zQ} {k : zKo} {bc bs : Nat} {ls : zLs} {st : List zV} {H : zH} (c : ClassFile.Cond) (t x : Int) : zins J C sc xs L Q (.ifCond c t) k bc bs ls (Sum.inl x :: st) H = (zbr (zcn c x 0) (J t.toNat bc bs ls (st) H) (k bc bs ls (st) (H))) := rfl
theorem zx_icmp {J : zJt} {C : zCt} {sc : Bool} {xs : Nat → Int} {L : Nat} {Q : zQ} {k : zKo} {bc bs : Nat} {ls : zLs} {st : List zV} {H : zH} (c : ClassFile.Cond) (t x y : Int) : zins J C sc xs L Q (.if_icmp c t) k bc bs ls (Sum.inl y :: Sum.inl x :: st) H = (zbr (zcn c x y) (J t.toNat bc bs ls (st) H) (k bc bs ls (st) (H))) := rfl
theorem zx_ifnullN {J : zJt} {C : zCt} {sc : Bool} {xs : Nat → Int} {L : Nat} {Q : zQ} {k : zKo} {bc bs : Nat} {ls : zLs} {st : List zV} {H : zH} (t : Int) : zins J C sc xs L Q (.ifnull t) k bc bs ls (Sum.inr (Sum.inr none) :: st) H = (J t.toNat bc bs ls (st) H) := rfl
theorem zx_ifnullS {J : zJt} {C : zCt} {sc : Bool} {xs : Nat → Int} {L : Nat} {Q : zQ} {k : zKo} {bc bs : Nat} {ls : zLs} {st : List zV} {H : zH} (t : Int) (a : Nat) : zins J C sc xs L Q (.ifnull t) k bc bs ls (Sum.inr (Sum.inr (some a)) :: st) H = (k bc bs ls (st) (H)) := rfl
theorem zx_ifnonN {J : zJt} {C : zCt} {sc : Bool} {xs : Nat → Int} {L : Nat} {Q : zQ} {k : zKo} {bc bs : Nat} {ls : zLs} {st : List zV} {H : zH} (t : Int) : zins J C sc xs L Q (.ifnonnull t) k bc bs ls (Sum.inr (Sum.inr none) :: st) H = (k bc bs ls (st) (H)) := rfl
theorem zx_ifnonS {J : zJt} {C : zCt} {sc : Bool} {xs : Nat → Int} {L : Nat} {Q : zQ} {k : zKo} {bc bs : Nat} {ls : zLs} {st : List zV} {H : zH} (t : Int) (a : Nat) : zins J C sc xs L Q (.ifnonnull t) k bc bs ls (Sum.inr (Sum.inr (some a)) :: st) H = (J t.toNat bc bs ls (st) H) := rfl
theorem zx_goto {J : zJt} {C : zCt} {sc : Bool} {xs : Nat → Int} {L : Nat} {Q : zQ} {k : zKo} {bc bs : Nat} {ls : zLs} {st : List zV} {H : zH} (t : Int) : zins J C sc xs L Q (.goto t) k bc bs ls st H = (J t.toNat bc bs ls (st) H) := rfl
theorem zx_gotow {J : zJt} {C : zCt} {sc : Bool} {xs : Nat → Int} {L : Nat} {Q : zQ} {k : zKo} {bc bs : Nat} {ls : zLs} {st : List zV} {H : zH} (t : Int) : zins J C sc xs L Q (.goto_w t) k bc bs ls st H = (J t.toNat bc bs ls (st) H) := rfl
theorem zx_switch {J : zJt} {C : zCt} {sc : Bool} {xs : Nat → Int} {L : Nat} {Q : zQ} {k : zKo} {bc bs : Nat} {ls : zLs} {st : List zV} {H : zH} (d lo hi : Int) (offs : Array Int) (x : Int) : zins J C sc xs L Q (.tableswitch d lo hi offs) k bc bs ls (Sum.inl x :: st) H = (J (zsw d lo hi offs x).toNat bc bs ls st H) := rfl
theorem zx_iaload {J : zJt} {C : zCt} {xs : Nat → Int} {L : Nat} {Q : zQ} {k : zKo} {bc bs : Nat} {ls : zLs} {st : List zV} {H : zH} (i : Int) (a : Nat) : zins J C false xs L Q .iaload k bc bs ls (Sum.inl i :: Sum.inr (Sum.inr (some a)) :: st) H = (zK H a = 100 ∧ 0 ≤ i ∧ i < zN H a ∧ k bc bs ls (Sum.inl (zA H a i.toNat) :: st) (H)) := by simp [zins]
theorem zx_baload {J : zJt} {C : zCt} {sc : Bool} {xs : Nat → Int} {L : Nat} {Q : zQ} {k : zKo} {bc bs : Nat} {ls : zLs} {st : List zV} {H : zH} (i : Int) (a : Nat) : zins J C sc xs L Q (.baload) k bc bs ls (Sum.inl i :: Sum.inr (Sum.inr (some a)) :: st) H = ((zK H a = 101 ∨ zK H a = 102) ∧ 0 ≤ i ∧ i < zN H a ∧ k bc bs ls (Sum.inl (zA H a i.toNat) :: st) (H)) := rfl
theorem zx_laload {J : zJt} {C : zCt} {sc : Bool} {xs : Nat → Int} {L : Nat} {Q : zQ} {k : zKo} {bc bs : Nat} {ls : zLs} {st : List zV} {H : zH} (i : Int) (a : Nat) : zins J C sc xs L Q (.laload) k bc bs ls (Sum.inl i :: Sum.inr (Sum.inr (some a)) :: st) H = (zK H a = 103 ∧ 0 ≤ i ∧ i < zN H a ∧ k bc bs ls (Sum.inr (Sum.inl (zA H a i.toNat)) :: st) (H)) := rfl
theorem zx_aaload {J : zJt} {C : zCt} {sc : Bool} {xs : Nat → Int} {L : Nat} {Q : zQ} {k : zKo} {bc bs : Nat} {ls : zLs} {st : List zV} {H : zH} (i : Int) (a : Nat) : zins J C sc xs L Q (.aaload) k bc bs ls (Sum.inl i :: Sum.inr (Sum.inr (some a)) :: st) H = (zK H a = 104 ∧ 0 ≤ i ∧ i < zN H a ∧ k bc bs ls (Sum.inr (Sum.inr (zR H a i.toNat)) :: st) (H)) := rfl
theorem zx_iastore {J : zJt} {C : zCt} {sc : Bool} {xs : Nat → Int} {L : Nat} {Q : zQ} {k : zKo} {bc bs : Nat} {ls : zLs} {st : List zV} {H : zH} (x i : Int) (a : Nat) : zins J C sc xs L Q (.iastore) k bc bs ls (Sum.inl x :: Sum.inl i :: Sum.inr (Sum.inr (some a)) :: st) H = (zK H a = 100 ∧ 0 ≤ i ∧ i < zN H a ∧ k bc bs ls (st) (zwA H a i.toNat x)) := rfl
theorem zx_bastore {J : zJt} {C : zCt} {sc : Bool} {xs : Nat → Int} {L : Nat} {Q : zQ} {k : zKo} {bc bs : Nat} {ls : zLs} {st : List zV} {H : zH} (x i : Int) (a : Nat) : zins J C sc xs L Q (.bastore) k bc bs ls (Sum.inl x :: Sum.inl i :: Sum.inr (Sum.inr (some a)) :: st) H = (((zK H a = 101 ∧ -128 ≤ x ∧ x ≤ 127) ∨ (zK H a = 102 ∧ 0 ≤ x ∧ x ≤ 1)) ∧ 0 ≤ i ∧ i < zN H a ∧ k bc bs ls (st) (zwA H a i.toNat x)) := rfl
theorem zx_lastore {J : zJt} {C : zCt} {sc : Bool} {xs : Nat → Int} {L : Nat} {Q : zQ} {k : zKo} {bc bs : Nat} {ls : zLs} {st : List zV} {H : zH} (x i : Int) (a : Nat) : zins J C sc xs L Q (.lastore) k bc bs ls (Sum.inr (Sum.inl x) :: Sum.inl i :: Sum.inr (Sum.inr (some a)) :: st) H = (zK H a = 103 ∧ 0 ≤ i ∧ i < zN H a ∧ k bc bs ls (st) (zwA H a i.toNat x)) := rfl
theorem zx_aastore {J : zJt} {C : zCt} {sc : Bool} {xs : Nat → Int} {L : Nat} {Q : zQ} {k : zKo} {bc bs : Nat} {ls : zLs} {st : List zV} {H : zH} (v : Nat) (i : Int) (a : Nat) : zins J C sc xs L Q (.aastore) k bc bs ls (Sum.inr (Sum.inr (some v)) :: Sum.inl i :: Sum.inr (Sum.inr (some a)) :: st) H = (zK H a = 104 ∧ zK H v = 5 ∧ 0 ≤ i ∧ i < zN H a ∧ k bc bs ls (st) (zwR H a i.toNat (some v))) := rfl
theorem zx_alen {J : zJt} {C : zCt} {xs : Nat → Int} {L : Nat} {Q : zQ} {k : zKo} {bc bs : Nat} {ls : zLs} {st : List zV} {H : zH} (a : Nat) : zins J C false xs L Q .arraylength k bc bs ls (Sum.inr (Sum.inr (some a)) :: st) H = ((100 ≤ zK H a ∧ zK H a ≤ 103) ∧ k bc bs ls (Sum.inl ((zN H a : Nat) : Int) :: st) (H)) := by simp [zins]
theorem zx_newarray {J : zJt} {C : zCt} {sc : Bool} {xs : Nat → Int} {L : Nat} {Q : zQ} {k : zKo} {bc bs : Nat} {ls : zLs} {st : List zV} {H : zH} (t : ArrayType) (n : Int) : zins J C sc xs L Q (.newarray t) k bc bs ls (Sum.inl n :: st) H = (0 ≤ n ∧ n ≤ 1000000 ∧ 1 ≤ bc ∧ n ≤ bs ∧ k (bc - 1) (bs - n.toNat) ls (Sum.inr (Sum.inr (some (zS H))) :: st) (znw H (zaty t) n.toNat)) := rfl
theorem zx_anewarray {J : zJt} {C : zCt} {sc : Bool} {xs : Nat → Int} {L : Nat} {Q : zQ} {k : zKo} {bc bs : Nat} {ls : zLs} {st : List zV} {H : zH} (q : Nat) (n : Int) : zins J C sc xs L Q (.anewarray q) k bc bs ls (Sum.inl n :: st) H = (0 ≤ n ∧ n ≤ 1000000 ∧ 1 ≤ bc ∧ n ≤ bs ∧ k (bc - 1) (bs - n.toNat) ls (Sum.inr (Sum.inr (some (zS H))) :: st) (znw H 104 n.toNat)) := rfl
theorem zx_new {J : zJt} {C : zCt} {sc : Bool} {xs : Nat → Int} {L : Nat} {Q : zQ} {k : zKo} {bc bs : Nat} {ls : zLs} {st : List zV} {H : zH} (n : Nat) : zins J C sc xs L Q (.new n) k bc bs ls st H = (1 ≤ bc ∧ znf (n % 16) ≤ bs ∧ k (bc - 1) (bs - znf (n % 16)) ls (Sum.inr (Sum.inr (some (zS H))) :: st) (znw H (n % 16) (znf (n % 16)))) := rfl
theorem zx_getI {J : zJt} {C : zCt} {sc : Bool} {xs : Nat → Int} {L : Nat} {Q : zQ} {k : zKo} {bc bs : Nat} {ls : zLs} {st : List zV} {H : zH} (n a : Nat) : zins J C sc xs L Q (.getfield n) k bc bs ls (Sum.inr (Sum.inr (some a)) :: st) H = (zK H a = n / 128 % 16 ∧ k bc bs ls (Sum.inl (zA H a (n % 128)) :: st) (H)) := rfl
theorem zx_getL {J : zJt} {C : zCt} {sc : Bool} {xs : Nat → Int} {L : Nat} {Q : zQ} {k : zKo} {bc bs : Nat} {ls : zLs} {st : List zV} {H : zH} (n a : Nat) : zins J C sc xs L Q (.instanceof n) k bc bs ls (Sum.inr (Sum.inr (some a)) :: st) H = (zK H a = n / 128 % 16 ∧ k bc bs ls (Sum.inr (Sum.inl (zA H a (n % 128))) :: st) (H)) := rfl
theorem zx_getR {J : zJt} {C : zCt} {sc : Bool} {xs : Nat → Int} {L : Nat} {Q : zQ} {k : zKo} {bc bs : Nat} {ls : zLs} {st : List zV} {H : zH} (n a : Nat) : zins J C sc xs L Q (.getstatic n) k bc bs ls (Sum.inr (Sum.inr (some a)) :: st) H = (zK H a = n / 128 % 16 ∧ k bc bs ls (Sum.inr (Sum.inr (zR H a (n % 128))) :: st) (H)) := rfl
theorem zx_putI {J : zJt} {C : zCt} {sc : Bool} {xs : Nat → Int} {L : Nat} {Q : zQ} {k : zKo} {bc bs : Nat} {ls : zLs} {st : List zV} {H : zH} (n a : Nat) (x : Int) : zins J C sc xs L Q (.putfield n) k bc bs ls (Sum.inl x :: Sum.inr (Sum.inr (some a)) :: st) H = (zK H a = n / 128 % 16 ∧ k bc bs ls (st) (zwA H a (n % 128) x)) := rfl
theorem zx_putZ {J : zJt} {C : zCt} {sc : Bool} {xs : Nat → Int} {L : Nat} {Q : zQ} {k : zKo} {bc bs : Nat} {ls : zLs} {st : List zV} {H : zH} (n a : Nat) (x : Int) : zins J C sc xs L Q (.invokedynamic n) k bc bs ls (Sum.inl x :: Sum.inr (Sum.inr (some a)) :: st) H = (zK H a = n / 128 % 16 ∧ 0 ≤ x ∧ x ≤ 1 ∧ k bc bs ls (st) (zwA H a (n % 128) x)) := rfl
theorem zx_putL {J : zJt} {C : zCt} {sc : Bool} {xs : Nat → Int} {L : Nat} {Q : zQ} {k : zKo} {bc bs : Nat} {ls : zLs} {st : List zV} {H : zH} (n a : Nat) (x : Int) : zins J C sc xs L Q (.checkcast n) k bc bs ls (Sum.inr (Sum.inl x) :: Sum.inr (Sum.inr (some a)) :: st) H = (zK H a = n / 128 % 16 ∧ k bc bs ls (st) (zwA H a (n % 128) x)) := rfl
theorem zx_putR {J : zJt} {C : zCt} {sc : Bool} {xs : Nat → Int} {L : Nat} {Q : zQ} {k : zKo} {bc bs : Nat} {ls : zLs} {st : List zV} {H : zH} (n a : Nat) (r : Option Nat) : zins J C sc xs L Q (.putstatic n) k bc bs ls (Sum.inr (Sum.inr r) :: Sum.inr (Sum.inr (some a)) :: st) H = (zK H a = n / 128 % 16 ∧ k bc bs ls (st) (zwR H a (n % 128) r)) := rfl
theorem zx_callS {J : zJt} {C : zCt} {sc : Bool} {xs : Nat → Int} {L : Nat} {Q : zQ} {k : zKo} {bc bs : Nat} {ls : zLs} {st : List zV} {H : zH} (n kk : Nat) : zins J C sc xs L Q (.invokeinterface n kk) k bc bs ls st H = (zcal C 0 0 (n % 512) (kk / 64) (kk / 16 % 4) (kk % 16) false (k bc bs ls) st H) := rfl
theorem zx_callV {J : zJt} {C : zCt} {sc : Bool} {xs : Nat → Int} {L : Nat} {Q : zQ} {k : zKo} {bc bs : Nat} {ls : zLs} {st : List zV} {H : zH} (n kk : Nat) : zins J C sc xs L Q (.multianewarray n kk) k bc bs ls st H = (zcal C 0 0 (n % 512) (kk / 64) (kk / 16 % 4) (kk % 16) true (k bc bs ls) st H) := rfl
theorem zx_objinit {J : zJt} {C : zCt} {sc : Bool} {xs : Nat → Int} {L : Nat} {Q : zQ} {k : zKo} {bc bs : Nat} {ls : zLs} {st : List zV} {H : zH} (n a : Nat) : zins J C sc xs L Q (.ret n) k bc bs ls (Sum.inr (Sum.inr (some a)) :: st) H = (st.length ≤ 4 ∧ k bc bs ls (st) (H)) := rfl
theorem zx_cpyi {J : zJt} {C : zCt} {sc : Bool} {xs : Nat → Int} {L : Nat} {Q : zQ} {k : zKo} {bc bs : Nat} {ls : zLs} {st : List zV} {H : zH} (q : Nat) (n dp sp : Int) (b a : Nat) : zins J C sc xs L Q (.dstore q) k bc bs ls (Sum.inl n :: Sum.inl dp :: Sum.inr (Sum.inr (some b)) :: Sum.inl sp :: Sum.inr (Sum.inr (some a)) :: st) H = (zK H a = 100 ∧ zK H b = 100 ∧ 0 ≤ sp ∧ 0 ≤ dp ∧ 0 ≤ n ∧ sp + n ≤ zN H a ∧ dp + n ≤ zN H b ∧ st.length ≤ 4 ∧ k bc bs ls (st) (zcp H a sp.toNat b dp.toNat n.toNat)) := rfl
theorem zx_cpyl {J : zJt} {C : zCt} {sc : Bool} {xs : Nat → Int} {L : Nat} {Q : zQ} {k : zKo} {bc bs : Nat} {ls : zLs} {st : List zV} {H : zH} (q : Nat) (n dp sp : Int) (b a : Nat) : zins J C sc xs L Q (.fstore q) k bc bs ls (Sum.inl n :: Sum.inl dp :: Sum.inr (Sum.inr (some b)) :: Sum.inl sp :: Sum.inr (Sum.inr (some a)) :: st) H = (zK H a = 103 ∧ zK H b = 103 ∧ 0 ≤ sp ∧ 0 ≤ dp ∧ 0 ≤ n ∧ sp + n ≤ zN H a ∧ dp + n ≤ zN H b ∧ st.length ≤ 4 ∧ k bc bs ls (st) (zcp H a sp.toNat b dp.toNat n.toNat)) := rfl
theorem zx_mmax {J : zJt} {C : zCt} {sc : Bool} {xs : Nat → Int} {L : Nat} {Q : zQ} {k : zKo} {bc bs : Nat} {ls : zLs} {st : List zV} {H : zH} (q : Nat) (x y : Int) : zins J C sc xs L Q (.fload q) k bc bs ls (Sum.inl y :: Sum.inl x :: st) H = (st.length ≤ 4 ∧ k bc bs ls (Sum.inl (if x < y then y else x) :: st) (H)) := rfl
theorem zx_mmin {J : zJt} {C : zCt} {sc : Bool} {xs : Nat → Int} {L : Nat} {Q : zQ} {k : zKo} {bc bs : Nat} {ls : zLs} {st : List zV} {H : zH} (q : Nat) (x y : Int) : zins J C sc xs L Q (.dload q) k bc bs ls (Sum.inl y :: Sum.inl x :: st) H = (st.length ≤ 4 ∧ k bc bs ls (Sum.inl (if y < x then y else x) :: st) (H)) := rfl
theorem zx_mminl {J : zJt} {C : zCt} {sc : Bool} {xs : Nat → Int} {L : Nat} {Q : zQ} {k : zKo} {bc bs : Nat} {ls : zLs} {st : List zV} {H : zH} (q x y : Int) : zins J C sc xs L Q (.bipush q) k bc bs ls (Sum.inr (Sum.inl y) :: Sum.inr (Sum.inl x) :: st) H = (st.length ≤ 4 ∧ k bc bs ls (Sum.inr (Sum.inl (if y < x then y else x)) :: st) (H)) := rfl
theorem zx_ireturn {J : zJt} {C : zCt} {sc : Bool} {xs : Nat → Int} {L : Nat} {Q : zQ} {k : zKo} {bc bs : Nat} {ls : zLs} {st : List zV} {H : zH} (x : Int) : zins J C sc xs L Q (.ireturn) k bc bs ls [Sum.inl x] H = (Q x H) := rfl
theorem zx_areturn {J : zJt} {C : zCt} {sc : Bool} {xs : Nat → Int} {L : Nat} {Q : zQ} {k : zKo} {bc bs : Nat} {ls : zLs} {st : List zV} {H : zH} (x : Int) : zins J C sc xs L Q (.areturn) k bc bs ls [Sum.inl x] H = (0 ≤ x ∧ x ≤ 1 ∧ Q x H) := rfl
theorem zx_lreturn {J : zJt} {C : zCt} {sc : Bool} {xs : Nat → Int} {L : Nat} {Q : zQ} {k : zKo} {bc bs : Nat} {ls : zLs} {st : List zV} {H : zH} (x : Int) : zins J C sc xs L Q (.lreturn) k bc bs ls [Sum.inr (Sum.inl x)] H = (Q x H) := rfl
theorem zx_return {J : zJt} {C : zCt} {sc : Bool} {xs : Nat → Int} {L : Nat} {Q : zQ} {k : zKo} {bc bs : Nat} {ls : zLs} {st : List zV} {H : zH}  : zins J C sc xs L Q (.return_) k bc bs ls [] H = (Q 0 H) := rfl
theorem zcs_0 {C : zCt} {b1 b2 m rk ci : Nat} {k : List zV → zH → Prop} {st : List zV} {H : zH}  : zcal C b1 b2 m 0 rk ci false k (st) H = (st.length ≤ 4 ∧ C b1 b2 m [] H (fun r H' => k (zpu rk r ++ st) H')) := by
  simp [zcal]
theorem zcs_1 {C : zCt} {b1 b2 m rk ci : Nat} {k : List zV → zH → Prop} {st : List zV} {H : zH} (v0 : zV) : zcal C b1 b2 m 1 rk ci false k (v0 :: st) H = (st.length ≤ 4 ∧ C b1 b2 m [v0] H (fun r H' => k (zpu rk r ++ st) H')) := by
  simp [zcal]
theorem zcv_1 {C : zCt} {b1 b2 m rk ci : Nat} {k : List zV → zH → Prop} {st : List zV} {H : zH}  (a : Nat) : zcal C b1 b2 m 1 rk ci true k (Sum.inr (Sum.inr (some a)) :: st) H = (st.length ≤ 4 ∧ zK H a = ci ∧ C b1 b2 m [Sum.inr (Sum.inr (some a))] H (fun r H' => k (zpu rk r ++ st) H')) := by
  simp [zcal]
theorem zcs_2 {C : zCt} {b1 b2 m rk ci : Nat} {k : List zV → zH → Prop} {st : List zV} {H : zH} (v0 v1 : zV) : zcal C b1 b2 m 2 rk ci false k (v1 :: v0 :: st) H = (st.length ≤ 4 ∧ C b1 b2 m [v0, v1] H (fun r H' => k (zpu rk r ++ st) H')) := by
  simp [zcal]
theorem zcv_2 {C : zCt} {b1 b2 m rk ci : Nat} {k : List zV → zH → Prop} {st : List zV} {H : zH} (v1 : zV) (a : Nat) : zcal C b1 b2 m 2 rk ci true k (v1 :: Sum.inr (Sum.inr (some a)) :: st) H = (st.length ≤ 4 ∧ zK H a = ci ∧ C b1 b2 m [Sum.inr (Sum.inr (some a)), v1] H (fun r H' => k (zpu rk r ++ st) H')) := by
  simp [zcal]
theorem zcs_3 {C : zCt} {b1 b2 m rk ci : Nat} {k : List zV → zH → Prop} {st : List zV} {H : zH} (v0 v1 v2 : zV) : zcal C b1 b2 m 3 rk ci false k (v2 :: v1 :: v0 :: st) H = (st.length ≤ 4 ∧ C b1 b2 m [v0, v1, v2] H (fun r H' => k (zpu rk r ++ st) H')) := by
  simp [zcal]
theorem zcv_3 {C : zCt} {b1 b2 m rk ci : Nat} {k : List zV → zH → Prop} {st : List zV} {H : zH} (v1 v2 : zV) (a : Nat) : zcal C b1 b2 m 3 rk ci true k (v2 :: v1 :: Sum.inr (Sum.inr (some a)) :: st) H = (st.length ≤ 4 ∧ zK H a = ci ∧ C b1 b2 m [Sum.inr (Sum.inr (some a)), v1, v2] H (fun r H' => k (zpu rk r ++ st) H')) := by
  simp [zcal]
theorem zcs_4 {C : zCt} {b1 b2 m rk ci : Nat} {k : List zV → zH → Prop} {st : List zV} {H : zH} (v0 v1 v2 v3 : zV) : zcal C b1 b2 m 4 rk ci false k (v3 :: v2 :: v1 :: v0 :: st) H = (st.length ≤ 4 ∧ C b1 b2 m [v0, v1, v2, v3] H (fun r H' => k (zpu rk r ++ st) H')) := by
  simp [zcal]
theorem zcv_4 {C : zCt} {b1 b2 m rk ci : Nat} {k : List zV → zH → Prop} {st : List zV} {H : zH} (v1 v2 v3 : zV) (a : Nat) : zcal C b1 b2 m 4 rk ci true k (v3 :: v2 :: v1 :: Sum.inr (Sum.inr (some a)) :: st) H = (st.length ≤ 4 ∧ zK H a = ci ∧ C b1 b2 m [Sum.inr (Sum.inr (some a)), v1, v2, v3] H (fun r H' => k (zpu rk r ++ st) H')) := by
  simp [zcal]
theorem zcs_5 {C : zCt} {b1 b2 m rk ci : Nat} {k : List zV → zH → Prop} {st : List zV} {H : zH} (v0 v1 v2 v3 v4 : zV) : zcal C b1 b2 m 5 rk ci false k (v4 :: v3 :: v2 :: v1 :: v0 :: st) H = (st.length ≤ 4 ∧ C b1 b2 m [v0, v1, v2, v3, v4] H (fun r H' => k (zpu rk r ++ st) H')) := by
  simp [zcal]
theorem zcv_5 {C : zCt} {b1 b2 m rk ci : Nat} {k : List zV → zH → Prop} {st : List zV} {H : zH} (v1 v2 v3 v4 : zV) (a : Nat) : zcal C b1 b2 m 5 rk ci true k (v4 :: v3 :: v2 :: v1 :: Sum.inr (Sum.inr (some a)) :: st) H = (st.length ≤ 4 ∧ zK H a = ci ∧ C b1 b2 m [Sum.inr (Sum.inr (some a)), v1, v2, v3, v4] H (fun r H' => k (zpu rk r ++ st) H')) := by
  simp [zcal]
theorem zcs_6 {C : zCt} {b1 b2 m rk ci : Nat} {k : List zV → zH → Prop} {st : List zV} {H : zH} (v0 v1 v2 v3 v4 v5 : zV) : zcal C b1 b2 m 6 rk ci false k (v5 :: v4 :: v3 :: v2 :: v1 :: v0 :: st) H = (st.length ≤ 4 ∧ C b1 b2 m [v0, v1, v2, v3, v4, v5] H (fun r H' => k (zpu rk r ++ st) H')) := by
  simp [zcal]
theorem zcv_6 {C : zCt} {b1 b2 m rk ci : Nat} {k : List zV → zH → Prop} {st : List zV} {H : zH} (v1 v2 v3 v4 v5 : zV) (a : Nat) : zcal C b1 b2 m 6 rk ci true k (v5 :: v4 :: v3 :: v2 :: v1 :: Sum.inr (Sum.inr (some a)) :: st) H = (st.length ≤ 4 ∧ zK H a = ci ∧ C b1 b2 m [Sum.inr (Sum.inr (some a)), v1, v2, v3, v4, v5] H (fun r H' => k (zpu rk r ++ st) H')) := by
  simp [zcal]
theorem zcs_7 {C : zCt} {b1 b2 m rk ci : Nat} {k : List zV → zH → Prop} {st : List zV} {H : zH} (v0 v1 v2 v3 v4 v5 v6 : zV) : zcal C b1 b2 m 7 rk ci false k (v6 :: v5 :: v4 :: v3 :: v2 :: v1 :: v0 :: st) H = (st.length ≤ 4 ∧ C b1 b2 m [v0, v1, v2, v3, v4, v5, v6] H (fun r H' => k (zpu rk r ++ st) H')) := by
  simp [zcal]
theorem zcv_7 {C : zCt} {b1 b2 m rk ci : Nat} {k : List zV → zH → Prop} {st : List zV} {H : zH} (v1 v2 v3 v4 v5 v6 : zV) (a : Nat) : zcal C b1 b2 m 7 rk ci true k (v6 :: v5 :: v4 :: v3 :: v2 :: v1 :: Sum.inr (Sum.inr (some a)) :: st) H = (st.length ≤ 4 ∧ zK H a = ci ∧ C b1 b2 m [Sum.inr (Sum.inr (some a)), v1, v2, v3, v4, v5, v6] H (fun r H' => k (zpu rk r ++ st) H')) := by
  simp [zcal]
