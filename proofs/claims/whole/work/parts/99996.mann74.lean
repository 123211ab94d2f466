/-! ===== calls that make cells ===== -/
theorem zx_jsr {J : zJt} {C : zCt} {sc : Bool} {xs : Nat → Int} {L : Nat} {Q : zQ} {k : zKo} {bc bs : Nat} {ls : zLs} {st : List zV} {H : zH} (n : Nat) : zins J C sc xs L Q (.jsr (n : Int)) k bc bs ls st H = ((zac (n % 512) H).1 ≤ bc ∧ (zac (n % 512) H).2 ≤ bs ∧ zcal C (zac (n % 512) H).1 (zac (n % 512) H).2 (n % 512) (zMi (n % 512)).2.1 (zMi (n % 512)).2.2.1 (zMi (n % 512)).1 true (k (bc - (zac (n % 512) H).1) (bs - (zac (n % 512) H).2) ls) st H) := rfl
set_option maxRecDepth 100000 in
theorem zj_0 {J : zJt} {C : zCt} {sc : Bool} {xs : Nat → Int} {L : Nat} {Q : zQ} {k : zKo} {bc bs : Nat} {ls : zLs} {st : List zV} {H : zH} (a : Nat) : zins J C sc xs L Q (.jsr 31724032) k bc bs ls (Sum.inr (Sum.inr (some a)) :: st) H = (104 ≤ bc ∧ 18940 ≤ bs ∧ st.length ≤ 4 ∧ zK H a = 11 ∧ C 104 18940 0 [Sum.inr (Sum.inr (some a))] H (fun r H' => k (bc - 104) (bs - 18940) ls (zpu 0 r ++ st) H')) := by
  have e := zx_jsr (J := J) (C := C) (sc := sc) (xs := xs) (L := L) (Q := Q) (k := k) (bc := bc) (bs := bs) (ls := ls) (st := Sum.inr (Sum.inr (some a)) :: st) (H := H) 31724032
  rw [show (31724032 : Nat) % 512 = 0 from rfl, show zac 0 H = (104, 18940) from rfl, show zMi 0 = (11, 1, 0, (zMi 0).2.2.2) from rfl] at e
  refine Eq.trans e ?_
  show (104 ≤ bc ∧ 18940 ≤ bs ∧ zcal C 104 18940 0 1 0 11 true (k (bc - 104) (bs - 18940) ls) (Sum.inr (Sum.inr (some a)) :: st) H) = _
  rw [zcv_1]
set_option maxRecDepth 100000 in
theorem zj_1 {J : zJt} {C : zCt} {sc : Bool} {xs : Nat → Int} {L : Nat} {Q : zQ} {k : zKo} {bc bs : Nat} {ls : zLs} {st : List zV} {H : zH} (a : Nat) : zins J C sc xs L Q (.jsr 33821185) k bc bs ls (Sum.inr (Sum.inr (some a)) :: st) H = (3 ≤ bc ∧ 800 ≤ bs ∧ st.length ≤ 4 ∧ zK H a = 8 ∧ C 3 800 1 [Sum.inr (Sum.inr (some a))] H (fun r H' => k (bc - 3) (bs - 800) ls (zpu 0 r ++ st) H')) := by
  have e := zx_jsr (J := J) (C := C) (sc := sc) (xs := xs) (L := L) (Q := Q) (k := k) (bc := bc) (bs := bs) (ls := ls) (st := Sum.inr (Sum.inr (some a)) :: st) (H := H) 33821185
  rw [show (33821185 : Nat) % 512 = 1 from rfl, show zac 1 H = (3, 800) from rfl, show zMi 1 = (8, 1, 0, (zMi 1).2.2.2) from rfl] at e
  refine Eq.trans e ?_
  show (3 ≤ bc ∧ 800 ≤ bs ∧ zcal C 3 800 1 1 0 8 true (k (bc - 3) (bs - 800) ls) (Sum.inr (Sum.inr (some a)) :: st) H) = _
  rw [zcv_1]
set_option maxRecDepth 100000 in
theorem zj_2 {J : zJt} {C : zCt} {sc : Bool} {xs : Nat → Int} {L : Nat} {Q : zQ} {k : zKo} {bc bs : Nat} {ls : zLs} {st : List zV} {H : zH} (a : Nat) : zins J C sc xs L Q (.jsr 44311554) k bc bs ls (Sum.inr (Sum.inr (some a)) :: st) H = (4 ≤ bc ∧ 312 ≤ bs ∧ st.length ≤ 4 ∧ zK H a = 1 ∧ C 4 312 2 [Sum.inr (Sum.inr (some a))] H (fun r H' => k (bc - 4) (bs - 312) ls (zpu 0 r ++ st) H')) := by
  have e := zx_jsr (J := J) (C := C) (sc := sc) (xs := xs) (L := L) (Q := Q) (k := k) (bc := bc) (bs := bs) (ls := ls) (st := Sum.inr (Sum.inr (some a)) :: st) (H := H) 44311554
  rw [show (44311554 : Nat) % 512 = 2 from rfl, show zac 2 H = (4, 312) from rfl, show zMi 2 = (1, 1, 0, (zMi 2).2.2.2) from rfl] at e
  refine Eq.trans e ?_
  show (4 ≤ bc ∧ 312 ≤ bs ∧ zcal C 4 312 2 1 0 1 true (k (bc - 4) (bs - 312) ls) (Sum.inr (Sum.inr (some a)) :: st) H) = _
  rw [zcv_1]
set_option maxRecDepth 100000 in
theorem zj_4 {J : zJt} {C : zCt} {sc : Bool} {xs : Nat → Int} {L : Nat} {Q : zQ} {k : zKo} {bc bs : Nat} {ls : zLs} {st : List zV} {H : zH} (a : Nat) : zins J C sc xs L Q (.jsr 53752324) k bc bs ls (Sum.inr (Sum.inr (some a)) :: st) H = (9 ≤ bc ∧ 897 ≤ bs ∧ st.length ≤ 4 ∧ zK H a = 0 ∧ C 9 897 4 [Sum.inr (Sum.inr (some a))] H (fun r H' => k (bc - 9) (bs - 897) ls (zpu 0 r ++ st) H')) := by
  have e := zx_jsr (J := J) (C := C) (sc := sc) (xs := xs) (L := L) (Q := Q) (k := k) (bc := bc) (bs := bs) (ls := ls) (st := Sum.inr (Sum.inr (some a)) :: st) (H := H) 53752324
  rw [show (53752324 : Nat) % 512 = 4 from rfl, show zac 4 H = (9, 897) from rfl, show zMi 4 = (0, 1, 0, (zMi 4).2.2.2) from rfl] at e
  refine Eq.trans e ?_
  show (9 ≤ bc ∧ 897 ≤ bs ∧ zcal C 9 897 4 1 0 0 true (k (bc - 9) (bs - 897) ls) (Sum.inr (Sum.inr (some a)) :: st) H) = _
  rw [zcv_1]
set_option maxRecDepth 100000 in
theorem zj_5 {J : zJt} {C : zCt} {sc : Bool} {xs : Nat → Int} {L : Nat} {Q : zQ} {k : zKo} {bc bs : Nat} {ls : zLs} {st : List zV} {H : zH} (a : Nat) : zins J C sc xs L Q (.jsr 66338821) k bc bs ls (Sum.inr (Sum.inr (some a)) :: st) H = (7 ≤ bc ∧ 405 ≤ bs ∧ st.length ≤ 4 ∧ zK H a = 9 ∧ C 7 405 5 [Sum.inr (Sum.inr (some a))] H (fun r H' => k (bc - 7) (bs - 405) ls (zpu 0 r ++ st) H')) := by
  have e := zx_jsr (J := J) (C := C) (sc := sc) (xs := xs) (L := L) (Q := Q) (k := k) (bc := bc) (bs := bs) (ls := ls) (st := Sum.inr (Sum.inr (some a)) :: st) (H := H) 66338821
  rw [show (66338821 : Nat) % 512 = 5 from rfl, show zac 5 H = (7, 405) from rfl, show zMi 5 = (9, 1, 0, (zMi 5).2.2.2) from rfl] at e
  refine Eq.trans e ?_
  show (7 ≤ bc ∧ 405 ≤ bs ∧ zcal C 7 405 5 1 0 9 true (k (bc - 7) (bs - 405) ls) (Sum.inr (Sum.inr (some a)) :: st) H) = _
  rw [zcv_1]
set_option maxRecDepth 100000 in
theorem zj_6 {J : zJt} {C : zCt} {sc : Bool} {xs : Nat → Int} {L : Nat} {Q : zQ} {k : zKo} {bc bs : Nat} {ls : zLs} {st : List zV} {H : zH} (a : Nat) : zins J C sc xs L Q (.jsr 77876742) k bc bs ls (Sum.inr (Sum.inr (some a)) :: st) H = (40 ≤ bc ∧ 8720 ≤ bs ∧ st.length ≤ 4 ∧ zK H a = 2 ∧ C 40 8720 6 [Sum.inr (Sum.inr (some a))] H (fun r H' => k (bc - 40) (bs - 8720) ls (zpu 0 r ++ st) H')) := by
  have e := zx_jsr (J := J) (C := C) (sc := sc) (xs := xs) (L := L) (Q := Q) (k := k) (bc := bc) (bs := bs) (ls := ls) (st := Sum.inr (Sum.inr (some a)) :: st) (H := H) 77876742
  rw [show (77876742 : Nat) % 512 = 6 from rfl, show zac 6 H = (40, 8720) from rfl, show zMi 6 = (2, 1, 0, (zMi 6).2.2.2) from rfl] at e
  refine Eq.trans e ?_
  show (40 ≤ bc ∧ 8720 ≤ bs ∧ zcal C 40 8720 6 1 0 2 true (k (bc - 40) (bs - 8720) ls) (Sum.inr (Sum.inr (some a)) :: st) H) = _
  rw [zcv_1]
set_option maxRecDepth 100000 in
theorem zj_7 {J : zJt} {C : zCt} {sc : Bool} {xs : Nat → Int} {L : Nat} {Q : zQ} {k : zKo} {bc bs : Nat} {ls : zLs} {st : List zV} {H : zH} (a : Nat) (x : zV) : zins J C sc xs L Q (.jsr 79715335) k bc bs ls (x :: Sum.inr (Sum.inr (some a)) :: st) H = (2 ≤ bc ∧ 801 ≤ bs ∧ st.length ≤ 4 ∧ zK H a = 5 ∧ C 2 801 7 [Sum.inr (Sum.inr (some a)), x] H (fun r H' => k (bc - 2) (bs - 801) ls (zpu 0 r ++ st) H')) := by
  have e := zx_jsr (J := J) (C := C) (sc := sc) (xs := xs) (L := L) (Q := Q) (k := k) (bc := bc) (bs := bs) (ls := ls) (st := x :: Sum.inr (Sum.inr (some a)) :: st) (H := H) 79715335
  rw [show (79715335 : Nat) % 512 = 7 from rfl, show zac 7 H = (2, 801) from rfl, show zMi 7 = (5, 2, 0, (zMi 7).2.2.2) from rfl] at e
  refine Eq.trans e ?_
  show (2 ≤ bc ∧ 801 ≤ bs ∧ zcal C 2 801 7 2 0 5 true (k (bc - 2) (bs - 801) ls) (x :: Sum.inr (Sum.inr (some a)) :: st) H) = _
  rw [zcv_2]
set_option maxRecDepth 100000 in
theorem zj_9 {J : zJt} {C : zCt} {sc : Bool} {xs : Nat → Int} {L : Nat} {Q : zQ} {k : zKo} {bc bs : Nat} {ls : zLs} {st : List zV} {H : zH} (a : Nat) : zins J C sc xs L Q (.jsr 98851849) k bc bs ls (Sum.inr (Sum.inr (some a)) :: st) H = (7 ≤ bc ∧ 2888 ≤ bs ∧ st.length ≤ 4 ∧ zK H a = 7 ∧ C 7 2888 9 [Sum.inr (Sum.inr (some a))] H (fun r H' => k (bc - 7) (bs - 2888) ls (zpu 0 r ++ st) H')) := by
  have e := zx_jsr (J := J) (C := C) (sc := sc) (xs := xs) (L := L) (Q := Q) (k := k) (bc := bc) (bs := bs) (ls := ls) (st := Sum.inr (Sum.inr (some a)) :: st) (H := H) 98851849
  rw [show (98851849 : Nat) % 512 = 9 from rfl, show zac 9 H = (7, 2888) from rfl, show zMi 9 = (7, 1, 0, (zMi 9).2.2.2) from rfl] at e
  refine Eq.trans e ?_
  show (7 ≤ bc ∧ 2888 ≤ bs ∧ zcal C 7 2888 9 1 0 7 true (k (bc - 7) (bs - 2888) ls) (Sum.inr (Sum.inr (some a)) :: st) H) = _
  rw [zcv_1]
set_option maxRecDepth 100000 in
theorem zj_10 {J : zJt} {C : zCt} {sc : Bool} {xs : Nat → Int} {L : Nat} {Q : zQ} {k : zKo} {bc bs : Nat} {ls : zLs} {st : List zV} {H : zH} (a : Nat) : zins J C sc xs L Q (.jsr 109341194) k bc bs ls (Sum.inr (Sum.inr (some a)) :: st) H = (8 ≤ bc ∧ 1777 ≤ bs ∧ st.length ≤ 4 ∧ zK H a = 10 ∧ C 8 1777 10 [Sum.inr (Sum.inr (some a))] H (fun r H' => k (bc - 8) (bs - 1777) ls (zpu 0 r ++ st) H')) := by
  have e := zx_jsr (J := J) (C := C) (sc := sc) (xs := xs) (L := L) (Q := Q) (k := k) (bc := bc) (bs := bs) (ls := ls) (st := Sum.inr (Sum.inr (some a)) :: st) (H := H) 109341194
  rw [show (109341194 : Nat) % 512 = 10 from rfl, show zac 10 H = (8, 1777) from rfl, show zMi 10 = (10, 1, 0, (zMi 10).2.2.2) from rfl] at e
  refine Eq.trans e ?_
  show (8 ≤ bc ∧ 1777 ≤ bs ∧ zcal C 8 1777 10 1 0 10 true (k (bc - 8) (bs - 1777) ls) (Sum.inr (Sum.inr (some a)) :: st) H) = _
  rw [zcv_1]
set_option maxRecDepth 100000 in
theorem zj_11 {J : zJt} {C : zCt} {sc : Bool} {xs : Nat → Int} {L : Nat} {Q : zQ} {k : zKo} {bc bs : Nat} {ls : zLs} {st : List zV} {H : zH} (a : Nat) : zins J C sc xs L Q (.jsr 118257675) k bc bs ls (Sum.inr (Sum.inr (some a)) :: st) H = (6 ≤ bc ∧ 940 ≤ bs ∧ st.length ≤ 4 ∧ zK H a = 6 ∧ C 6 940 11 [Sum.inr (Sum.inr (some a))] H (fun r H' => k (bc - 6) (bs - 940) ls (zpu 0 r ++ st) H')) := by
  have e := zx_jsr (J := J) (C := C) (sc := sc) (xs := xs) (L := L) (Q := Q) (k := k) (bc := bc) (bs := bs) (ls := ls) (st := Sum.inr (Sum.inr (some a)) :: st) (H := H) 118257675
  rw [show (118257675 : Nat) % 512 = 11 from rfl, show zac 11 H = (6, 940) from rfl, show zMi 11 = (6, 1, 0, (zMi 11).2.2.2) from rfl] at e
  refine Eq.trans e ?_
  show (6 ≤ bc ∧ 940 ≤ bs ∧ zcal C 6 940 11 1 0 6 true (k (bc - 6) (bs - 940) ls) (Sum.inr (Sum.inr (some a)) :: st) H) = _
  rw [zcv_1]
set_option maxRecDepth 100000 in
theorem zj_12 {J : zJt} {C : zCt} {sc : Bool} {xs : Nat → Int} {L : Nat} {Q : zQ} {k : zKo} {bc bs : Nat} {ls : zLs} {st : List zV} {H : zH} (a : Nat) : zins J C sc xs L Q (.jsr 127174156) k bc bs ls (Sum.inr (Sum.inr (some a)) :: st) H = (5 ≤ bc ∧ 1048 ≤ bs ∧ st.length ≤ 4 ∧ zK H a = 4 ∧ C 5 1048 12 [Sum.inr (Sum.inr (some a))] H (fun r H' => k (bc - 5) (bs - 1048) ls (zpu 0 r ++ st) H')) := by
  have e := zx_jsr (J := J) (C := C) (sc := sc) (xs := xs) (L := L) (Q := Q) (k := k) (bc := bc) (bs := bs) (ls := ls) (st := Sum.inr (Sum.inr (some a)) :: st) (H := H) 127174156
  rw [show (127174156 : Nat) % 512 = 12 from rfl, show zac 12 H = (5, 1048) from rfl, show zMi 12 = (4, 1, 0, (zMi 12).2.2.2) from rfl] at e
  refine Eq.trans e ?_
  show (5 ≤ bc ∧ 1048 ≤ bs ∧ zcal C 5 1048 12 1 0 4 true (k (bc - 5) (bs - 1048) ls) (Sum.inr (Sum.inr (some a)) :: st) H) = _
  rw [zcv_1]
set_option maxRecDepth 100000 in
theorem zj_137 {J : zJt} {C : zCt} {sc : Bool} {xs : Nat → Int} {L : Nat} {Q : zQ} {k : zKo} {bc bs : Nat} {ls : zLs} {st : List zV} {H : zH} (a : Nat) : zins J C sc xs L Q (.jsr 291901065) k bc bs ls (Sum.inr (Sum.inr (some a)) :: st) H = (5 ≤ bc ∧ 19328 ≤ bs ∧ st.length ≤ 4 ∧ zK H a = 3 ∧ C 5 19328 137 [Sum.inr (Sum.inr (some a))] H (fun r H' => k (bc - 5) (bs - 19328) ls (zpu 0 r ++ st) H')) := by
  have e := zx_jsr (J := J) (C := C) (sc := sc) (xs := xs) (L := L) (Q := Q) (k := k) (bc := bc) (bs := bs) (ls := ls) (st := Sum.inr (Sum.inr (some a)) :: st) (H := H) 291901065
  rw [show (291901065 : Nat) % 512 = 137 from rfl, show zac 137 H = (5, 19328) from rfl, show zMi 137 = (3, 1, 0, (zMi 137).2.2.2) from rfl] at e
  refine Eq.trans e ?_
  show (5 ≤ bc ∧ 19328 ≤ bs ∧ zcal C 5 19328 137 1 0 3 true (k (bc - 5) (bs - 19328) ls) (Sum.inr (Sum.inr (some a)) :: st) H) = _
  rw [zcv_1]
set_option maxRecDepth 100000 in
theorem zj_197 {J : zJt} {C : zCt} {sc : Bool} {xs : Nat → Int} {L : Nat} {Q : zQ} {k : zKo} {bc bs : Nat} {ls : zLs} {st : List zV} {H : zH} (a : Nat) : zins J C sc xs L Q (.jsr 364648645) k bc bs ls (Sum.inr (Sum.inr (some a)) :: st) H = (58 ≤ bc ∧ 131716 ≤ bs ∧ st.length ≤ 4 ∧ zK H a = 12 ∧ C 58 131716 197 [Sum.inr (Sum.inr (some a))] H (fun r H' => k (bc - 58) (bs - 131716) ls (zpu 0 r ++ st) H')) := by
  have e := zx_jsr (J := J) (C := C) (sc := sc) (xs := xs) (L := L) (Q := Q) (k := k) (bc := bc) (bs := bs) (ls := ls) (st := Sum.inr (Sum.inr (some a)) :: st) (H := H) 364648645
  rw [show (364648645 : Nat) % 512 = 197 from rfl, show zac 197 H = (58, 131716) from rfl, show zMi 197 = (12, 1, 0, (zMi 197).2.2.2) from rfl] at e
  refine Eq.trans e ?_
  show (58 ≤ bc ∧ 131716 ≤ bs ∧ zcal C 58 131716 197 1 0 12 true (k (bc - 58) (bs - 131716) ls) (Sum.inr (Sum.inr (some a)) :: st) H) = _
  rw [zcv_1]
theorem znf_0 : znf 0 = 12 := rfl
theorem znf_1 : znf 1 = 6 := rfl
theorem znf_2 : znf 2 = 15 := rfl
theorem znf_3 : znf 3 = 7 := rfl
theorem znf_4 : znf 4 = 15 := rfl
theorem znf_5 : znf 5 = 2 := rfl
theorem znf_6 : znf 6 = 8 := rfl
theorem znf_7 : znf 7 = 10 := rfl
theorem znf_8 : znf 8 = 5 := rfl
theorem znf_9 : znf 9 = 10 := rfl
theorem znf_10 : znf 10 = 9 := rfl
theorem znf_11 : znf 11 = 13 := rfl
theorem znf_12 : znf 12 = 85 := rfl
theorem zP_nw (H : zH) (kd len b : Nat) : (znw H kd len).2.1 b = if b = zS H then (kd, len) else H.2.1 b := rfl
theorem zP_wR (H : zH) (a j : Nat) (x : Option Nat) (b : Nat) : (zwR H a j x).2.1 b = H.2.1 b := rfl
theorem zP_wA (H : zH) (a j : Nat) (x : Int) (b : Nat) : (zwA H a j x).2.1 b = H.2.1 b := rfl
theorem zaty_i : zaty .int = 100 := rfl
theorem zaty_b : zaty .byte = 101 := rfl
theorem zaty_z : zaty .boolean = 102 := rfl
theorem zaty_l : zaty .long = 103 := rfl
set_option maxRecDepth 100000 in
set_option maxRecDepth 100000 in
theorem zc_mini {xs : Nat → Int} {L d b1 b2 : Nat} {H0 : zH} {Q : zQ} (hS : zS H0 = 166) (hk : zK H0 165 = 3) (hA : ∀ k, zA H0 165 k = 0) (h : ∀ G : zH, zS G = 171 → yMk G → (∀ a : Nat, a < 165 → G.2.1 a = H0.2.1 a) → (∀ a k : Nat, a < 165 → zR G a k = zR H0 a k) → (∀ a j : Nat, a < 166 → zA G a j = zA H0 a j) → Q 0 G) : zEm xs L d 5 19328 137 [zr (some 165)] H0 Q := by
  refine zem_137 (zgo_at [] 4 ?_)
  try simp -implicitDefEqProofs only [zgn_0, zgn_s, zct_0, zct_s, Nat.reduceEqDiff, Nat.reduceBEq, Nat.reduceAdd, Nat.reduceSub, Nat.reduceMul, Int.reduceAdd, Int.reduceSub, Int.reduceMul, Int.reduceNeg, Int.reduceLT, Int.reduceLE, Int.reduceEq, Nat.zero_add, true_and, and_true, false_and, and_false, true_imp_iff, false_imp_iff, not_true_eq_false, not_false_eq_true, if_true, if_false, Bool.false_eq_true, ite_true, ite_false, reduceIte, eq_self, Int.toNat_natCast, zst_0, zst_1, zst_2, zst_3, zst_4, true_or, or_true, or_false, false_or, ze_137_0, zB_137_0, zbr_t, zbr_f, zrun_c, zmI_s, zmL_s, zmR_s, zgt_0, zgt_s, zln_0, zln_s, zs1_0, zs1_1i, zs1_1r, zs1_1n, zs1_1l, zs1_s, zs2_0, zs2_1i, zs2_1r, zs2_1n, zs2_1l, zs2_s, zcn_eq, zcn_ne, zcn_lt, zcn_ge, zcn_gt, zcn_le, zpu_0, zpu_1, zpu_2, zx_iconst, zx_lconst, zx_ldc, zx_ldc2, zx_null, zx_iload, zx_lload, zx_aload, zx_istore, zx_lstore, zx_astore, zx_iinc, zx_iadd, zx_isub, zx_imul, zx_idiv, zx_irem, zx_iand, zx_ior, zx_ixor, zx_ishl, zx_ishr, zx_iushr, zx_i2b, zx_i2l, zx_l2i, zx_ladd, zx_lmul, zx_ldiv, zx_lrem, zx_land, zx_lor, zx_lshl, zx_lshr, zx_lcmp, zx_dupi, zx_dupr, zx_dup2l, zx_dup2i, zx_pop, zx_ifc, zx_icmp, zx_ifnullN, zx_ifnullS, zx_ifnonN, zx_ifnonS, zx_goto, zx_gotow, zx_switch, zx_iaload, zx_baload, zx_laload, zx_aaload, zx_iastore, zx_bastore, zx_lastore, zx_aastore, zx_alen, zx_newarray, zx_anewarray, zx_new, zx_getI, zx_getL, zx_getR, zx_putI, zx_putZ, zx_putL, zx_putR, zx_callS, zx_callV, zx_objinit, zx_cpyi, zx_cpyl, zx_mmax, zx_mmin, zx_mminl, zx_ireturn, zx_areturn, zx_lreturn, zx_return, zcs_0, zcs_1, zcv_1, zcs_2, zcv_2, zcs_3, zcv_3, zcs_4, zcv_4, zcs_5, zcv_5, zcs_6, zcv_6, zcs_7, zcv_7, Int.reduceToNat, Nat.reduceDiv, Nat.reduceMod, zJ, zC, zK_wA, zN_wA, zR_wA, zS_wA, zA_wA, zK_wR, zN_wR, zR_wR, zS_wR, zA_wR, zK_cp, zN_cp, zR_cp, zS_cp, zA_cp, zK_mp, zN_mp, zR_mp, zS_mp, zA_mp, zfa, zfmm, zfa_1, zfb_1, zfa_2, zfb_2, zfa_3, zfb_3, zfa_4, zfb_4, zfa_5, zfb_5, zfa_6, zfb_6, zfa_7, zfb_7, zfa_8, zfb_8, zfa_9, zfb_9, zfa_10, zfb_10, zfa_12, zfb_12, zfa_20, zfb_20, zfa_21, zfb_21, zfa_30, zfb_30, zfa_48, zfb_48, zfa_60, zfb_60, zfa_61, zfb_61, zfa_65, zfb_65, zfa_97, zfb_97, zfa_100, zfb_100, zfa_120, zfb_120, zfa_124, zfb_124, zfa_500, zfb_500, zfa_792, zfb_792, zfa_2989, zfb_2989, zfm_2, zfn_2, zfm_3, zfn_3, zfm_4, zfn_4, zfm_6, zfn_6, zfm_7, zfn_7, zfm_8, zfn_8, zfm_12, zfn_12, zfm_49, zfn_49, zfm_60, zfn_60, zfm_61, zfn_61, zfm_792, zfn_792, zfm_2989, zfn_2989, Int.zero_add, Int.add_zero, Int.zero_mul, Int.mul_zero, Int.one_mul, Int.mul_one, zS_nw, zK_nw, zN_nw, zA_nw, zR_nw, zS_wR, zK_wR, zN_wR, zA_wR, zR_wR, zS_wA, zK_wA, zN_wA, zA_wA, zR_wA, zaty_i, zaty_b, zaty_z, zaty_l, Nat.succ_eq_add_one, hS, hk]
  repeat (with_reducible refine And.intro ?_ ?_; · first | omega | (simp only [z32, z64]; omega))
  refine h _ (by simp only [zS_nw, zK_nw, zN_nw, zA_nw, zR_nw, zS_wR, zK_wR, zN_wR, zA_wR, zR_wR, zS_wA, zK_wA, zN_wA, zA_wA, zR_wA, zaty_i, zaty_b, zaty_z, zaty_l, Nat.succ_eq_add_one, hS, Nat.reduceAdd]) ?_ (fun a ha => ?_) (fun a k ha => ?_) (fun a j ha => ?_)
  · unfold yMk
    simp [zS_nw, zK_nw, zN_nw, zA_nw, zR_nw, zS_wR, zK_wR, zN_wR, zA_wR, zR_wR, zS_wA, zK_wA, zN_wA, zA_wA, zR_wA, zaty_i, zaty_b, zaty_z, zaty_l, Nat.succ_eq_add_one, hS, hk]
  · simp only [zP_nw, zP_wR, zS_nw, zK_nw, zN_nw, zA_nw, zR_nw, zS_wR, zK_wR, zN_wR, zA_wR, zR_wR, zS_wA, zK_wA, zN_wA, zA_wA, zR_wA, zaty_i, zaty_b, zaty_z, zaty_l, Nat.succ_eq_add_one, hS, Nat.reduceAdd]
    repeat (rw [if_neg (by omega)])
  · simp only [zS_nw, zK_nw, zN_nw, zA_nw, zR_nw, zS_wR, zK_wR, zN_wR, zA_wR, zR_wR, zS_wA, zK_wA, zN_wA, zA_wA, zR_wA, zaty_i, zaty_b, zaty_z, zaty_l, Nat.succ_eq_add_one, hS, Nat.reduceAdd]
    repeat (rw [if_neg (by omega)])
  · simp only [zS_nw, zK_nw, zN_nw, zA_nw, zR_nw, zS_wR, zK_wR, zN_wR, zA_wR, zR_wR, zS_wA, zK_wA, zN_wA, zA_wA, zR_wA, zaty_i, zaty_b, zaty_z, zaty_l, Nat.succ_eq_add_one, hS, Nat.reduceAdd]
    repeat (rw [if_neg (by omega)])
