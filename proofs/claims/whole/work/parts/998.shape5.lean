/-- an array of the reference stands for a set of shapes -/
def zSR (H : zH) (a o : Nat) (A : Nat → Prop) : Prop := ∀ i : Nat, i < 792 → zA H a (o + i) = zcif (A (zqs i)) 1 0
/-- the sums found when the pairs before (i, j) are done -/
def zDn (S A : Nat → Prop) (i j x : Nat) : Prop := S x ∨ ∃ a b : Nat, a < 792 ∧ b < 792 ∧ (a < i ∨ (a = i ∧ b < j)) ∧ S (zqs a) ∧ A (zqs b) ∧ ztot (zqs a) + ztot (zqs b) ≤ 7 ∧ x = zqs a + zqs b
theorem zDn_0 {S A : Nat → Prop} (x : Nat) : zDn S A 0 0 x ↔ S x :=
  ⟨fun h => h.elim id (fun ⟨a, b, _, _, h, _⟩ => by omega), Or.inl⟩
theorem zDn_j {S A : Nat → Prop} {i j : Nat} (hi : i < 792) (hj : j < 792) (x : Nat) : zDn S A i (j + 1) x ↔ zDn S A i j x ∨ (S (zqs i) ∧ A (zqs j) ∧ ztot (zqs i) + ztot (zqs j) ≤ 7 ∧ x = zqs i + zqs j) := by
  constructor
  · rintro (h | ⟨a, b, h1, h2, h3, h4⟩)
    · exact Or.inl (Or.inl h)
    · by_cases q : a = i ∧ b = j
      · obtain ⟨rfl, rfl⟩ := q
        exact Or.inr h4
      · exact Or.inl (Or.inr ⟨a, b, h1, h2, by omega, h4⟩)
  · rintro ((h | ⟨a, b, h1, h2, h3, h4⟩) | h)
    · exact Or.inl h
    · exact Or.inr ⟨a, b, h1, h2, by omega, h4⟩
    · exact Or.inr ⟨i, j, hi, hj, by omega, h⟩
theorem zDn_i {S A : Nat → Prop} {i : Nat} (x : Nat) : zDn S A i 792 x ↔ zDn S A (i + 1) 0 x := by
  constructor
  · rintro (h | ⟨a, b, h1, h2, h3, h4⟩)
    · exact Or.inl h
    · exact Or.inr ⟨a, b, h1, h2, by omega, h4⟩
  · rintro (h | ⟨a, b, h1, h2, h3, h4⟩)
    · exact Or.inl h
    · exact Or.inr ⟨a, b, h1, h2, by omega, h4⟩
theorem zDn_n {S A : Nat → Prop} {i : Nat} (hn : ¬ S (zqs i)) (x : Nat) : zDn S A i 0 x ↔ zDn S A (i + 1) 0 x := by
  constructor
  · rintro (h | ⟨a, b, h1, h2, h3, h4⟩)
    · exact Or.inl h
    · exact Or.inr ⟨a, b, h1, h2, by omega, h4⟩
  · rintro (h | ⟨a, b, h1, h2, h3, h4⟩)
    · exact Or.inl h
    · by_cases q : a = i
      · subst q; exact absurd h4.1 hn
      · exact Or.inr ⟨a, b, h1, h2, by omega, h4⟩
theorem zDn_e {S A : Nat → Prop} (hS : zIn 32768 S) (hA : zIn 32768 A) (h0 : A 0) (x : Nat) : zDn S A 792 0 x ↔ zSm S A x := by
  constructor
  · rintro (h | ⟨a, b, h1, h2, h3, h4, h5, h6, h7⟩)
    · exact ⟨x, 0, h, h0, by have := (hS x h).2; rw [show ztot 0 = 0 from rfl]; omega, rfl⟩
    · exact ⟨_, _, h4, h5, h6, h7⟩
  · rintro ⟨a, b, h1, h2, h3, rfl⟩
    obtain ⟨p1, p2⟩ := hS a h1
    obtain ⟨q1, q2⟩ := hA b h2
    obtain ⟨r1, r2⟩ := zqs_q p1 p2
    obtain ⟨s1, s2⟩ := zqs_q q1 q2
    exact Or.inr ⟨zqn a, zqn b, r1, s1, by omega, by rw [r2]; exact h1, by rw [s2]; exact h2, by rw [r2, s2]; exact h3, by rw [r2, s2]⟩
theorem zSR_c {H : zH} {a o : Nat} {A B : Nat → Prop} (hA : zSR H a o A) (h : ∀ x : Nat, A x ↔ B x) : zSR H a o B := by
  have e : A = B := funext (fun x => propext (h x))
  rw [← e]; exact hA
theorem zSR_1 {H : zH} {a o : Nat} {A : Nat → Prop} (hA : zSR H a o A) {i : Nat} (hi : i < 792) : zA H a (o + i) = 0 ↔ ¬ A (zqs i) := by
  rw [hA i hi]
  by_cases q : A (zqs i)
  · rw [zcif_p q]
    exact ⟨fun h => by omega, fun h => absurd q h⟩
  · rw [zcif_n q]
    exact ⟨fun _ => q, fun _ => rfl⟩
theorem zSR_b {H : zH} {a : Nat} {A : Nat → Prop} (hA : zSR H a 0 A) {i : Nat} (hi : i < 792) : 0 ≤ zA H a i ∧ zA H a i ≤ 1 := by
  have h := hA i hi
  rw [Nat.zero_add] at h
  rw [h]
  by_cases q : A (zqs i)
  · rw [zcif_p q]; omega
  · rw [zcif_n q]; omega
theorem zMS_s {H : zH} (h : zMS H) {i : Nat} (hi : i < 792) : zA H 119 i = zqs i := by
  have h1 := zqs_p hi
  have h2 := h.2.2 (zqs i) h1.1 h1.2.1
  rw [h1.2.2] at h2
  exact h2
set_option maxRecDepth 100000 in
theorem zl_bhA {xs : Nat → Int} {L d b1 b2 : Nat} {H0 : zH} {Q : zQ} {v1 e : Int} (hL0 : zLay H0) (h9 : zA H0 106 18 = 792) (h : zEt xs L d b1 b2 false 230 23 [some (zr (some 106)), some (zi v1), some (zi e), some (zi (792 : Nat)), none, none, none] [] (zMW H0 122 0 792 (fun _ => 0)) Q) : ∀ (kk : Nat) (i : Nat), 792 - i = kk → (i ≤ 792) → zEt xs L d b1 b2 false 230 2 [some (zr (some 106)), some (zi v1), some (zi e), some (zi i), none, none, none] [] (zMW H0 122 0 i (fun _ => 0)) Q := by
  intro kk
  induction kk using Nat.strongRecOn with
  | ind kk ih =>
    intro i hkk hi
    refine zgo_at [2, 23] 8 ?_
    try simp -implicitDefEqProofs only [zgn_0, zgn_s, zct_0, zct_s, Nat.reduceEqDiff, Nat.reduceBEq, Nat.reduceAdd, Nat.reduceSub, Nat.reduceMul, Int.reduceAdd, Int.reduceSub, Int.reduceMul, Int.reduceNeg, Int.reduceLT, Int.reduceLE, Int.reduceEq, Nat.zero_add, true_and, and_true, false_and, and_false, true_imp_iff, false_imp_iff, not_true_eq_false, not_false_eq_true, if_true, if_false, Bool.false_eq_true, ite_true, ite_false, reduceIte, eq_self, Int.toNat_natCast, zst_0, zst_1, zst_2, zst_3, zst_4, true_or, or_true, or_false, false_or, ze_230_0, zB_230_0, ze_230_2, zB_230_2, ze_230_23, zB_230_23, ze_230_37, zB_230_37, ze_230_59, zB_230_59, ze_230_76, zB_230_76, ze_230_79, zB_230_79, ze_230_108, zB_230_108, ze_230_124, zB_230_124, ze_230_146, zB_230_146, ze_230_149, zB_230_149, ze_230_223, zB_230_223, ze_230_229, zB_230_229, ze_230_235, zB_230_235, ze_230_238, zB_230_238, ze_230_267, zB_230_267, ze_230_273, zB_230_273, zbr_t, zbr_f, zrun_c, zmI_s, zmL_s, zmR_s, zgt_0, zgt_s, zln_0, zln_s, zs1_0, zs1_1i, zs1_1r, zs1_1n, zs1_1l, zs1_s, zs2_0, zs2_1i, zs2_1r, zs2_1n, zs2_1l, zs2_s, zcn_eq, zcn_ne, zcn_lt, zcn_ge, zcn_gt, zcn_le, zpu_0, zpu_1, zpu_2, zx_iconst, zx_lconst, zx_ldc, zx_ldc2, zx_null, zx_iload, zx_lload, zx_aload, zx_istore, zx_lstore, zx_astore, zx_iinc, zx_iadd, zx_isub, zx_imul, zx_idiv, zx_irem, zx_iand, zx_ior, zx_ixor, zx_ishl, zx_ishr, zx_iushr, zx_i2b, zx_i2l, zx_l2i, zx_ladd, zx_lmul, zx_ldiv, zx_lrem, zx_land, zx_lor, zx_lshl, zx_lshr, zx_lcmp, zx_dupi, zx_dupr, zx_dup2l, zx_dup2i, zx_pop, zx_ifc, zx_icmp, zx_ifnullN, zx_ifnullS, zx_ifnonN, zx_ifnonS, zx_goto, zx_gotow, zx_switch, zx_iaload, zx_baload, zx_laload, zx_aaload, zx_iastore, zx_bastore, zx_lastore, zx_aastore, zx_alen, zx_newarray, zx_anewarray, zx_new, zx_getI, zx_getL, zx_getR, zx_putI, zx_putZ, zx_putL, zx_putR, zx_callS, zx_callV, zx_objinit, zx_cpyi, zx_cpyl, zx_mmax, zx_mmin, zx_mminl, zx_ireturn, zx_areturn, zx_lreturn, zx_return, zcs_0, zcs_1, zcv_1, zcs_2, zcv_2, zcs_3, zcv_3, zcs_4, zcv_4, zcs_5, zcv_5, zcs_6, zcv_6, zcs_7, zcv_7, Int.reduceToNat, Nat.reduceDiv, Nat.reduceMod, zJ, zC, zK_wA, zN_wA, zR_wA, zS_wA, zA_wA, zK_wR, zN_wR, zR_wR, zS_wR, zA_wR, zK_cp, zN_cp, zR_cp, zS_cp, zA_cp, zK_mp, zN_mp, zR_mp, zS_mp, zA_mp, zfa, zfmm, zfa_1, zfb_1, zfa_2, zfb_2, zfa_3, zfb_3, zfa_4, zfb_4, zfa_5, zfb_5, zfa_6, zfb_6, zfa_7, zfb_7, zfa_8, zfb_8, zfa_9, zfb_9, zfa_10, zfb_10, zfa_12, zfb_12, zfa_20, zfb_20, zfa_21, zfb_21, zfa_30, zfb_30, zfa_48, zfb_48, zfa_60, zfb_60, zfa_61, zfb_61, zfa_65, zfb_65, zfa_97, zfb_97, zfa_100, zfb_100, zfa_120, zfb_120, zfa_124, zfb_124, zfa_500, zfb_500, zfa_792, zfb_792, zfa_2989, zfb_2989, zfm_2, zfn_2, zfm_3, zfn_3, zfm_4, zfn_4, zfm_6, zfn_6, zfm_7, zfn_7, zfm_8, zfn_8, zfm_12, zfn_12, zfm_49, zfn_49, zfm_60, zfn_60, zfm_61, zfn_61, zfm_792, zfn_792, zfm_2989, zfn_2989, Int.zero_add, Int.add_zero, Int.zero_mul, Int.mul_zero, Int.one_mul, Int.mul_one, lk_106 hL0, lr_106_20 hL0, lk_122 hL0, ln_122 hL0, h9]
    refine zbr_i (fun q => ?_) (fun q => ?_)
    · have e9 : i = 792 := by omega
      subst e9
      exact h
    · repeat (with_reducible refine And.intro ?_ ?_; · first | omega | (simp only [z32, z64]; omega))
      have e1 := zMW_s H0 122 0 i (fun _ => 0)
      rw [Nat.zero_add] at e1
      rw [e1]
      exact ih _ (by omega) (i + 1) rfl (by omega)
set_option maxRecDepth 100000 in
theorem zl_bhB {xs : Nat → Int} {L d b1 b2 : Nat} {H0 : zH} {Q : zQ} {w5 w6 : Option zV} {v1 e : Int} {k : Nat} {S : Nat → Prop} (hS : zSR H0 122 0 S) (hL0 : zLay H0) (h9 : zA H0 106 18 = 792) (h : zEt xs L d b1 b2 false 230 108 [some (zr (some 106)), some (zi v1), some (zi e), some (zi k), some (zi (792 : Nat)), w5, w6] [] (zMW H0 123 0 792 (zA H0 122)) Q) : ∀ (kk : Nat) (i : Nat), 792 - i = kk → (i ≤ 792) → zEt xs L d b1 b2 false 230 79 [some (zr (some 106)), some (zi v1), some (zi e), some (zi k), some (zi i), w5, w6] [] (zMW H0 123 0 i (zA H0 122)) Q := by
  intro kk
  induction kk using Nat.strongRecOn with
  | ind kk ih =>
    intro i hkk hi
    refine zgo_at [79, 108] 8 ?_
    try simp -implicitDefEqProofs only [zgn_0, zgn_s, zct_0, zct_s, Nat.reduceEqDiff, Nat.reduceBEq, Nat.reduceAdd, Nat.reduceSub, Nat.reduceMul, Int.reduceAdd, Int.reduceSub, Int.reduceMul, Int.reduceNeg, Int.reduceLT, Int.reduceLE, Int.reduceEq, Nat.zero_add, true_and, and_true, false_and, and_false, true_imp_iff, false_imp_iff, not_true_eq_false, not_false_eq_true, if_true, if_false, Bool.false_eq_true, ite_true, ite_false, reduceIte, eq_self, Int.toNat_natCast, zst_0, zst_1, zst_2, zst_3, zst_4, true_or, or_true, or_false, false_or, ze_230_0, zB_230_0, ze_230_2, zB_230_2, ze_230_23, zB_230_23, ze_230_37, zB_230_37, ze_230_59, zB_230_59, ze_230_76, zB_230_76, ze_230_79, zB_230_79, ze_230_108, zB_230_108, ze_230_124, zB_230_124, ze_230_146, zB_230_146, ze_230_149, zB_230_149, ze_230_223, zB_230_223, ze_230_229, zB_230_229, ze_230_235, zB_230_235, ze_230_238, zB_230_238, ze_230_267, zB_230_267, ze_230_273, zB_230_273, zbr_t, zbr_f, zrun_c, zmI_s, zmL_s, zmR_s, zgt_0, zgt_s, zln_0, zln_s, zs1_0, zs1_1i, zs1_1r, zs1_1n, zs1_1l, zs1_s, zs2_0, zs2_1i, zs2_1r, zs2_1n, zs2_1l, zs2_s, zcn_eq, zcn_ne, zcn_lt, zcn_ge, zcn_gt, zcn_le, zpu_0, zpu_1, zpu_2, zx_iconst, zx_lconst, zx_ldc, zx_ldc2, zx_null, zx_iload, zx_lload, zx_aload, zx_istore, zx_lstore, zx_astore, zx_iinc, zx_iadd, zx_isub, zx_imul, zx_idiv, zx_irem, zx_iand, zx_ior, zx_ixor, zx_ishl, zx_ishr, zx_iushr, zx_i2b, zx_i2l, zx_l2i, zx_ladd, zx_lmul, zx_ldiv, zx_lrem, zx_land, zx_lor, zx_lshl, zx_lshr, zx_lcmp, zx_dupi, zx_dupr, zx_dup2l, zx_dup2i, zx_pop, zx_ifc, zx_icmp, zx_ifnullN, zx_ifnullS, zx_ifnonN, zx_ifnonS, zx_goto, zx_gotow, zx_switch, zx_iaload, zx_baload, zx_laload, zx_aaload, zx_iastore, zx_bastore, zx_lastore, zx_aastore, zx_alen, zx_newarray, zx_anewarray, zx_new, zx_getI, zx_getL, zx_getR, zx_putI, zx_putZ, zx_putL, zx_putR, zx_callS, zx_callV, zx_objinit, zx_cpyi, zx_cpyl, zx_mmax, zx_mmin, zx_mminl, zx_ireturn, zx_areturn, zx_lreturn, zx_return, zcs_0, zcs_1, zcv_1, zcs_2, zcv_2, zcs_3, zcv_3, zcs_4, zcv_4, zcs_5, zcv_5, zcs_6, zcv_6, zcs_7, zcv_7, Int.reduceToNat, Nat.reduceDiv, Nat.reduceMod, zJ, zC, zK_wA, zN_wA, zR_wA, zS_wA, zA_wA, zK_wR, zN_wR, zR_wR, zS_wR, zA_wR, zK_cp, zN_cp, zR_cp, zS_cp, zA_cp, zK_mp, zN_mp, zR_mp, zS_mp, zA_mp, zfa, zfmm, zfa_1, zfb_1, zfa_2, zfb_2, zfa_3, zfb_3, zfa_4, zfb_4, zfa_5, zfb_5, zfa_6, zfb_6, zfa_7, zfb_7, zfa_8, zfb_8, zfa_9, zfb_9, zfa_10, zfb_10, zfa_12, zfb_12, zfa_20, zfb_20, zfa_21, zfb_21, zfa_30, zfb_30, zfa_48, zfb_48, zfa_60, zfb_60, zfa_61, zfb_61, zfa_65, zfb_65, zfa_97, zfb_97, zfa_100, zfb_100, zfa_120, zfb_120, zfa_124, zfb_124, zfa_500, zfb_500, zfa_792, zfb_792, zfa_2989, zfb_2989, zfm_2, zfn_2, zfm_3, zfn_3, zfm_4, zfn_4, zfm_6, zfn_6, zfm_7, zfn_7, zfm_8, zfn_8, zfm_12, zfn_12, zfm_49, zfn_49, zfm_60, zfn_60, zfm_61, zfn_61, zfm_792, zfn_792, zfm_2989, zfn_2989, Int.zero_add, Int.add_zero, Int.zero_mul, Int.mul_zero, Int.one_mul, Int.mul_one, lk_106 hL0, lr_106_20 hL0, lk_122 hL0, ln_122 hL0, lr_106_21 hL0, lk_123 hL0, ln_123 hL0, h9]
    refine zbr_i (fun q => ?_) (fun q => ?_)
    · have e9 : i = 792 := by omega
      subst e9
      exact h
    · have hb := zSR_b hS (i := i) (by omega)
      repeat (with_reducible refine And.intro ?_ ?_; · first | omega | (simp only [z32, z64]; omega))
      have e1 := zMW_s H0 123 0 i (zA H0 122)
      rw [Nat.zero_add] at e1
      rw [e1]
      exact ih _ (by omega) (i + 1) rfl (by omega)
set_option maxRecDepth 100000 in
theorem zl_bhC {xs : Nat → Int} {L d b1 b2 : Nat} {H0 : zH} {Q : zQ} {w6 : Option zV} {v1 e : Int} {k o : Nat} {S : Nat → Prop} (hS : zSR H0 123 0 S) (hL0 : zLay H0) (h9 : zA H0 106 18 = 792) (h : zEt xs L d b1 b2 false 230 267 [some (zr (some 106)), some (zi v1), some (zi e), some (zi k), some (zi o), some (zi (792 : Nat)), w6] [] (zMW H0 122 0 792 (zA H0 123)) Q) : ∀ (kk : Nat) (i : Nat), 792 - i = kk → (i ≤ 792) → zEt xs L d b1 b2 false 230 238 [some (zr (some 106)), some (zi v1), some (zi e), some (zi k), some (zi o), some (zi i), w6] [] (zMW H0 122 0 i (zA H0 123)) Q := by
  intro kk
  induction kk using Nat.strongRecOn with
  | ind kk ih =>
    intro i hkk hi
    refine zgo_at [238, 267] 8 ?_
    try simp -implicitDefEqProofs only [zgn_0, zgn_s, zct_0, zct_s, Nat.reduceEqDiff, Nat.reduceBEq, Nat.reduceAdd, Nat.reduceSub, Nat.reduceMul, Int.reduceAdd, Int.reduceSub, Int.reduceMul, Int.reduceNeg, Int.reduceLT, Int.reduceLE, Int.reduceEq, Nat.zero_add, true_and, and_true, false_and, and_false, true_imp_iff, false_imp_iff, not_true_eq_false, not_false_eq_true, if_true, if_false, Bool.false_eq_true, ite_true, ite_false, reduceIte, eq_self, Int.toNat_natCast, zst_0, zst_1, zst_2, zst_3, zst_4, true_or, or_true, or_false, false_or, ze_230_0, zB_230_0, ze_230_2, zB_230_2, ze_230_23, zB_230_23, ze_230_37, zB_230_37, ze_230_59, zB_230_59, ze_230_76, zB_230_76, ze_230_79, zB_230_79, ze_230_108, zB_230_108, ze_230_124, zB_230_124, ze_230_146, zB_230_146, ze_230_149, zB_230_149, ze_230_223, zB_230_223, ze_230_229, zB_230_229, ze_230_235, zB_230_235, ze_230_238, zB_230_238, ze_230_267, zB_230_267, ze_230_273, zB_230_273, zbr_t, zbr_f, zrun_c, zmI_s, zmL_s, zmR_s, zgt_0, zgt_s, zln_0, zln_s, zs1_0, zs1_1i, zs1_1r, zs1_1n, zs1_1l, zs1_s, zs2_0, zs2_1i, zs2_1r, zs2_1n, zs2_1l, zs2_s, zcn_eq, zcn_ne, zcn_lt, zcn_ge, zcn_gt, zcn_le, zpu_0, zpu_1, zpu_2, zx_iconst, zx_lconst, zx_ldc, zx_ldc2, zx_null, zx_iload, zx_lload, zx_aload, zx_istore, zx_lstore, zx_astore, zx_iinc, zx_iadd, zx_isub, zx_imul, zx_idiv, zx_irem, zx_iand, zx_ior, zx_ixor, zx_ishl, zx_ishr, zx_iushr, zx_i2b, zx_i2l, zx_l2i, zx_ladd, zx_lmul, zx_ldiv, zx_lrem, zx_land, zx_lor, zx_lshl, zx_lshr, zx_lcmp, zx_dupi, zx_dupr, zx_dup2l, zx_dup2i, zx_pop, zx_ifc, zx_icmp, zx_ifnullN, zx_ifnullS, zx_ifnonN, zx_ifnonS, zx_goto, zx_gotow, zx_switch, zx_iaload, zx_baload, zx_laload, zx_aaload, zx_iastore, zx_bastore, zx_lastore, zx_aastore, zx_alen, zx_newarray, zx_anewarray, zx_new, zx_getI, zx_getL, zx_getR, zx_putI, zx_putZ, zx_putL, zx_putR, zx_callS, zx_callV, zx_objinit, zx_cpyi, zx_cpyl, zx_mmax, zx_mmin, zx_mminl, zx_ireturn, zx_areturn, zx_lreturn, zx_return, zcs_0, zcs_1, zcv_1, zcs_2, zcv_2, zcs_3, zcv_3, zcs_4, zcv_4, zcs_5, zcv_5, zcs_6, zcv_6, zcs_7, zcv_7, Int.reduceToNat, Nat.reduceDiv, Nat.reduceMod, zJ, zC, zK_wA, zN_wA, zR_wA, zS_wA, zA_wA, zK_wR, zN_wR, zR_wR, zS_wR, zA_wR, zK_cp, zN_cp, zR_cp, zS_cp, zA_cp, zK_mp, zN_mp, zR_mp, zS_mp, zA_mp, zfa, zfmm, zfa_1, zfb_1, zfa_2, zfb_2, zfa_3, zfb_3, zfa_4, zfb_4, zfa_5, zfb_5, zfa_6, zfb_6, zfa_7, zfb_7, zfa_8, zfb_8, zfa_9, zfb_9, zfa_10, zfb_10, zfa_12, zfb_12, zfa_20, zfb_20, zfa_21, zfb_21, zfa_30, zfb_30, zfa_48, zfb_48, zfa_60, zfb_60, zfa_61, zfb_61, zfa_65, zfb_65, zfa_97, zfb_97, zfa_100, zfb_100, zfa_120, zfb_120, zfa_124, zfb_124, zfa_500, zfb_500, zfa_792, zfb_792, zfa_2989, zfb_2989, zfm_2, zfn_2, zfm_3, zfn_3, zfm_4, zfn_4, zfm_6, zfn_6, zfm_7, zfn_7, zfm_8, zfn_8, zfm_12, zfn_12, zfm_49, zfn_49, zfm_60, zfn_60, zfm_61, zfn_61, zfm_792, zfn_792, zfm_2989, zfn_2989, Int.zero_add, Int.add_zero, Int.zero_mul, Int.mul_zero, Int.one_mul, Int.mul_one, lk_106 hL0, lr_106_20 hL0, lk_122 hL0, ln_122 hL0, lr_106_21 hL0, lk_123 hL0, ln_123 hL0, h9]
    refine zbr_i (fun q => ?_) (fun q => ?_)
    · have e9 : i = 792 := by omega
      subst e9
      exact h
    · have hb := zSR_b hS (i := i) (by omega)
      repeat (with_reducible refine And.intro ?_ ?_; · first | omega | (simp only [z32, z64]; omega))
      have e1 := zMW_s H0 122 0 i (zA H0 123)
      rw [Nat.zero_add] at e1
      rw [e1]
      exact ih _ (by omega) (i + 1) rfl (by omega)
set_option maxRecDepth 100000 in
theorem zl_bhD {xs : Nat → Int} {L d b1 b2 : Nat} {H0 : zH} {Q : zQ} {v1 e : Int} {k o i : Nat} {S A : Nat → Prop} (hL0 : zLay H0) (hd : 1 ≤ d) (hM : zMS H0) (ho : o ≤ 15048) (hS : zSR H0 122 0 S) (hA : zSR H0 121 o A) (hi : i < 792) (hSi : S (zqs i)) (h : ∀ H : zH, zmd (zin [123] []) H0 H → zSR H 123 0 (zDn S A (i + 1) 0) → zEt xs L d b1 b2 false 230 229 [some (zr (some 106)), some (zi v1), some (zi e), some (zi k), some (zi o), some (zi i), some (zi (792 : Nat))] [] H Q) : ∀ (kk : Nat) (j : Nat) (H : zH), 792 - j = kk → (j ≤ 792) → (zmd (zin [123] []) H0 H) → (zSR H 123 0 (zDn S A i j)) → zEt xs L d b1 b2 false 230 149 [some (zr (some 106)), some (zi v1), some (zi e), some (zi k), some (zi o), some (zi i), some (zi j)] [] H Q := by
  intro kk
  induction kk using Nat.strongRecOn with
  | ind kk ih =>
    intro j H hkk hj hm hD
    refine zgo_at [149, 229] 8 ?_
    try simp -implicitDefEqProofs only [zgn_0, zgn_s, zct_0, zct_s, Nat.reduceEqDiff, Nat.reduceBEq, Nat.reduceAdd, Nat.reduceSub, Nat.reduceMul, Int.reduceAdd, Int.reduceSub, Int.reduceMul, Int.reduceNeg, Int.reduceLT, Int.reduceLE, Int.reduceEq, Nat.zero_add, true_and, and_true, false_and, and_false, true_imp_iff, false_imp_iff, not_true_eq_false, not_false_eq_true, if_true, if_false, Bool.false_eq_true, ite_true, ite_false, reduceIte, eq_self, Int.toNat_natCast, zst_0, zst_1, zst_2, zst_3, zst_4, true_or, or_true, or_false, false_or, ze_230_0, zB_230_0, ze_230_2, zB_230_2, ze_230_23, zB_230_23, ze_230_37, zB_230_37, ze_230_59, zB_230_59, ze_230_76, zB_230_76, ze_230_79, zB_230_79, ze_230_108, zB_230_108, ze_230_124, zB_230_124, ze_230_146, zB_230_146, ze_230_149, zB_230_149, ze_230_223, zB_230_223, ze_230_229, zB_230_229, ze_230_235, zB_230_235, ze_230_238, zB_230_238, ze_230_267, zB_230_267, ze_230_273, zB_230_273, zbr_t, zbr_f, zrun_c, zmI_s, zmL_s, zmR_s, zgt_0, zgt_s, zln_0, zln_s, zs1_0, zs1_1i, zs1_1r, zs1_1n, zs1_1l, zs1_s, zs2_0, zs2_1i, zs2_1r, zs2_1n, zs2_1l, zs2_s, zcn_eq, zcn_ne, zcn_lt, zcn_ge, zcn_gt, zcn_le, zpu_0, zpu_1, zpu_2, zx_iconst, zx_lconst, zx_ldc, zx_ldc2, zx_null, zx_iload, zx_lload, zx_aload, zx_istore, zx_lstore, zx_astore, zx_iinc, zx_iadd, zx_isub, zx_imul, zx_idiv, zx_irem, zx_iand, zx_ior, zx_ixor, zx_ishl, zx_ishr, zx_iushr, zx_i2b, zx_i2l, zx_l2i, zx_ladd, zx_lmul, zx_ldiv, zx_lrem, zx_land, zx_lor, zx_lshl, zx_lshr, zx_lcmp, zx_dupi, zx_dupr, zx_dup2l, zx_dup2i, zx_pop, zx_ifc, zx_icmp, zx_ifnullN, zx_ifnullS, zx_ifnonN, zx_ifnonS, zx_goto, zx_gotow, zx_switch, zx_iaload, zx_baload, zx_laload, zx_aaload, zx_iastore, zx_bastore, zx_lastore, zx_aastore, zx_alen, zx_newarray, zx_anewarray, zx_new, zx_getI, zx_getL, zx_getR, zx_putI, zx_putZ, zx_putL, zx_putR, zx_callS, zx_callV, zx_objinit, zx_cpyi, zx_cpyl, zx_mmax, zx_mmin, zx_mminl, zx_ireturn, zx_areturn, zx_lreturn, zx_return, zcs_0, zcs_1, zcv_1, zcs_2, zcv_2, zcs_3, zcv_3, zcs_4, zcv_4, zcs_5, zcv_5, zcs_6, zcv_6, zcs_7, zcv_7, Int.reduceToNat, Nat.reduceDiv, Nat.reduceMod, zJ, zC, zK_wA, zN_wA, zR_wA, zS_wA, zA_wA, zK_wR, zN_wR, zR_wR, zS_wR, zA_wR, zK_cp, zN_cp, zR_cp, zS_cp, zA_cp, zK_mp, zN_mp, zR_mp, zS_mp, zA_mp, zfa, zfmm, zfa_1, zfb_1, zfa_2, zfb_2, zfa_3, zfb_3, zfa_4, zfb_4, zfa_5, zfb_5, zfa_6, zfb_6, zfa_7, zfb_7, zfa_8, zfb_8, zfa_9, zfb_9, zfa_10, zfb_10, zfa_12, zfb_12, zfa_20, zfb_20, zfa_21, zfb_21, zfa_30, zfb_30, zfa_48, zfb_48, zfa_60, zfb_60, zfa_61, zfb_61, zfa_65, zfb_65, zfa_97, zfb_97, zfa_100, zfb_100, zfa_120, zfb_120, zfa_124, zfb_124, zfa_500, zfb_500, zfa_792, zfb_792, zfa_2989, zfb_2989, zfm_2, zfn_2, zfm_3, zfn_3, zfm_4, zfn_4, zfm_6, zfn_6, zfm_7, zfn_7, zfm_8, zfn_8, zfm_12, zfn_12, zfm_49, zfn_49, zfm_60, zfn_60, zfm_61, zfn_61, zfm_792, zfn_792, zfm_2989, zfn_2989, Int.zero_add, Int.add_zero, Int.zero_mul, Int.mul_zero, Int.one_mul, Int.mul_one, lk_106 (zmd_lay hm hL0), lr_106_16 (zmd_lay hm hL0), lk_119 (zmd_lay hm hL0), ln_119 (zmd_lay hm hL0), lr_106_17 (zmd_lay hm hL0), lk_120 (zmd_lay hm hL0), ln_120 (zmd_lay hm hL0), lr_106_19 (zmd_lay hm hL0), lk_121 (zmd_lay hm hL0), ln_121 (zmd_lay hm hL0), lr_106_21 (zmd_lay hm hL0), lk_123 (zmd_lay hm hL0), ln_123 (zmd_lay hm hL0), hm.2.2.2 106 18 rfl, hM.1]
    refine zbr_i (fun q => ?_) (fun q => ?_)
    · have e9 : j = 792 := by omega
      subst e9
      exact h H hm (zSR_c hD zDn_i)
    · have hL := zmd_lay hm hL0
      have e121 : zA H 121 (o + j) = zA H0 121 (o + j) := hm.2.2.2 121 _ rfl
      have ei : zA H 119 i = zqs i := by rw [hm.2.2.2 119 _ rfl]; exact zMS_s hM hi
      have ej : zA H 119 j = zqs j := by rw [hm.2.2.2 119 _ rfl]; exact zMS_s hM (by omega)
      have pi := zqs_p hi
      have pj := zqs_p (i := j) (by omega)
      repeat (with_reducible refine And.intro ?_ ?_; · first | omega | (simp only [z32, z64]; omega))
      refine zbr_i (fun q0 => ?_) (fun q0 => ?_)
      · rw [e121, zSR_1 hA (by omega)] at q0
        repeat (with_reducible refine And.intro ?_ ?_; · first | omega | (simp only [z32, z64]; omega))
        refine ih _ (by omega) (j + 1) H rfl (by omega) hm (zSR_c hD (fun x => ?_))
        rw [zDn_j hi (by omega)]
        exact ⟨Or.inl, fun h => h.elim id (fun h => absurd h.2.1 q0)⟩
      · rw [e121, zSR_1 hA (by omega), Classical.not_not] at q0
        rw [ei]
        repeat (with_reducible refine And.intro ?_ ?_; · first | omega | (simp only [z32, z64]; omega))
        refine zc_total pi.1 ?_
        try simp -implicitDefEqProofs only [zgn_0, zgn_s, zct_0, zct_s, Nat.reduceEqDiff, Nat.reduceBEq, Nat.reduceAdd, Nat.reduceSub, Nat.reduceMul, Int.reduceAdd, Int.reduceSub, Int.reduceMul, Int.reduceNeg, Int.reduceLT, Int.reduceLE, Int.reduceEq, Nat.zero_add, true_and, and_true, false_and, and_false, true_imp_iff, false_imp_iff, not_true_eq_false, not_false_eq_true, if_true, if_false, Bool.false_eq_true, ite_true, ite_false, reduceIte, eq_self, Int.toNat_natCast, zst_0, zst_1, zst_2, zst_3, zst_4, true_or, or_true, or_false, false_or, ze_230_0, zB_230_0, ze_230_2, zB_230_2, ze_230_23, zB_230_23, ze_230_37, zB_230_37, ze_230_59, zB_230_59, ze_230_76, zB_230_76, ze_230_79, zB_230_79, ze_230_108, zB_230_108, ze_230_124, zB_230_124, ze_230_146, zB_230_146, ze_230_149, zB_230_149, ze_230_223, zB_230_223, ze_230_229, zB_230_229, ze_230_235, zB_230_235, ze_230_238, zB_230_238, ze_230_267, zB_230_267, ze_230_273, zB_230_273, zbr_t, zbr_f, zrun_c, zmI_s, zmL_s, zmR_s, zgt_0, zgt_s, zln_0, zln_s, zs1_0, zs1_1i, zs1_1r, zs1_1n, zs1_1l, zs1_s, zs2_0, zs2_1i, zs2_1r, zs2_1n, zs2_1l, zs2_s, zcn_eq, zcn_ne, zcn_lt, zcn_ge, zcn_gt, zcn_le, zpu_0, zpu_1, zpu_2, zx_iconst, zx_lconst, zx_ldc, zx_ldc2, zx_null, zx_iload, zx_lload, zx_aload, zx_istore, zx_lstore, zx_astore, zx_iinc, zx_iadd, zx_isub, zx_imul, zx_idiv, zx_irem, zx_iand, zx_ior, zx_ixor, zx_ishl, zx_ishr, zx_iushr, zx_i2b, zx_i2l, zx_l2i, zx_ladd, zx_lmul, zx_ldiv, zx_lrem, zx_land, zx_lor, zx_lshl, zx_lshr, zx_lcmp, zx_dupi, zx_dupr, zx_dup2l, zx_dup2i, zx_pop, zx_ifc, zx_icmp, zx_ifnullN, zx_ifnullS, zx_ifnonN, zx_ifnonS, zx_goto, zx_gotow, zx_switch, zx_iaload, zx_baload, zx_laload, zx_aaload, zx_iastore, zx_bastore, zx_lastore, zx_aastore, zx_alen, zx_newarray, zx_anewarray, zx_new, zx_getI, zx_getL, zx_getR, zx_putI, zx_putZ, zx_putL, zx_putR, zx_callS, zx_callV, zx_objinit, zx_cpyi, zx_cpyl, zx_mmax, zx_mmin, zx_mminl, zx_ireturn, zx_areturn, zx_lreturn, zx_return, zcs_0, zcs_1, zcv_1, zcs_2, zcv_2, zcs_3, zcv_3, zcs_4, zcv_4, zcs_5, zcv_5, zcs_6, zcv_6, zcs_7, zcv_7, Int.reduceToNat, Nat.reduceDiv, Nat.reduceMod, zJ, zC, zK_wA, zN_wA, zR_wA, zS_wA, zA_wA, zK_wR, zN_wR, zR_wR, zS_wR, zA_wR, zK_cp, zN_cp, zR_cp, zS_cp, zA_cp, zK_mp, zN_mp, zR_mp, zS_mp, zA_mp, zfa, zfmm, zfa_1, zfb_1, zfa_2, zfb_2, zfa_3, zfb_3, zfa_4, zfb_4, zfa_5, zfb_5, zfa_6, zfb_6, zfa_7, zfb_7, zfa_8, zfb_8, zfa_9, zfb_9, zfa_10, zfb_10, zfa_12, zfb_12, zfa_20, zfb_20, zfa_21, zfb_21, zfa_30, zfb_30, zfa_48, zfb_48, zfa_60, zfb_60, zfa_61, zfb_61, zfa_65, zfb_65, zfa_97, zfb_97, zfa_100, zfb_100, zfa_120, zfb_120, zfa_124, zfb_124, zfa_500, zfb_500, zfa_792, zfb_792, zfa_2989, zfb_2989, zfm_2, zfn_2, zfm_3, zfn_3, zfm_4, zfn_4, zfm_6, zfn_6, zfm_7, zfn_7, zfm_8, zfn_8, zfm_12, zfn_12, zfm_49, zfn_49, zfm_60, zfn_60, zfm_61, zfn_61, zfm_792, zfn_792, zfm_2989, zfn_2989, Int.zero_add, Int.add_zero, Int.zero_mul, Int.mul_zero, Int.one_mul, Int.mul_one, lk_106 (zmd_lay hm hL0), lr_106_16 (zmd_lay hm hL0), lk_119 (zmd_lay hm hL0), ln_119 (zmd_lay hm hL0), lr_106_17 (zmd_lay hm hL0), lk_120 (zmd_lay hm hL0), ln_120 (zmd_lay hm hL0), lr_106_19 (zmd_lay hm hL0), lk_121 (zmd_lay hm hL0), ln_121 (zmd_lay hm hL0), lr_106_21 (zmd_lay hm hL0), lk_123 (zmd_lay hm hL0), ln_123 (zmd_lay hm hL0), ei, ej]
        repeat (with_reducible refine And.intro ?_ ?_; · first | omega | (simp only [z32, z64]; omega))
        refine zc_total pj.1 ?_
        try simp -implicitDefEqProofs only [zgn_0, zgn_s, zct_0, zct_s, Nat.reduceEqDiff, Nat.reduceBEq, Nat.reduceAdd, Nat.reduceSub, Nat.reduceMul, Int.reduceAdd, Int.reduceSub, Int.reduceMul, Int.reduceNeg, Int.reduceLT, Int.reduceLE, Int.reduceEq, Nat.zero_add, true_and, and_true, false_and, and_false, true_imp_iff, false_imp_iff, not_true_eq_false, not_false_eq_true, if_true, if_false, Bool.false_eq_true, ite_true, ite_false, reduceIte, eq_self, Int.toNat_natCast, zst_0, zst_1, zst_2, zst_3, zst_4, true_or, or_true, or_false, false_or, ze_230_0, zB_230_0, ze_230_2, zB_230_2, ze_230_23, zB_230_23, ze_230_37, zB_230_37, ze_230_59, zB_230_59, ze_230_76, zB_230_76, ze_230_79, zB_230_79, ze_230_108, zB_230_108, ze_230_124, zB_230_124, ze_230_146, zB_230_146, ze_230_149, zB_230_149, ze_230_223, zB_230_223, ze_230_229, zB_230_229, ze_230_235, zB_230_235, ze_230_238, zB_230_238, ze_230_267, zB_230_267, ze_230_273, zB_230_273, zbr_t, zbr_f, zrun_c, zmI_s, zmL_s, zmR_s, zgt_0, zgt_s, zln_0, zln_s, zs1_0, zs1_1i, zs1_1r, zs1_1n, zs1_1l, zs1_s, zs2_0, zs2_1i, zs2_1r, zs2_1n, zs2_1l, zs2_s, zcn_eq, zcn_ne, zcn_lt, zcn_ge, zcn_gt, zcn_le, zpu_0, zpu_1, zpu_2, zx_iconst, zx_lconst, zx_ldc, zx_ldc2, zx_null, zx_iload, zx_lload, zx_aload, zx_istore, zx_lstore, zx_astore, zx_iinc, zx_iadd, zx_isub, zx_imul, zx_idiv, zx_irem, zx_iand, zx_ior, zx_ixor, zx_ishl, zx_ishr, zx_iushr, zx_i2b, zx_i2l, zx_l2i, zx_ladd, zx_lmul, zx_ldiv, zx_lrem, zx_land, zx_lor, zx_lshl, zx_lshr, zx_lcmp, zx_dupi, zx_dupr, zx_dup2l, zx_dup2i, zx_pop, zx_ifc, zx_icmp, zx_ifnullN, zx_ifnullS, zx_ifnonN, zx_ifnonS, zx_goto, zx_gotow, zx_switch, zx_iaload, zx_baload, zx_laload, zx_aaload, zx_iastore, zx_bastore, zx_lastore, zx_aastore, zx_alen, zx_newarray, zx_anewarray, zx_new, zx_getI, zx_getL, zx_getR, zx_putI, zx_putZ, zx_putL, zx_putR, zx_callS, zx_callV, zx_objinit, zx_cpyi, zx_cpyl, zx_mmax, zx_mmin, zx_mminl, zx_ireturn, zx_areturn, zx_lreturn, zx_return, zcs_0, zcs_1, zcv_1, zcs_2, zcv_2, zcs_3, zcv_3, zcs_4, zcv_4, zcs_5, zcv_5, zcs_6, zcv_6, zcs_7, zcv_7, Int.reduceToNat, Nat.reduceDiv, Nat.reduceMod, zJ, zC, zK_wA, zN_wA, zR_wA, zS_wA, zA_wA, zK_wR, zN_wR, zR_wR, zS_wR, zA_wR, zK_cp, zN_cp, zR_cp, zS_cp, zA_cp, zK_mp, zN_mp, zR_mp, zS_mp, zA_mp, zfa, zfmm, zfa_1, zfb_1, zfa_2, zfb_2, zfa_3, zfb_3, zfa_4, zfb_4, zfa_5, zfb_5, zfa_6, zfb_6, zfa_7, zfb_7, zfa_8, zfb_8, zfa_9, zfb_9, zfa_10, zfb_10, zfa_12, zfb_12, zfa_20, zfb_20, zfa_21, zfb_21, zfa_30, zfb_30, zfa_48, zfb_48, zfa_60, zfb_60, zfa_61, zfb_61, zfa_65, zfb_65, zfa_97, zfb_97, zfa_100, zfb_100, zfa_120, zfb_120, zfa_124, zfb_124, zfa_500, zfb_500, zfa_792, zfb_792, zfa_2989, zfb_2989, zfm_2, zfn_2, zfm_3, zfn_3, zfm_4, zfn_4, zfm_6, zfn_6, zfm_7, zfn_7, zfm_8, zfn_8, zfm_12, zfn_12, zfm_49, zfn_49, zfm_60, zfn_60, zfm_61, zfn_61, zfm_792, zfn_792, zfm_2989, zfn_2989, Int.zero_add, Int.add_zero, Int.zero_mul, Int.mul_zero, Int.one_mul, Int.mul_one, lk_106 (zmd_lay hm hL0), lr_106_16 (zmd_lay hm hL0), lk_119 (zmd_lay hm hL0), ln_119 (zmd_lay hm hL0), lr_106_17 (zmd_lay hm hL0), lk_120 (zmd_lay hm hL0), ln_120 (zmd_lay hm hL0), lr_106_19 (zmd_lay hm hL0), lk_121 (zmd_lay hm hL0), ln_121 (zmd_lay hm hL0), lr_106_21 (zmd_lay hm hL0), lk_123 (zmd_lay hm hL0), ln_123 (zmd_lay hm hL0), ei, ej]
        repeat (with_reducible refine And.intro ?_ ?_; · first | omega | (simp only [z32, z64]; omega))
        refine zbr_i (fun q1 => ?_) (fun q1 => ?_)
        · repeat (with_reducible refine And.intro ?_ ?_; · first | omega | (simp only [z32, z64]; omega))
          refine ih _ (by omega) (j + 1) H rfl (by omega) hm (zSR_c hD (fun x => ?_))
          rw [zDn_j hi (by omega)]
          exact ⟨Or.inl, fun h => h.elim id (fun h => absurd h.2.2.1 (by omega))⟩
        · have tt := ztot_a pi.1 pj.1 (by omega)
          have qq := zqs_q tt.1 (by omega)
          have e120 : zA H 120 (zqs i + zqs j) = (zqn (zqs i + zqs j) : Nat) := by
            rw [hm.2.2.2 120 _ rfl, hM.2.1 _ tt.1, if_pos (by omega)]
          try simp -implicitDefEqProofs only [zgn_0, zgn_s, zct_0, zct_s, Nat.reduceEqDiff, Nat.reduceBEq, Nat.reduceAdd, Nat.reduceSub, Nat.reduceMul, Int.reduceAdd, Int.reduceSub, Int.reduceMul, Int.reduceNeg, Int.reduceLT, Int.reduceLE, Int.reduceEq, Nat.zero_add, true_and, and_true, false_and, and_false, true_imp_iff, false_imp_iff, not_true_eq_false, not_false_eq_true, if_true, if_false, Bool.false_eq_true, ite_true, ite_false, reduceIte, eq_self, Int.toNat_natCast, zst_0, zst_1, zst_2, zst_3, zst_4, true_or, or_true, or_false, false_or, ze_230_0, zB_230_0, ze_230_2, zB_230_2, ze_230_23, zB_230_23, ze_230_37, zB_230_37, ze_230_59, zB_230_59, ze_230_76, zB_230_76, ze_230_79, zB_230_79, ze_230_108, zB_230_108, ze_230_124, zB_230_124, ze_230_146, zB_230_146, ze_230_149, zB_230_149, ze_230_223, zB_230_223, ze_230_229, zB_230_229, ze_230_235, zB_230_235, ze_230_238, zB_230_238, ze_230_267, zB_230_267, ze_230_273, zB_230_273, zbr_t, zbr_f, zrun_c, zmI_s, zmL_s, zmR_s, zgt_0, zgt_s, zln_0, zln_s, zs1_0, zs1_1i, zs1_1r, zs1_1n, zs1_1l, zs1_s, zs2_0, zs2_1i, zs2_1r, zs2_1n, zs2_1l, zs2_s, zcn_eq, zcn_ne, zcn_lt, zcn_ge, zcn_gt, zcn_le, zpu_0, zpu_1, zpu_2, zx_iconst, zx_lconst, zx_ldc, zx_ldc2, zx_null, zx_iload, zx_lload, zx_aload, zx_istore, zx_lstore, zx_astore, zx_iinc, zx_iadd, zx_isub, zx_imul, zx_idiv, zx_irem, zx_iand, zx_ior, zx_ixor, zx_ishl, zx_ishr, zx_iushr, zx_i2b, zx_i2l, zx_l2i, zx_ladd, zx_lmul, zx_ldiv, zx_lrem, zx_land, zx_lor, zx_lshl, zx_lshr, zx_lcmp, zx_dupi, zx_dupr, zx_dup2l, zx_dup2i, zx_pop, zx_ifc, zx_icmp, zx_ifnullN, zx_ifnullS, zx_ifnonN, zx_ifnonS, zx_goto, zx_gotow, zx_switch, zx_iaload, zx_baload, zx_laload, zx_aaload, zx_iastore, zx_bastore, zx_lastore, zx_aastore, zx_alen, zx_newarray, zx_anewarray, zx_new, zx_getI, zx_getL, zx_getR, zx_putI, zx_putZ, zx_putL, zx_putR, zx_callS, zx_callV, zx_objinit, zx_cpyi, zx_cpyl, zx_mmax, zx_mmin, zx_mminl, zx_ireturn, zx_areturn, zx_lreturn, zx_return, zcs_0, zcs_1, zcv_1, zcs_2, zcv_2, zcs_3, zcv_3, zcs_4, zcv_4, zcs_5, zcv_5, zcs_6, zcv_6, zcs_7, zcv_7, Int.reduceToNat, Nat.reduceDiv, Nat.reduceMod, zJ, zC, zK_wA, zN_wA, zR_wA, zS_wA, zA_wA, zK_wR, zN_wR, zR_wR, zS_wR, zA_wR, zK_cp, zN_cp, zR_cp, zS_cp, zA_cp, zK_mp, zN_mp, zR_mp, zS_mp, zA_mp, zfa, zfmm, zfa_1, zfb_1, zfa_2, zfb_2, zfa_3, zfb_3, zfa_4, zfb_4, zfa_5, zfb_5, zfa_6, zfb_6, zfa_7, zfb_7, zfa_8, zfb_8, zfa_9, zfb_9, zfa_10, zfb_10, zfa_12, zfb_12, zfa_20, zfb_20, zfa_21, zfb_21, zfa_30, zfb_30, zfa_48, zfb_48, zfa_60, zfb_60, zfa_61, zfb_61, zfa_65, zfb_65, zfa_97, zfb_97, zfa_100, zfb_100, zfa_120, zfb_120, zfa_124, zfb_124, zfa_500, zfb_500, zfa_792, zfb_792, zfa_2989, zfb_2989, zfm_2, zfn_2, zfm_3, zfn_3, zfm_4, zfn_4, zfm_6, zfn_6, zfm_7, zfn_7, zfm_8, zfn_8, zfm_12, zfn_12, zfm_49, zfn_49, zfm_60, zfn_60, zfm_61, zfn_61, zfm_792, zfn_792, zfm_2989, zfn_2989, Int.zero_add, Int.add_zero, Int.zero_mul, Int.mul_zero, Int.one_mul, Int.mul_one, lk_106 (zmd_lay hm hL0), lr_106_16 (zmd_lay hm hL0), lk_119 (zmd_lay hm hL0), ln_119 (zmd_lay hm hL0), lr_106_17 (zmd_lay hm hL0), lk_120 (zmd_lay hm hL0), ln_120 (zmd_lay hm hL0), lr_106_19 (zmd_lay hm hL0), lk_121 (zmd_lay hm hL0), ln_121 (zmd_lay hm hL0), lr_106_21 (zmd_lay hm hL0), lk_123 (zmd_lay hm hL0), ln_123 (zmd_lay hm hL0), ei, ej, e120]
          repeat (with_reducible refine And.intro ?_ ?_; · first | omega | (simp only [z32, z64]; omega))
          refine ih _ (by omega) (j + 1) _ rfl (by omega) (zmd_w hm rfl) (fun n hn => ?_)
          rw [zA_wA, Nat.zero_add]
          by_cases en : n = zqn (zqs i + zqs j)
          · rw [if_pos ⟨rfl, en⟩, zcif_p]
            rw [zDn_j hi (by omega), en, qq.2]
            exact Or.inr ⟨hSi, q0, by omega, rfl⟩
          · rw [if_neg (fun q => en q.2)]
            have := hD n hn
            rw [Nat.zero_add] at this
            rw [this]
            refine zcif_c ?_
            rw [zDn_j hi (by omega)]
            refine ⟨Or.inl, fun h => h.elim id (fun h => absurd ?_ en)⟩
            rw [← h.2.2.2, (zqs_p hn).2.2]
