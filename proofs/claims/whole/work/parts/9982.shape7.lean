theorem z8p : ∀ e : Nat, e < 5 → zshl 1 (3 * (e : Int)) = ((8 ^ e : Nat) : Int) ∧ 8 ^ e < 32768 ∧ ztot (8 ^ e) = 1 ∧ 0 < 8 ^ e := by decide +kernel
theorem z8m : ∀ e : Nat, e < 5 → ∀ a : Nat, a < 8 ^ (5 - e) → ztot (8 ^ e * a) = ztot a ∧ 8 ^ e * a < 32768 := by
  intro e he a ha
  have : e = 0 ∨ e = 1 ∨ e = 2 ∨ e = 3 ∨ e = 4 := by omega
  rcases this with rfl | rfl | rfl | rfl | rfl
  · simp only [Nat.pow_zero, Nat.one_mul]
    simp only [Nat.sub_zero, Nat.reducePow] at ha
    exact ⟨trivial, ha⟩
  · simp only [Nat.reduceSub, Nat.reducePow] at ha ⊢
    exact ⟨ztot_8 (by omega), by omega⟩
  · simp only [Nat.reduceSub, Nat.reducePow] at ha ⊢
    rw [show 64 * a = 8 * (8 * a) by omega, ztot_8 (by omega), ztot_8 (by omega)]
    exact ⟨rfl, by omega⟩
  · simp only [Nat.reduceSub, Nat.reducePow] at ha ⊢
    rw [show 512 * a = 8 * (8 * (8 * a)) by omega, ztot_8 (by omega), ztot_8 (by omega), ztot_8 (by omega)]
    exact ⟨rfl, by omega⟩
  · simp only [Nat.reduceSub, Nat.reducePow] at ha ⊢
    rw [show 4096 * a = 8 * (8 * (8 * (8 * a))) by omega, ztot_8 (by omega), ztot_8 (by omega), ztot_8 (by omega), ztot_8 (by omega)]
    exact ⟨rfl, by omega⟩
theorem z8x {h : Nat} (hh : h < 5) : 8 ^ (h + 1) = 8 ∨ 8 ^ (h + 1) = 64 ∨ 8 ^ (h + 1) = 512 ∨ 8 ^ (h + 1) = 4096 ∨ 8 ^ (h + 1) = 32768 := by
  have : h = 0 ∨ h = 1 ∨ h = 2 ∨ h = 3 ∨ h = 4 := by omega
  rcases this with rfl | rfl | rfl | rfl | rfl <;> decide
/-- the shapes of the reference at depth e + 1 -/
def zBq (m : Nat → Nat → Prop) (e c : Nat) : Nat → Prop := zsc (8 ^ e) (zTr m (4 - e) c)
theorem zBq_in {m : Nat → Nat → Prop} {e c : Nat} (he : e < 5) : zIn 32768 (zBq m e c) := by
  rintro x ⟨y, hy, rfl⟩
  have h := zTr_in (m := m) (4 - e) (by omega) c y hy
  rw [show 4 - e + 1 = 5 - e by omega] at h
  have := z8m e he y h.1
  exact ⟨this.2, by rw [this.1]; exact h.2⟩
theorem zBq_0 {m : Nat → Nat → Prop} {e c : Nat} : zBq m e c 0 := ⟨0, zTr_0 c _, rfl⟩
theorem zBq_1 {m : Nat → Nat → Prop} {e c : Nat} : zBq m e c (8 ^ e) := ⟨1, by
  cases 4 - e with
  | zero => exact Or.inr rfl
  | succ h => exact Or.inl rfl, by rw [Nat.mul_one]⟩
theorem zBq_4 {m : Nat → Nat → Prop} {c x : Nat} : zBq m 4 c x ↔ x = 0 ∨ x = 8 ^ 4 := by
  constructor
  · rintro ⟨y, hy, rfl⟩
    have hy : y = 0 ∨ y = 1 := hy
    rcases hy with rfl | rfl
    · exact Or.inl rfl
    · exact Or.inr rfl
  · rintro (rfl | rfl)
    · exact zBq_0
    · exact zBq_1
theorem zBq_s {m : Nat → Nat → Prop} {e c : Nat} (he : e < 4) (x : Nat) : zBq m e c x ↔ zSk (m c) (zBq m (e + 1)) 4 x ∨ x = 0 ∨ x = 8 ^ e := by
  have k : zSk (m c) (zBq m (e + 1)) 4 x ↔ zsc (8 ^ (e + 1)) (zSk (m c) (zTr m (3 - e)) 4) x := by
    have := zsc_Sk (P := 8 ^ (e + 1)) (X := 8 ^ (3 - e + 1)) (f := m c) (A := zTr m (3 - e)) (z8x (by omega)) (fun a ha => (z8m (e + 1) (by omega) a (by rw [show 5 - (e + 1) = 3 - e + 1 by omega]; exact ha)).1) 4 (fun k _ => zTr_in (3 - e) (by omega) k) x
    rw [← this]
    have e3 : 4 - (e + 1) = 3 - e := by omega
    unfold zBq
    rw [e3]
  rw [k]
  unfold zBq
  rw [show 4 - e = 3 - e + 1 by omega]
  have p : 8 ^ (e + 1) = 8 ^ e * 8 := Nat.pow_succ 8 e
  constructor
  · rintro ⟨y, (rfl | ⟨s, hs, rfl⟩), rfl⟩
    · exact Or.inr (Or.inr (Nat.mul_one _))
    · exact Or.inl ⟨s, hs, by rw [p, Nat.mul_assoc]⟩
  · rintro (⟨s, hs, rfl⟩ | rfl | rfl)
    · exact ⟨8 * s, Or.inr ⟨s, hs, rfl⟩, by rw [p, Nat.mul_assoc]⟩
    · exact ⟨0, Or.inr ⟨0, zSk_0 4 (fun k _ => zTr_0 k _), rfl⟩, rfl⟩
    · exact ⟨1, Or.inl rfl, (Nat.mul_one _).symm⟩
set_option maxRecDepth 100000 in
theorem zl_msA {xs : Nat → Int} {L d b1 b2 : Nat} {H0 : zH} {Q : zQ}  (hL0 : zLay H0) (h : zEt xs L d b1 b2 false 227 26 [some (zr (some 106)), some (zi (15840 : Nat)), none, none, none] [] (zMW H0 121 0 15840 (fun _ => 0)) Q) : ∀ (kk : Nat) (i : Nat), 15840 - i = kk → (i ≤ 15840) → zEt xs L d b1 b2 false 227 6 [some (zr (some 106)), some (zi i), none, none, none] [] (zMW H0 121 0 i (fun _ => 0)) Q := by
  intro kk
  induction kk using Nat.strongRecOn with
  | ind kk ih =>
    intro i hkk hi
    refine zgo_at [6, 26] 8 ?_
    try simp -implicitDefEqProofs only [zgn_0, zgn_s, zct_0, zct_s, Nat.reduceEqDiff, Nat.reduceBEq, Nat.reduceAdd, Nat.reduceSub, Nat.reduceMul, Int.reduceAdd, Int.reduceSub, Int.reduceMul, Int.reduceNeg, Int.reduceLT, Int.reduceLE, Int.reduceEq, Nat.zero_add, true_and, and_true, false_and, and_false, true_imp_iff, false_imp_iff, not_true_eq_false, not_false_eq_true, if_true, if_false, Bool.false_eq_true, ite_true, ite_false, reduceIte, eq_self, Int.toNat_natCast, zst_0, zst_1, zst_2, zst_3, zst_4, true_or, or_true, or_false, false_or, ze_227_0, zB_227_0, ze_227_6, zB_227_6, ze_227_26, zB_227_26, ze_227_28, zB_227_28, ze_227_34, zB_227_34, ze_227_67, zB_227_67, ze_227_98, zB_227_98, ze_227_138, zB_227_138, ze_227_144, zB_227_144, zbr_t, zbr_f, zrun_c, zmI_s, zmL_s, zmR_s, zgt_0, zgt_s, zln_0, zln_s, zs1_0, zs1_1i, zs1_1r, zs1_1n, zs1_1l, zs1_s, zs2_0, zs2_1i, zs2_1r, zs2_1n, zs2_1l, zs2_s, zcn_eq, zcn_ne, zcn_lt, zcn_ge, zcn_gt, zcn_le, zpu_0, zpu_1, zpu_2, zx_iconst, zx_lconst, zx_ldc, zx_ldc2, zx_null, zx_iload, zx_lload, zx_aload, zx_istore, zx_lstore, zx_astore, zx_iinc, zx_iadd, zx_isub, zx_imul, zx_idiv, zx_irem, zx_iand, zx_ior, zx_ixor, zx_ishl, zx_ishr, zx_iushr, zx_i2b, zx_i2l, zx_l2i, zx_ladd, zx_lmul, zx_ldiv, zx_lrem, zx_land, zx_lor, zx_lshl, zx_lshr, zx_lcmp, zx_dupi, zx_dupr, zx_dup2l, zx_dup2i, zx_pop, zx_ifc, zx_icmp, zx_ifnullN, zx_ifnullS, zx_ifnonN, zx_ifnonS, zx_goto, zx_gotow, zx_switch, zx_iaload, zx_baload, zx_laload, zx_aaload, zx_iastore, zx_bastore, zx_lastore, zx_aastore, zx_alen, zx_newarray, zx_anewarray, zx_new, zx_getI, zx_getL, zx_getR, zx_putI, zx_putZ, zx_putL, zx_putR, zx_callS, zx_callV, zx_objinit, zx_cpyi, zx_cpyl, zx_mmax, zx_mmin, zx_mminl, zx_ireturn, zx_areturn, zx_lreturn, zx_return, zcs_0, zcs_1, zcv_1, zcs_2, zcv_2, zcs_3, zcv_3, zcs_4, zcv_4, zcs_5, zcv_5, zcs_6, zcv_6, zcs_7, zcv_7, Int.reduceToNat, Nat.reduceDiv, Nat.reduceMod, zJ, zC, zK_wA, zN_wA, zR_wA, zS_wA, zA_wA, zK_wR, zN_wR, zR_wR, zS_wR, zA_wR, zK_cp, zN_cp, zR_cp, zS_cp, zA_cp, zK_mp, zN_mp, zR_mp, zS_mp, zA_mp, zfa, zfmm, zfa_1, zfb_1, zfa_2, zfb_2, zfa_3, zfb_3, zfa_4, zfb_4, zfa_5, zfb_5, zfa_6, zfb_6, zfa_7, zfb_7, zfa_8, zfb_8, zfa_9, zfb_9, zfa_10, zfb_10, zfa_12, zfb_12, zfa_20, zfb_20, zfa_21, zfb_21, zfa_30, zfb_30, zfa_48, zfb_48, zfa_60, zfb_60, zfa_61, zfb_61, zfa_65, zfb_65, zfa_97, zfb_97, zfa_100, zfb_100, zfa_120, zfb_120, zfa_124, zfb_124, zfa_500, zfb_500, zfa_792, zfb_792, zfa_2989, zfb_2989, zfm_2, zfn_2, zfm_3, zfn_3, zfm_4, zfn_4, zfm_6, zfn_6, zfm_7, zfn_7, zfm_8, zfn_8, zfm_12, zfn_12, zfm_49, zfn_49, zfm_60, zfn_60, zfm_61, zfn_61, zfm_792, zfn_792, zfm_2989, zfn_2989, Int.zero_add, Int.add_zero, Int.zero_mul, Int.mul_zero, Int.one_mul, Int.mul_one, lk_106 hL0, lr_106_19 hL0, lk_121 hL0, ln_121 hL0]
    refine zbr_i (fun q => ?_) (fun q => ?_)
    · have e9 : i = 15840 := by omega
      subst e9
      exact h
    · repeat (with_reducible refine And.intro ?_ ?_; · first | omega | (simp only [z32, z64]; omega))
      have e1 := zMW_s H0 121 0 i (fun _ => 0)
      rw [Nat.zero_add] at e1
      rw [e1]
      exact ih _ (by omega) (i + 1) rfl (by omega)
set_option maxRecDepth 100000 in
theorem zl_msB {xs : Nat → Int} {L d b1 b2 : Nat} {H0 : zH} {Q : zQ} {v1 v2 : Int} {o : Nat} {S : Nat → Prop} (hS : zSR H0 122 0 S) (hL0 : zLay H0) (ho : o ≤ 15048) (h9 : zA H0 106 18 = 792) (h : zEt xs L d b1 b2 false 227 98 [some (zr (some 106)), some (zi v1), some (zi v2), some (zi o), some (zi (792 : Nat))] [] (zMW H0 121 o 792 (zA H0 122)) Q) : ∀ (kk : Nat) (i : Nat), 792 - i = kk → (i ≤ 792) → zEt xs L d b1 b2 false 227 67 [some (zr (some 106)), some (zi v1), some (zi v2), some (zi o), some (zi i)] [] (zMW H0 121 o i (zA H0 122)) Q := by
  intro kk
  induction kk using Nat.strongRecOn with
  | ind kk ih =>
    intro i hkk hi
    refine zgo_at [67, 98] 8 ?_
    try simp -implicitDefEqProofs only [zgn_0, zgn_s, zct_0, zct_s, Nat.reduceEqDiff, Nat.reduceBEq, Nat.reduceAdd, Nat.reduceSub, Nat.reduceMul, Int.reduceAdd, Int.reduceSub, Int.reduceMul, Int.reduceNeg, Int.reduceLT, Int.reduceLE, Int.reduceEq, Nat.zero_add, true_and, and_true, false_and, and_false, true_imp_iff, false_imp_iff, not_true_eq_false, not_false_eq_true, if_true, if_false, Bool.false_eq_true, ite_true, ite_false, reduceIte, eq_self, Int.toNat_natCast, zst_0, zst_1, zst_2, zst_3, zst_4, true_or, or_true, or_false, false_or, ze_227_0, zB_227_0, ze_227_6, zB_227_6, ze_227_26, zB_227_26, ze_227_28, zB_227_28, ze_227_34, zB_227_34, ze_227_67, zB_227_67, ze_227_98, zB_227_98, ze_227_138, zB_227_138, ze_227_144, zB_227_144, zbr_t, zbr_f, zrun_c, zmI_s, zmL_s, zmR_s, zgt_0, zgt_s, zln_0, zln_s, zs1_0, zs1_1i, zs1_1r, zs1_1n, zs1_1l, zs1_s, zs2_0, zs2_1i, zs2_1r, zs2_1n, zs2_1l, zs2_s, zcn_eq, zcn_ne, zcn_lt, zcn_ge, zcn_gt, zcn_le, zpu_0, zpu_1, zpu_2, zx_iconst, zx_lconst, zx_ldc, zx_ldc2, zx_null, zx_iload, zx_lload, zx_aload, zx_istore, zx_lstore, zx_astore, zx_iinc, zx_iadd, zx_isub, zx_imul, zx_idiv, zx_irem, zx_iand, zx_ior, zx_ixor, zx_ishl, zx_ishr, zx_iushr, zx_i2b, zx_i2l, zx_l2i, zx_ladd, zx_lmul, zx_ldiv, zx_lrem, zx_land, zx_lor, zx_lshl, zx_lshr, zx_lcmp, zx_dupi, zx_dupr, zx_dup2l, zx_dup2i, zx_pop, zx_ifc, zx_icmp, zx_ifnullN, zx_ifnullS, zx_ifnonN, zx_ifnonS, zx_goto, zx_gotow, zx_switch, zx_iaload, zx_baload, zx_laload, zx_aaload, zx_iastore, zx_bastore, zx_lastore, zx_aastore, zx_alen, zx_newarray, zx_anewarray, zx_new, zx_getI, zx_getL, zx_getR, zx_putI, zx_putZ, zx_putL, zx_putR, zx_callS, zx_callV, zx_objinit, zx_cpyi, zx_cpyl, zx_mmax, zx_mmin, zx_mminl, zx_ireturn, zx_areturn, zx_lreturn, zx_return, zcs_0, zcs_1, zcv_1, zcs_2, zcv_2, zcs_3, zcv_3, zcs_4, zcv_4, zcs_5, zcv_5, zcs_6, zcv_6, zcs_7, zcv_7, Int.reduceToNat, Nat.reduceDiv, Nat.reduceMod, zJ, zC, zK_wA, zN_wA, zR_wA, zS_wA, zA_wA, zK_wR, zN_wR, zR_wR, zS_wR, zA_wR, zK_cp, zN_cp, zR_cp, zS_cp, zA_cp, zK_mp, zN_mp, zR_mp, zS_mp, zA_mp, zfa, zfmm, zfa_1, zfb_1, zfa_2, zfb_2, zfa_3, zfb_3, zfa_4, zfb_4, zfa_5, zfb_5, zfa_6, zfb_6, zfa_7, zfb_7, zfa_8, zfb_8, zfa_9, zfb_9, zfa_10, zfb_10, zfa_12, zfb_12, zfa_20, zfb_20, zfa_21, zfb_21, zfa_30, zfb_30, zfa_48, zfb_48, zfa_60, zfb_60, zfa_61, zfb_61, zfa_65, zfb_65, zfa_97, zfb_97, zfa_100, zfb_100, zfa_120, zfb_120, zfa_124, zfb_124, zfa_500, zfb_500, zfa_792, zfb_792, zfa_2989, zfb_2989, zfm_2, zfn_2, zfm_3, zfn_3, zfm_4, zfn_4, zfm_6, zfn_6, zfm_7, zfn_7, zfm_8, zfn_8, zfm_12, zfn_12, zfm_49, zfn_49, zfm_60, zfn_60, zfm_61, zfn_61, zfm_792, zfn_792, zfm_2989, zfn_2989, Int.zero_add, Int.add_zero, Int.zero_mul, Int.mul_zero, Int.one_mul, Int.mul_one, lk_106 hL0, lr_106_19 hL0, lk_121 hL0, ln_121 hL0, lr_106_20 hL0, lk_122 hL0, ln_122 hL0, h9]
    refine zbr_i (fun q => ?_) (fun q => ?_)
    · have e9 : i = 792 := by omega
      subst e9
      exact h
    · have hb := zSR_b hS (i := i) (by omega)
      repeat (with_reducible refine And.intro ?_ ?_; · first | omega | (simp only [z32, z64]; omega))
      rw [zMW_s H0 121 o i (zA H0 122)]
      exact ih _ (by omega) (i + 1) rfl (by omega)
set_option maxRecDepth 100000 in
theorem zc_msC {xs : Nat → Int} {L d b1 b2 : Nat} {H0 : zH} {Q : zQ} {H : zH} {e k : Nat} {w4 : Option zV} {D : Nat → Prop} (hL0 : zLay H0) (hd : 2 ≤ d) (hM : zMS H0) (he : e < 5) (hk : k < 4) (hm : zmd (zin [121, 122, 123] []) H0 H) (hD : zSR H 121 (792 * (4 * e + k)) D) (h : ∀ G : zH, zmd (zin [121] []) H G → zSR G 121 (792 * (4 * e + k)) (fun x => D x ∨ x = 0 ∨ x = 8 ^ e) → (∀ a c i : Nat, c < 4 → i < 792 → ¬ (a = e ∧ c = k) → zA G 121 (792 * (4 * a + c) + i) = zA H 121 (792 * (4 * a + c) + i)) → zEt xs L d b1 b2 false 227 34 [some (zr (some 106)), some (zi (e + 1 : Nat)), some (zi (k + 1 : Nat)), some (zi (792 * (4 * e + k) : Nat)), w4] [] G Q) : zEt xs L d b1 b2 false 227 98 [some (zr (some 106)), some (zi (e + 1 : Nat)), some (zi k), some (zi (792 * (4 * e + k) : Nat)), w4] [] H Q := by
  have hL := zmd_lay hm hL0
  have h8 := z8p e he
  have hMH := zMS_md hm rfl (fun _ => rfl) (fun _ => rfl) hM
  have e0 : zA H 120 0 = 0 := by rw [hMH.2.1 0 (by omega)]; rfl
  have hq8 := zqs_q h8.2.1 (by omega)
  have e8 : zA H 120 (8 ^ e) = (zqn (8 ^ e) : Nat) := by rw [hMH.2.1 _ h8.2.1, if_pos (by omega)]
  have ee : ((e + 1 : Nat) : Int) - 1 = (e : Nat) := by omega
  have h81 : zshl 1 ((3 * e : Nat) : Int) = ((8 ^ e : Nat) : Int) := by rw [← h8.1]; congr 1
  refine zgo_at [34] 4 ?_
  try simp -implicitDefEqProofs only [zgn_0, zgn_s, zct_0, zct_s, Nat.reduceEqDiff, Nat.reduceBEq, Nat.reduceAdd, Nat.reduceSub, Nat.reduceMul, Int.reduceAdd, Int.reduceSub, Int.reduceMul, Int.reduceNeg, Int.reduceLT, Int.reduceLE, Int.reduceEq, Nat.zero_add, true_and, and_true, false_and, and_false, true_imp_iff, false_imp_iff, not_true_eq_false, not_false_eq_true, if_true, if_false, Bool.false_eq_true, ite_true, ite_false, reduceIte, eq_self, Int.toNat_natCast, zst_0, zst_1, zst_2, zst_3, zst_4, true_or, or_true, or_false, false_or, ze_227_0, zB_227_0, ze_227_6, zB_227_6, ze_227_26, zB_227_26, ze_227_28, zB_227_28, ze_227_34, zB_227_34, ze_227_67, zB_227_67, ze_227_98, zB_227_98, ze_227_138, zB_227_138, ze_227_144, zB_227_144, zbr_t, zbr_f, zrun_c, zmI_s, zmL_s, zmR_s, zgt_0, zgt_s, zln_0, zln_s, zs1_0, zs1_1i, zs1_1r, zs1_1n, zs1_1l, zs1_s, zs2_0, zs2_1i, zs2_1r, zs2_1n, zs2_1l, zs2_s, zcn_eq, zcn_ne, zcn_lt, zcn_ge, zcn_gt, zcn_le, zpu_0, zpu_1, zpu_2, zx_iconst, zx_lconst, zx_ldc, zx_ldc2, zx_null, zx_iload, zx_lload, zx_aload, zx_istore, zx_lstore, zx_astore, zx_iinc, zx_iadd, zx_isub, zx_imul, zx_idiv, zx_irem, zx_iand, zx_ior, zx_ixor, zx_ishl, zx_ishr, zx_iushr, zx_i2b, zx_i2l, zx_l2i, zx_ladd, zx_lmul, zx_ldiv, zx_lrem, zx_land, zx_lor, zx_lshl, zx_lshr, zx_lcmp, zx_dupi, zx_dupr, zx_dup2l, zx_dup2i, zx_pop, zx_ifc, zx_icmp, zx_ifnullN, zx_ifnullS, zx_ifnonN, zx_ifnonS, zx_goto, zx_gotow, zx_switch, zx_iaload, zx_baload, zx_laload, zx_aaload, zx_iastore, zx_bastore, zx_lastore, zx_aastore, zx_alen, zx_newarray, zx_anewarray, zx_new, zx_getI, zx_getL, zx_getR, zx_putI, zx_putZ, zx_putL, zx_putR, zx_callS, zx_callV, zx_objinit, zx_cpyi, zx_cpyl, zx_mmax, zx_mmin, zx_mminl, zx_ireturn, zx_areturn, zx_lreturn, zx_return, zcs_0, zcs_1, zcv_1, zcs_2, zcv_2, zcs_3, zcv_3, zcs_4, zcv_4, zcs_5, zcv_5, zcs_6, zcv_6, zcs_7, zcv_7, Int.reduceToNat, Nat.reduceDiv, Nat.reduceMod, zJ, zC, zK_wA, zN_wA, zR_wA, zS_wA, zA_wA, zK_wR, zN_wR, zR_wR, zS_wR, zA_wR, zK_cp, zN_cp, zR_cp, zS_cp, zA_cp, zK_mp, zN_mp, zR_mp, zS_mp, zA_mp, zfa, zfmm, zfa_1, zfb_1, zfa_2, zfb_2, zfa_3, zfb_3, zfa_4, zfb_4, zfa_5, zfb_5, zfa_6, zfb_6, zfa_7, zfb_7, zfa_8, zfb_8, zfa_9, zfb_9, zfa_10, zfb_10, zfa_12, zfb_12, zfa_20, zfb_20, zfa_21, zfb_21, zfa_30, zfb_30, zfa_48, zfb_48, zfa_60, zfb_60, zfa_61, zfb_61, zfa_65, zfb_65, zfa_97, zfb_97, zfa_100, zfb_100, zfa_120, zfb_120, zfa_124, zfb_124, zfa_500, zfb_500, zfa_792, zfb_792, zfa_2989, zfb_2989, zfm_2, zfn_2, zfm_3, zfn_3, zfm_4, zfn_4, zfm_6, zfn_6, zfm_7, zfn_7, zfm_8, zfn_8, zfm_12, zfn_12, zfm_49, zfn_49, zfm_60, zfn_60, zfm_61, zfn_61, zfm_792, zfn_792, zfm_2989, zfn_2989, Int.zero_add, Int.add_zero, Int.zero_mul, Int.mul_zero, Int.one_mul, Int.mul_one, lk_106 hL, lr_106_17 hL, lk_120 hL, ln_120 hL, lr_106_19 hL, lk_121 hL, ln_121 hL, e0, e8, ee, h81]
  repeat (with_reducible refine And.intro ?_ ?_; · first | omega | (simp only [z32, z64]; omega))
  have hz0 : zqs 0 = 0 := (zqs_q (x := 0) (by omega) (by decide)).2
  refine h _ (zmd_w (zmd_w (zmd_rf _ _) rfl) rfl) (fun i hi => ?_) (fun a c i hc hi hn => ?_)
  · rw [zA_wA, zA_wA]
    have pi := zqs_p hi
    by_cases e1 : i = zqn (8 ^ e)
    · rw [if_pos ⟨rfl, by rw [e1]⟩, zcif_p]
      rw [e1, hq8.2]
      exact Or.inr (Or.inr rfl)
    · rw [if_neg (fun q => e1 (by have := q.2; omega))]
      by_cases e2 : i = 0
      · subst e2
        rw [if_pos ⟨rfl, rfl⟩, zcif_p]
        exact Or.inr (Or.inl hz0)
      · rw [if_neg (fun q => e2 (by have := q.2; omega)), hD i hi]
        refine zcif_c ⟨Or.inl, fun q => q.elim id (fun q => q.elim (fun q => ?_) (fun q => ?_))⟩
        · rw [q] at pi; exact absurd pi.2.2.symm e2
        · rw [q] at pi; exact absurd pi.2.2.symm e1
  · rw [zA_wA, zA_wA, if_neg (fun q => ?_), if_neg (fun q => ?_)]
    · have := q.2; clear hD hMH h; omega
    · have := q.2; clear hD hMH h; omega
set_option maxRecDepth 100000 in
theorem zl_msD {xs : Nat → Int} {L d b1 b2 : Nat} {H0 : zH} {Q : zQ} {e : Nat} (hL0 : zLay H0) (hd : 2 ≤ d) (hM : zMS H0) (he : e < 5) (h : ∀ (H : zH) (w3 w4 : Option zV), zmd (zin [121, 122, 123] []) H0 H → (∀ a c : Nat, a < 5 → c < 4 → e ≤ a → zSR H 121 (792 * (4 * a + c)) (zBq (fun c k => zA H0 112 (8 * c + k) ≠ 0) a c)) → (∀ a c i : Nat, a < 5 → c < 4 → i < 792 → a < e → zA H 121 (792 * (4 * a + c) + i) = 0) → zEt xs L d b1 b2 false 227 138 [some (zr (some 106)), some (zi (e + 1 : Nat)), some (zi (4 : Nat)), w3, w4] [] H Q) : ∀ (kk : Nat) (k : Nat) (H : zH) (w3 : Option zV) (w4 : Option zV), 4 - k = kk → (k ≤ 4) → (zmd (zin [121, 122, 123] []) H0 H) → (∀ a c : Nat, a < 5 → c < 4 → (e < a ∨ (a = e ∧ c < k)) → zSR H 121 (792 * (4 * a + c)) (zBq (fun c k => zA H0 112 (8 * c + k) ≠ 0) a c)) → (∀ a c i : Nat, a < 5 → c < 4 → i < 792 → (a < e ∨ (a = e ∧ k ≤ c)) → zA H 121 (792 * (4 * a + c) + i) = 0) → zEt xs L d b1 b2 false 227 34 [some (zr (some 106)), some (zi (e + 1 : Nat)), some (zi k), w3, w4] [] H Q := by
  intro kk
  induction kk using Nat.strongRecOn with
  | ind kk ih =>
    intro k H w3 w4 hkk hk hm hC hZ
    refine zgo_at [34, 67, 98, 138] 8 ?_
    try simp -implicitDefEqProofs only [zgn_0, zgn_s, zct_0, zct_s, Nat.reduceEqDiff, Nat.reduceBEq, Nat.reduceAdd, Nat.reduceSub, Nat.reduceMul, Int.reduceAdd, Int.reduceSub, Int.reduceMul, Int.reduceNeg, Int.reduceLT, Int.reduceLE, Int.reduceEq, Nat.zero_add, true_and, and_true, false_and, and_false, true_imp_iff, false_imp_iff, not_true_eq_false, not_false_eq_true, if_true, if_false, Bool.false_eq_true, ite_true, ite_false, reduceIte, eq_self, Int.toNat_natCast, zst_0, zst_1, zst_2, zst_3, zst_4, true_or, or_true, or_false, false_or, ze_227_0, zB_227_0, ze_227_6, zB_227_6, ze_227_26, zB_227_26, ze_227_28, zB_227_28, ze_227_34, zB_227_34, ze_227_67, zB_227_67, ze_227_98, zB_227_98, ze_227_138, zB_227_138, ze_227_144, zB_227_144, zbr_t, zbr_f, zrun_c, zmI_s, zmL_s, zmR_s, zgt_0, zgt_s, zln_0, zln_s, zs1_0, zs1_1i, zs1_1r, zs1_1n, zs1_1l, zs1_s, zs2_0, zs2_1i, zs2_1r, zs2_1n, zs2_1l, zs2_s, zcn_eq, zcn_ne, zcn_lt, zcn_ge, zcn_gt, zcn_le, zpu_0, zpu_1, zpu_2, zx_iconst, zx_lconst, zx_ldc, zx_ldc2, zx_null, zx_iload, zx_lload, zx_aload, zx_istore, zx_lstore, zx_astore, zx_iinc, zx_iadd, zx_isub, zx_imul, zx_idiv, zx_irem, zx_iand, zx_ior, zx_ixor, zx_ishl, zx_ishr, zx_iushr, zx_i2b, zx_i2l, zx_l2i, zx_ladd, zx_lmul, zx_ldiv, zx_lrem, zx_land, zx_lor, zx_lshl, zx_lshr, zx_lcmp, zx_dupi, zx_dupr, zx_dup2l, zx_dup2i, zx_pop, zx_ifc, zx_icmp, zx_ifnullN, zx_ifnullS, zx_ifnonN, zx_ifnonS, zx_goto, zx_gotow, zx_switch, zx_iaload, zx_baload, zx_laload, zx_aaload, zx_iastore, zx_bastore, zx_lastore, zx_aastore, zx_alen, zx_newarray, zx_anewarray, zx_new, zx_getI, zx_getL, zx_getR, zx_putI, zx_putZ, zx_putL, zx_putR, zx_callS, zx_callV, zx_objinit, zx_cpyi, zx_cpyl, zx_mmax, zx_mmin, zx_mminl, zx_ireturn, zx_areturn, zx_lreturn, zx_return, zcs_0, zcs_1, zcv_1, zcs_2, zcv_2, zcs_3, zcv_3, zcs_4, zcv_4, zcs_5, zcv_5, zcs_6, zcv_6, zcs_7, zcv_7, Int.reduceToNat, Nat.reduceDiv, Nat.reduceMod, zJ, zC, zK_wA, zN_wA, zR_wA, zS_wA, zA_wA, zK_wR, zN_wR, zR_wR, zS_wR, zA_wR, zK_cp, zN_cp, zR_cp, zS_cp, zA_cp, zK_mp, zN_mp, zR_mp, zS_mp, zA_mp, zfa, zfmm, zfa_1, zfb_1, zfa_2, zfb_2, zfa_3, zfb_3, zfa_4, zfb_4, zfa_5, zfb_5, zfa_6, zfb_6, zfa_7, zfb_7, zfa_8, zfb_8, zfa_9, zfb_9, zfa_10, zfb_10, zfa_12, zfb_12, zfa_20, zfb_20, zfa_21, zfb_21, zfa_30, zfb_30, zfa_48, zfb_48, zfa_60, zfb_60, zfa_61, zfb_61, zfa_65, zfb_65, zfa_97, zfb_97, zfa_100, zfb_100, zfa_120, zfb_120, zfa_124, zfb_124, zfa_500, zfb_500, zfa_792, zfb_792, zfa_2989, zfb_2989, zfm_2, zfn_2, zfm_3, zfn_3, zfm_4, zfn_4, zfm_6, zfn_6, zfm_7, zfn_7, zfm_8, zfn_8, zfm_12, zfn_12, zfm_49, zfn_49, zfm_60, zfn_60, zfm_61, zfn_61, zfm_792, zfn_792, zfm_2989, zfn_2989, Int.zero_add, Int.add_zero, Int.zero_mul, Int.mul_zero, Int.one_mul, Int.mul_one, lk_106 (zmd_lay hm hL0)]
    refine zbr_i (fun q => ?_) (fun q => ?_)
    · have e9 : k = 4 := by omega
      subst e9
      exact h H w3 w4 hm (fun a c h1 h2 h3 => hC a c h1 h2 (by omega)) (fun a c i h1 h2 h3 h4 => hZ a c i h1 h2 h3 (by omega))
    · have ee : ((e + 1 : Nat) : Int) - 1 = (e : Nat) := by omega
      have hL := zmd_lay hm hL0
      have hMH := zMS_md hm rfl (fun _ => rfl) (fun _ => rfl) hM
      rw [ee, show (4 : Int) * (e : Nat) = ((4 * e : Nat) : Int) by omega, show ((4 * e : Nat) : Int) + (k : Nat) = ((4 * e + k : Nat) : Int) by omega, show (792 : Int) * ((4 * e + k : Nat) : Int) = ((792 * (4 * e + k) : Nat) : Int) by omega]
      repeat (with_reducible refine And.intro ?_ ?_; · first | omega | (simp only [z32, z64]; omega))
      have fin : ∀ (D : Nat → Prop) (H1 : zH) (w4 : Option zV), zmd (zin [121, 122, 123] []) H0 H1 → zSR H1 121 (792 * (4 * e + k)) D → (∀ x : Nat, (D x ∨ x = 0 ∨ x = 8 ^ e) ↔ zBq (fun c k => zA H0 112 (8 * c + k) ≠ 0) e k x) → (∀ a c i : Nat, c < 4 → i < 792 → ¬ (a = e ∧ c = k) → zA H1 121 (792 * (4 * a + c) + i) = zA H 121 (792 * (4 * a + c) + i)) → zEt xs L d b1 b2 false 227 98 [some (zr (some 106)), some (zi (e + 1 : Nat)), some (zi k), some (zi (792 * (4 * e + k) : Nat)), w4] [] H1 Q := by
        intro D H1 w4 hm1 hD1 hE1 hO1
        refine zc_msC hL0 hd hM he (by omega) hm1 hD1 (fun G hmG hG hOG => ?_)
        refine ih _ (by omega) (k + 1) G _ _ rfl (by omega) (zmd_tr hm1 (zmd_up hmG rfl)) (fun a c h1 h2 h3 => ?_) (fun a c i h1 h2 h3 h4 => ?_)
        · by_cases q1 : a = e ∧ c = k
          · obtain ⟨rfl, rfl⟩ := q1
            exact zSR_c hG hE1
          · intro i hi
            rw [hOG a c i h2 hi q1, hO1 a c i h2 hi q1]
            exact hC a c h1 h2 (by omega) i hi
        · rw [hOG a c i h2 h3 (by omega), hO1 a c i h2 h3 (by omega)]
          exact hZ a c i h1 h2 h3 (by omega)
      refine zbr_i (fun q1 => ?_) (fun q1 => ?_)
      · have e4 : e = 4 := by omega
        subst e4
        refine fin (fun _ => False) H _ hm (fun i hi => ?_) (fun x => ?_) (fun _ _ _ _ _ _ => rfl)
        · rw [hZ 4 k i (by omega) (by omega) hi (by omega), zcif_n id]
        · rw [zBq_4]
          exact ⟨fun q => q.elim False.elim id, Or.inr⟩
      · have e1 : ((e + 1 : Nat) : Int) + 1 = ((e + 1 + 1 : Nat) : Int) := by omega
        repeat (with_reducible refine And.intro ?_ ?_; · first | omega | (simp only [z32, z64]; omega))
        refine zc_behind (H0 := H) (v1 := (k : Int)) (e := e + 1) (f := fun j => zA H0 112 (8 * k + j) ≠ 0) (A := zBq (fun c k => zA H0 112 (8 * c + k) ≠ 0) (e + 1)) hL (by omega) hMH (by omega) (fun j hj => hC (e + 1) j (by omega) hj (by omega)) (fun j hj => zBq_in (by omega)) (fun j hj => zBq_0) (Or.inr ⟨k, by omega, rfl, fun j hj => by rw [hm.2.2.2 112 _ rfl]⟩) (fun H1 hm1 hS1 => ?_)
        have hL1 := zmd_lay hm1 hL
        have hM1 := zMS_md hm1 rfl (fun _ => rfl) (fun _ => rfl) hMH
        try simp -implicitDefEqProofs only [zgn_0, zgn_s, zct_0, zct_s, Nat.reduceEqDiff, Nat.reduceBEq, Nat.reduceAdd, Nat.reduceSub, Nat.reduceMul, Int.reduceAdd, Int.reduceSub, Int.reduceMul, Int.reduceNeg, Int.reduceLT, Int.reduceLE, Int.reduceEq, Nat.zero_add, true_and, and_true, false_and, and_false, true_imp_iff, false_imp_iff, not_true_eq_false, not_false_eq_true, if_true, if_false, Bool.false_eq_true, ite_true, ite_false, reduceIte, eq_self, Int.toNat_natCast, zst_0, zst_1, zst_2, zst_3, zst_4, true_or, or_true, or_false, false_or, ze_227_0, zB_227_0, ze_227_6, zB_227_6, ze_227_26, zB_227_26, ze_227_28, zB_227_28, ze_227_34, zB_227_34, ze_227_67, zB_227_67, ze_227_98, zB_227_98, ze_227_138, zB_227_138, ze_227_144, zB_227_144, zbr_t, zbr_f, zrun_c, zmI_s, zmL_s, zmR_s, zgt_0, zgt_s, zln_0, zln_s, zs1_0, zs1_1i, zs1_1r, zs1_1n, zs1_1l, zs1_s, zs2_0, zs2_1i, zs2_1r, zs2_1n, zs2_1l, zs2_s, zcn_eq, zcn_ne, zcn_lt, zcn_ge, zcn_gt, zcn_le, zpu_0, zpu_1, zpu_2, zx_iconst, zx_lconst, zx_ldc, zx_ldc2, zx_null, zx_iload, zx_lload, zx_aload, zx_istore, zx_lstore, zx_astore, zx_iinc, zx_iadd, zx_isub, zx_imul, zx_idiv, zx_irem, zx_iand, zx_ior, zx_ixor, zx_ishl, zx_ishr, zx_iushr, zx_i2b, zx_i2l, zx_l2i, zx_ladd, zx_lmul, zx_ldiv, zx_lrem, zx_land, zx_lor, zx_lshl, zx_lshr, zx_lcmp, zx_dupi, zx_dupr, zx_dup2l, zx_dup2i, zx_pop, zx_ifc, zx_icmp, zx_ifnullN, zx_ifnullS, zx_ifnonN, zx_ifnonS, zx_goto, zx_gotow, zx_switch, zx_iaload, zx_baload, zx_laload, zx_aaload, zx_iastore, zx_bastore, zx_lastore, zx_aastore, zx_alen, zx_newarray, zx_anewarray, zx_new, zx_getI, zx_getL, zx_getR, zx_putI, zx_putZ, zx_putL, zx_putR, zx_callS, zx_callV, zx_objinit, zx_cpyi, zx_cpyl, zx_mmax, zx_mmin, zx_mminl, zx_ireturn, zx_areturn, zx_lreturn, zx_return, zcs_0, zcs_1, zcv_1, zcs_2, zcv_2, zcs_3, zcv_3, zcs_4, zcv_4, zcs_5, zcv_5, zcs_6, zcv_6, zcs_7, zcv_7, Int.reduceToNat, Nat.reduceDiv, Nat.reduceMod, zJ, zC, zK_wA, zN_wA, zR_wA, zS_wA, zA_wA, zK_wR, zN_wR, zR_wR, zS_wR, zA_wR, zK_cp, zN_cp, zR_cp, zS_cp, zA_cp, zK_mp, zN_mp, zR_mp, zS_mp, zA_mp, zfa, zfmm, zfa_1, zfb_1, zfa_2, zfb_2, zfa_3, zfb_3, zfa_4, zfb_4, zfa_5, zfb_5, zfa_6, zfb_6, zfa_7, zfb_7, zfa_8, zfb_8, zfa_9, zfb_9, zfa_10, zfb_10, zfa_12, zfb_12, zfa_20, zfb_20, zfa_21, zfb_21, zfa_30, zfb_30, zfa_48, zfb_48, zfa_60, zfb_60, zfa_61, zfb_61, zfa_65, zfb_65, zfa_97, zfb_97, zfa_100, zfb_100, zfa_120, zfb_120, zfa_124, zfb_124, zfa_500, zfb_500, zfa_792, zfb_792, zfa_2989, zfb_2989, zfm_2, zfn_2, zfm_3, zfn_3, zfm_4, zfn_4, zfm_6, zfn_6, zfm_7, zfn_7, zfm_8, zfn_8, zfm_12, zfn_12, zfm_49, zfn_49, zfm_60, zfn_60, zfm_61, zfn_61, zfm_792, zfn_792, zfm_2989, zfn_2989, Int.zero_add, Int.add_zero, Int.zero_mul, Int.mul_zero, Int.one_mul, Int.mul_one]
        have b0 := zMW_0 H1 121 (792 * (4 * e + k)) (zA H1 122)
        rw [← b0]
        refine zl_msB hS1 hL1 (by omega) hM1.1 ?_ _ 0 rfl (by omega)
        refine fin _ _ _ (zmd_mp (zmd_tr hm (zmd_up hm1 rfl)) (fun _ => rfl)) (fun i hi => ?_) (fun x => (zBq_s (by omega) x).symm) (fun a c i h2 h3 h4 => ?_)
        · rw [zA_mp, if_pos ⟨rfl, by omega, by omega⟩, show 792 * (4 * e + k) + i - 792 * (4 * e + k) = i by omega]
          have := hS1 i hi
          rw [Nat.zero_add] at this
          exact this
        · rw [zA_mp, if_neg (fun q => ?_), hm1.2.2.2 121 _ rfl]
          have := q.2
          clear hC hZ fin hMH hM1 hS1 h ih
          omega
set_option maxRecDepth 100000 in
theorem zl_msE {xs : Nat → Int} {L d b1 b2 : Nat} {H0 : zH} {Q : zQ}  (hL0 : zLay H0) (hd : 2 ≤ d) (hM : zMS H0) (h : ∀ H : zH, zmd (zin [121, 122, 123] []) H0 H → zSR H 122 0 (zSk (fun k => zA H0 111 k ≠ 0) (zTr (fun c k => zA H0 112 (8 * c + k) ≠ 0) 4) 4) → Q 0 H) : ∀ (kk : Nat) (e : Nat) (H : zH) (w2 : Option zV) (w3 : Option zV) (w4 : Option zV), e = kk → (e ≤ 5) → (zmd (zin [121, 122, 123] []) H0 H) → (∀ a c : Nat, a < 5 → c < 4 → e ≤ a → zSR H 121 (792 * (4 * a + c)) (zBq (fun c k => zA H0 112 (8 * c + k) ≠ 0) a c)) → (∀ a c i : Nat, a < 5 → c < 4 → i < 792 → a < e → zA H 121 (792 * (4 * a + c) + i) = 0) → zEt xs L d b1 b2 false 227 28 [some (zr (some 106)), some (zi e), w2, w3, w4] [] H Q := by
  intro kk
  induction kk using Nat.strongRecOn with
  | ind kk ih =>
    intro e H w2 w3 w4 hkk he hm hC hZ
    refine zgo_at [28, 34] 8 ?_
    try simp -implicitDefEqProofs only [zgn_0, zgn_s, zct_0, zct_s, Nat.reduceEqDiff, Nat.reduceBEq, Nat.reduceAdd, Nat.reduceSub, Nat.reduceMul, Int.reduceAdd, Int.reduceSub, Int.reduceMul, Int.reduceNeg, Int.reduceLT, Int.reduceLE, Int.reduceEq, Nat.zero_add, true_and, and_true, false_and, and_false, true_imp_iff, false_imp_iff, not_true_eq_false, not_false_eq_true, if_true, if_false, Bool.false_eq_true, ite_true, ite_false, reduceIte, eq_self, Int.toNat_natCast, zst_0, zst_1, zst_2, zst_3, zst_4, true_or, or_true, or_false, false_or, ze_227_0, zB_227_0, ze_227_6, zB_227_6, ze_227_26, zB_227_26, ze_227_28, zB_227_28, ze_227_34, zB_227_34, ze_227_67, zB_227_67, ze_227_98, zB_227_98, ze_227_138, zB_227_138, ze_227_144, zB_227_144, zbr_t, zbr_f, zrun_c, zmI_s, zmL_s, zmR_s, zgt_0, zgt_s, zln_0, zln_s, zs1_0, zs1_1i, zs1_1r, zs1_1n, zs1_1l, zs1_s, zs2_0, zs2_1i, zs2_1r, zs2_1n, zs2_1l, zs2_s, zcn_eq, zcn_ne, zcn_lt, zcn_ge, zcn_gt, zcn_le, zpu_0, zpu_1, zpu_2, zx_iconst, zx_lconst, zx_ldc, zx_ldc2, zx_null, zx_iload, zx_lload, zx_aload, zx_istore, zx_lstore, zx_astore, zx_iinc, zx_iadd, zx_isub, zx_imul, zx_idiv, zx_irem, zx_iand, zx_ior, zx_ixor, zx_ishl, zx_ishr, zx_iushr, zx_i2b, zx_i2l, zx_l2i, zx_ladd, zx_lmul, zx_ldiv, zx_lrem, zx_land, zx_lor, zx_lshl, zx_lshr, zx_lcmp, zx_dupi, zx_dupr, zx_dup2l, zx_dup2i, zx_pop, zx_ifc, zx_icmp, zx_ifnullN, zx_ifnullS, zx_ifnonN, zx_ifnonS, zx_goto, zx_gotow, zx_switch, zx_iaload, zx_baload, zx_laload, zx_aaload, zx_iastore, zx_bastore, zx_lastore, zx_aastore, zx_alen, zx_newarray, zx_anewarray, zx_new, zx_getI, zx_getL, zx_getR, zx_putI, zx_putZ, zx_putL, zx_putR, zx_callS, zx_callV, zx_objinit, zx_cpyi, zx_cpyl, zx_mmax, zx_mmin, zx_mminl, zx_ireturn, zx_areturn, zx_lreturn, zx_return, zcs_0, zcs_1, zcv_1, zcs_2, zcv_2, zcs_3, zcv_3, zcs_4, zcv_4, zcs_5, zcv_5, zcs_6, zcv_6, zcs_7, zcv_7, Int.reduceToNat, Nat.reduceDiv, Nat.reduceMod, zJ, zC, zK_wA, zN_wA, zR_wA, zS_wA, zA_wA, zK_wR, zN_wR, zR_wR, zS_wR, zA_wR, zK_cp, zN_cp, zR_cp, zS_cp, zA_cp, zK_mp, zN_mp, zR_mp, zS_mp, zA_mp, zfa, zfmm, zfa_1, zfb_1, zfa_2, zfb_2, zfa_3, zfb_3, zfa_4, zfb_4, zfa_5, zfb_5, zfa_6, zfb_6, zfa_7, zfb_7, zfa_8, zfb_8, zfa_9, zfb_9, zfa_10, zfb_10, zfa_12, zfb_12, zfa_20, zfb_20, zfa_21, zfb_21, zfa_30, zfb_30, zfa_48, zfb_48, zfa_60, zfb_60, zfa_61, zfb_61, zfa_65, zfb_65, zfa_97, zfb_97, zfa_100, zfb_100, zfa_120, zfb_120, zfa_124, zfb_124, zfa_500, zfb_500, zfa_792, zfb_792, zfa_2989, zfb_2989, zfm_2, zfn_2, zfm_3, zfn_3, zfm_4, zfn_4, zfm_6, zfn_6, zfm_7, zfn_7, zfm_8, zfn_8, zfm_12, zfn_12, zfm_49, zfn_49, zfm_60, zfn_60, zfm_61, zfn_61, zfm_792, zfn_792, zfm_2989, zfn_2989, Int.zero_add, Int.add_zero, Int.zero_mul, Int.mul_zero, Int.one_mul, Int.mul_one, lk_106 (zmd_lay hm hL0)]
    refine zbr_i (fun q => ?_) (fun q => ?_)
    · have e9 : e = 0 := by omega
      subst e9
      repeat (with_reducible refine And.intro ?_ ?_; · first | omega | (simp only [z32, z64]; omega))
      refine zc_behind (H0 := H) (v1 := -1) (e := 0) (f := fun k => zA H0 111 k ≠ 0) (A := zBq (fun c k => zA H0 112 (8 * c + k) ≠ 0) 0) (zmd_lay hm hL0) (by omega) (zMS_md hm rfl (fun _ => rfl) (fun _ => rfl) hM) (by omega) (fun j hj => hC 0 j (by omega) hj (by omega)) (fun j hj => zBq_in (by omega)) (fun j hj => zBq_0) (Or.inl ⟨rfl, fun j hj => by rw [hm.2.2.2 111 _ rfl]⟩) (fun H1 hm1 hS1 => ?_)
      refine h H1 (zmd_tr hm (zmd_up hm1 rfl)) (zSR_c hS1 (zSk_c 4 (fun k hk => ⟨Iff.rfl, fun x => ?_⟩)))
      constructor
      · rintro ⟨y, hy, rfl⟩
        rw [Nat.pow_zero, Nat.one_mul]
        exact hy
      · intro hx
        exact ⟨x, hx, by rw [Nat.pow_zero, Nat.one_mul]⟩
    · obtain ⟨e', rfl⟩ : ∃ e', e = e' + 1 := ⟨e - 1, by omega⟩
      refine zl_msD (e := e') hL0 hd hM (by omega) (fun H1 w3 w4 hm1 hC1 hZ1 => ?_) _ 0 H _ _ rfl (by omega) hm (fun a c h1 h2 h3 => hC a c h1 h2 (by omega)) (fun a c i h1 h2 h3 h4 => hZ a c i h1 h2 h3 (by omega))
      refine zgo_at [28] 4 ?_
      try simp -implicitDefEqProofs only [zgn_0, zgn_s, zct_0, zct_s, Nat.reduceEqDiff, Nat.reduceBEq, Nat.reduceAdd, Nat.reduceSub, Nat.reduceMul, Int.reduceAdd, Int.reduceSub, Int.reduceMul, Int.reduceNeg, Int.reduceLT, Int.reduceLE, Int.reduceEq, Nat.zero_add, true_and, and_true, false_and, and_false, true_imp_iff, false_imp_iff, not_true_eq_false, not_false_eq_true, if_true, if_false, Bool.false_eq_true, ite_true, ite_false, reduceIte, eq_self, Int.toNat_natCast, zst_0, zst_1, zst_2, zst_3, zst_4, true_or, or_true, or_false, false_or, ze_227_0, zB_227_0, ze_227_6, zB_227_6, ze_227_26, zB_227_26, ze_227_28, zB_227_28, ze_227_34, zB_227_34, ze_227_67, zB_227_67, ze_227_98, zB_227_98, ze_227_138, zB_227_138, ze_227_144, zB_227_144, zbr_t, zbr_f, zrun_c, zmI_s, zmL_s, zmR_s, zgt_0, zgt_s, zln_0, zln_s, zs1_0, zs1_1i, zs1_1r, zs1_1n, zs1_1l, zs1_s, zs2_0, zs2_1i, zs2_1r, zs2_1n, zs2_1l, zs2_s, zcn_eq, zcn_ne, zcn_lt, zcn_ge, zcn_gt, zcn_le, zpu_0, zpu_1, zpu_2, zx_iconst, zx_lconst, zx_ldc, zx_ldc2, zx_null, zx_iload, zx_lload, zx_aload, zx_istore, zx_lstore, zx_astore, zx_iinc, zx_iadd, zx_isub, zx_imul, zx_idiv, zx_irem, zx_iand, zx_ior, zx_ixor, zx_ishl, zx_ishr, zx_iushr, zx_i2b, zx_i2l, zx_l2i, zx_ladd, zx_lmul, zx_ldiv, zx_lrem, zx_land, zx_lor, zx_lshl, zx_lshr, zx_lcmp, zx_dupi, zx_dupr, zx_dup2l, zx_dup2i, zx_pop, zx_ifc, zx_icmp, zx_ifnullN, zx_ifnullS, zx_ifnonN, zx_ifnonS, zx_goto, zx_gotow, zx_switch, zx_iaload, zx_baload, zx_laload, zx_aaload, zx_iastore, zx_bastore, zx_lastore, zx_aastore, zx_alen, zx_newarray, zx_anewarray, zx_new, zx_getI, zx_getL, zx_getR, zx_putI, zx_putZ, zx_putL, zx_putR, zx_callS, zx_callV, zx_objinit, zx_cpyi, zx_cpyl, zx_mmax, zx_mmin, zx_mminl, zx_ireturn, zx_areturn, zx_lreturn, zx_return, zcs_0, zcs_1, zcv_1, zcs_2, zcv_2, zcs_3, zcv_3, zcs_4, zcv_4, zcs_5, zcv_5, zcs_6, zcv_6, zcs_7, zcv_7, Int.reduceToNat, Nat.reduceDiv, Nat.reduceMod, zJ, zC, zK_wA, zN_wA, zR_wA, zS_wA, zA_wA, zK_wR, zN_wR, zR_wR, zS_wR, zA_wR, zK_cp, zN_cp, zR_cp, zS_cp, zA_cp, zK_mp, zN_mp, zR_mp, zS_mp, zA_mp, zfa, zfmm, zfa_1, zfb_1, zfa_2, zfb_2, zfa_3, zfb_3, zfa_4, zfb_4, zfa_5, zfb_5, zfa_6, zfb_6, zfa_7, zfb_7, zfa_8, zfb_8, zfa_9, zfb_9, zfa_10, zfb_10, zfa_12, zfb_12, zfa_20, zfb_20, zfa_21, zfb_21, zfa_30, zfb_30, zfa_48, zfb_48, zfa_60, zfb_60, zfa_61, zfb_61, zfa_65, zfb_65, zfa_97, zfb_97, zfa_100, zfb_100, zfa_120, zfb_120, zfa_124, zfb_124, zfa_500, zfb_500, zfa_792, zfb_792, zfa_2989, zfb_2989, zfm_2, zfn_2, zfm_3, zfn_3, zfm_4, zfn_4, zfm_6, zfn_6, zfm_7, zfn_7, zfm_8, zfn_8, zfm_12, zfn_12, zfm_49, zfn_49, zfm_60, zfn_60, zfm_61, zfn_61, zfm_792, zfn_792, zfm_2989, zfn_2989, Int.zero_add, Int.add_zero, Int.zero_mul, Int.mul_zero, Int.one_mul, Int.mul_one]
      rw [show ((e' + 1 : Nat) : Int) + -1 = (e' : Nat) by omega]
      repeat (with_reducible refine And.intro ?_ ?_; · first | omega | (simp only [z32, z64]; omega))
      exact ih _ (by omega) e' H1 _ _ _ rfl (by omega) hm1 hC1 hZ1
set_option maxRecDepth 100000 in
theorem zc_makeSums {xs : Nat → Int} {L d b1 b2 : Nat} {H0 : zH} {Q : zQ} (hL0 : zLay H0) (hd : 2 ≤ d) (hI : iMS H0) (h : ∀ H : zH, zmd (zin [119, 120, 121, 122, 123] [(106, 18)]) H0 H → zMS H → zSR H 122 0 (zSk (fun k => zA H0 111 k ≠ 0) (zTr (fun c k => zA H0 112 (8 * c + k) ≠ 0) 4) 4) → Q 0 H) : zEm xs L d b1 b2 227 [zr (some 106)] H0 Q := by
  refine zem_227 (zgo_at [6] 4 ?_)
  try simp -implicitDefEqProofs only [zgn_0, zgn_s, zct_0, zct_s, Nat.reduceEqDiff, Nat.reduceBEq, Nat.reduceAdd, Nat.reduceSub, Nat.reduceMul, Int.reduceAdd, Int.reduceSub, Int.reduceMul, Int.reduceNeg, Int.reduceLT, Int.reduceLE, Int.reduceEq, Nat.zero_add, true_and, and_true, false_and, and_false, true_imp_iff, false_imp_iff, not_true_eq_false, not_false_eq_true, if_true, if_false, Bool.false_eq_true, ite_true, ite_false, reduceIte, eq_self, Int.toNat_natCast, zst_0, zst_1, zst_2, zst_3, zst_4, true_or, or_true, or_false, false_or, ze_227_0, zB_227_0, ze_227_6, zB_227_6, ze_227_26, zB_227_26, ze_227_28, zB_227_28, ze_227_34, zB_227_34, ze_227_67, zB_227_67, ze_227_98, zB_227_98, ze_227_138, zB_227_138, ze_227_144, zB_227_144, zbr_t, zbr_f, zrun_c, zmI_s, zmL_s, zmR_s, zgt_0, zgt_s, zln_0, zln_s, zs1_0, zs1_1i, zs1_1r, zs1_1n, zs1_1l, zs1_s, zs2_0, zs2_1i, zs2_1r, zs2_1n, zs2_1l, zs2_s, zcn_eq, zcn_ne, zcn_lt, zcn_ge, zcn_gt, zcn_le, zpu_0, zpu_1, zpu_2, zx_iconst, zx_lconst, zx_ldc, zx_ldc2, zx_null, zx_iload, zx_lload, zx_aload, zx_istore, zx_lstore, zx_astore, zx_iinc, zx_iadd, zx_isub, zx_imul, zx_idiv, zx_irem, zx_iand, zx_ior, zx_ixor, zx_ishl, zx_ishr, zx_iushr, zx_i2b, zx_i2l, zx_l2i, zx_ladd, zx_lmul, zx_ldiv, zx_lrem, zx_land, zx_lor, zx_lshl, zx_lshr, zx_lcmp, zx_dupi, zx_dupr, zx_dup2l, zx_dup2i, zx_pop, zx_ifc, zx_icmp, zx_ifnullN, zx_ifnullS, zx_ifnonN, zx_ifnonS, zx_goto, zx_gotow, zx_switch, zx_iaload, zx_baload, zx_laload, zx_aaload, zx_iastore, zx_bastore, zx_lastore, zx_aastore, zx_alen, zx_newarray, zx_anewarray, zx_new, zx_getI, zx_getL, zx_getR, zx_putI, zx_putZ, zx_putL, zx_putR, zx_callS, zx_callV, zx_objinit, zx_cpyi, zx_cpyl, zx_mmax, zx_mmin, zx_mminl, zx_ireturn, zx_areturn, zx_lreturn, zx_return, zcs_0, zcs_1, zcv_1, zcs_2, zcv_2, zcs_3, zcv_3, zcs_4, zcv_4, zcs_5, zcv_5, zcs_6, zcv_6, zcs_7, zcv_7, Int.reduceToNat, Nat.reduceDiv, Nat.reduceMod, zJ, zC, zK_wA, zN_wA, zR_wA, zS_wA, zA_wA, zK_wR, zN_wR, zR_wR, zS_wR, zA_wR, zK_cp, zN_cp, zR_cp, zS_cp, zA_cp, zK_mp, zN_mp, zR_mp, zS_mp, zA_mp, zfa, zfmm, zfa_1, zfb_1, zfa_2, zfb_2, zfa_3, zfb_3, zfa_4, zfb_4, zfa_5, zfb_5, zfa_6, zfb_6, zfa_7, zfb_7, zfa_8, zfb_8, zfa_9, zfb_9, zfa_10, zfb_10, zfa_12, zfb_12, zfa_20, zfb_20, zfa_21, zfb_21, zfa_30, zfb_30, zfa_48, zfb_48, zfa_60, zfb_60, zfa_61, zfb_61, zfa_65, zfb_65, zfa_97, zfb_97, zfa_100, zfb_100, zfa_120, zfb_120, zfa_124, zfb_124, zfa_500, zfb_500, zfa_792, zfb_792, zfa_2989, zfb_2989, zfm_2, zfn_2, zfm_3, zfn_3, zfm_4, zfn_4, zfm_6, zfn_6, zfm_7, zfn_7, zfm_8, zfn_8, zfm_12, zfn_12, zfm_49, zfn_49, zfm_60, zfn_60, zfm_61, zfn_61, zfm_792, zfn_792, zfm_2989, zfn_2989, Int.zero_add, Int.add_zero, Int.zero_mul, Int.mul_zero, Int.one_mul, Int.mul_one, lk_106 hL0]
  refine ⟨by omega, zc_makeShapes hL0 (by omega) hI (fun H1 hm1 hM1 => ?_)⟩
  try simp -implicitDefEqProofs only [zgn_0, zgn_s, zct_0, zct_s, Nat.reduceEqDiff, Nat.reduceBEq, Nat.reduceAdd, Nat.reduceSub, Nat.reduceMul, Int.reduceAdd, Int.reduceSub, Int.reduceMul, Int.reduceNeg, Int.reduceLT, Int.reduceLE, Int.reduceEq, Nat.zero_add, true_and, and_true, false_and, and_false, true_imp_iff, false_imp_iff, not_true_eq_false, not_false_eq_true, if_true, if_false, Bool.false_eq_true, ite_true, ite_false, reduceIte, eq_self, Int.toNat_natCast, zst_0, zst_1, zst_2, zst_3, zst_4, true_or, or_true, or_false, false_or, ze_227_0, zB_227_0, ze_227_6, zB_227_6, ze_227_26, zB_227_26, ze_227_28, zB_227_28, ze_227_34, zB_227_34, ze_227_67, zB_227_67, ze_227_98, zB_227_98, ze_227_138, zB_227_138, ze_227_144, zB_227_144, zbr_t, zbr_f, zrun_c, zmI_s, zmL_s, zmR_s, zgt_0, zgt_s, zln_0, zln_s, zs1_0, zs1_1i, zs1_1r, zs1_1n, zs1_1l, zs1_s, zs2_0, zs2_1i, zs2_1r, zs2_1n, zs2_1l, zs2_s, zcn_eq, zcn_ne, zcn_lt, zcn_ge, zcn_gt, zcn_le, zpu_0, zpu_1, zpu_2, zx_iconst, zx_lconst, zx_ldc, zx_ldc2, zx_null, zx_iload, zx_lload, zx_aload, zx_istore, zx_lstore, zx_astore, zx_iinc, zx_iadd, zx_isub, zx_imul, zx_idiv, zx_irem, zx_iand, zx_ior, zx_ixor, zx_ishl, zx_ishr, zx_iushr, zx_i2b, zx_i2l, zx_l2i, zx_ladd, zx_lmul, zx_ldiv, zx_lrem, zx_land, zx_lor, zx_lshl, zx_lshr, zx_lcmp, zx_dupi, zx_dupr, zx_dup2l, zx_dup2i, zx_pop, zx_ifc, zx_icmp, zx_ifnullN, zx_ifnullS, zx_ifnonN, zx_ifnonS, zx_goto, zx_gotow, zx_switch, zx_iaload, zx_baload, zx_laload, zx_aaload, zx_iastore, zx_bastore, zx_lastore, zx_aastore, zx_alen, zx_newarray, zx_anewarray, zx_new, zx_getI, zx_getL, zx_getR, zx_putI, zx_putZ, zx_putL, zx_putR, zx_callS, zx_callV, zx_objinit, zx_cpyi, zx_cpyl, zx_mmax, zx_mmin, zx_mminl, zx_ireturn, zx_areturn, zx_lreturn, zx_return, zcs_0, zcs_1, zcv_1, zcs_2, zcv_2, zcs_3, zcv_3, zcs_4, zcv_4, zcs_5, zcv_5, zcs_6, zcv_6, zcs_7, zcv_7, Int.reduceToNat, Nat.reduceDiv, Nat.reduceMod, zJ, zC, zK_wA, zN_wA, zR_wA, zS_wA, zA_wA, zK_wR, zN_wR, zR_wR, zS_wR, zA_wR, zK_cp, zN_cp, zR_cp, zS_cp, zA_cp, zK_mp, zN_mp, zR_mp, zS_mp, zA_mp, zfa, zfmm, zfa_1, zfb_1, zfa_2, zfb_2, zfa_3, zfb_3, zfa_4, zfb_4, zfa_5, zfb_5, zfa_6, zfb_6, zfa_7, zfb_7, zfa_8, zfb_8, zfa_9, zfb_9, zfa_10, zfb_10, zfa_12, zfb_12, zfa_20, zfb_20, zfa_21, zfb_21, zfa_30, zfb_30, zfa_48, zfb_48, zfa_60, zfb_60, zfa_61, zfb_61, zfa_65, zfb_65, zfa_97, zfb_97, zfa_100, zfb_100, zfa_120, zfb_120, zfa_124, zfb_124, zfa_500, zfb_500, zfa_792, zfb_792, zfa_2989, zfb_2989, zfm_2, zfn_2, zfm_3, zfn_3, zfm_4, zfn_4, zfm_6, zfn_6, zfm_7, zfn_7, zfm_8, zfn_8, zfm_12, zfn_12, zfm_49, zfn_49, zfm_60, zfn_60, zfm_61, zfn_61, zfm_792, zfn_792, zfm_2989, zfn_2989, Int.zero_add, Int.add_zero, Int.zero_mul, Int.mul_zero, Int.one_mul, Int.mul_one]
  have hL1 := zmd_lay hm1 hL0
  have b0 := zMW_0 H1 121 0 (fun _ => 0)
  rw [← b0]
  refine zl_msA hL1 ?_ _ 0 rfl (by omega)
  refine zgo_at [28] 4 ?_
  try simp -implicitDefEqProofs only [zgn_0, zgn_s, zct_0, zct_s, Nat.reduceEqDiff, Nat.reduceBEq, Nat.reduceAdd, Nat.reduceSub, Nat.reduceMul, Int.reduceAdd, Int.reduceSub, Int.reduceMul, Int.reduceNeg, Int.reduceLT, Int.reduceLE, Int.reduceEq, Nat.zero_add, true_and, and_true, false_and, and_false, true_imp_iff, false_imp_iff, not_true_eq_false, not_false_eq_true, if_true, if_false, Bool.false_eq_true, ite_true, ite_false, reduceIte, eq_self, Int.toNat_natCast, zst_0, zst_1, zst_2, zst_3, zst_4, true_or, or_true, or_false, false_or, ze_227_0, zB_227_0, ze_227_6, zB_227_6, ze_227_26, zB_227_26, ze_227_28, zB_227_28, ze_227_34, zB_227_34, ze_227_67, zB_227_67, ze_227_98, zB_227_98, ze_227_138, zB_227_138, ze_227_144, zB_227_144, zbr_t, zbr_f, zrun_c, zmI_s, zmL_s, zmR_s, zgt_0, zgt_s, zln_0, zln_s, zs1_0, zs1_1i, zs1_1r, zs1_1n, zs1_1l, zs1_s, zs2_0, zs2_1i, zs2_1r, zs2_1n, zs2_1l, zs2_s, zcn_eq, zcn_ne, zcn_lt, zcn_ge, zcn_gt, zcn_le, zpu_0, zpu_1, zpu_2, zx_iconst, zx_lconst, zx_ldc, zx_ldc2, zx_null, zx_iload, zx_lload, zx_aload, zx_istore, zx_lstore, zx_astore, zx_iinc, zx_iadd, zx_isub, zx_imul, zx_idiv, zx_irem, zx_iand, zx_ior, zx_ixor, zx_ishl, zx_ishr, zx_iushr, zx_i2b, zx_i2l, zx_l2i, zx_ladd, zx_lmul, zx_ldiv, zx_lrem, zx_land, zx_lor, zx_lshl, zx_lshr, zx_lcmp, zx_dupi, zx_dupr, zx_dup2l, zx_dup2i, zx_pop, zx_ifc, zx_icmp, zx_ifnullN, zx_ifnullS, zx_ifnonN, zx_ifnonS, zx_goto, zx_gotow, zx_switch, zx_iaload, zx_baload, zx_laload, zx_aaload, zx_iastore, zx_bastore, zx_lastore, zx_aastore, zx_alen, zx_newarray, zx_anewarray, zx_new, zx_getI, zx_getL, zx_getR, zx_putI, zx_putZ, zx_putL, zx_putR, zx_callS, zx_callV, zx_objinit, zx_cpyi, zx_cpyl, zx_mmax, zx_mmin, zx_mminl, zx_ireturn, zx_areturn, zx_lreturn, zx_return, zcs_0, zcs_1, zcv_1, zcs_2, zcv_2, zcs_3, zcv_3, zcs_4, zcv_4, zcs_5, zcv_5, zcs_6, zcv_6, zcs_7, zcv_7, Int.reduceToNat, Nat.reduceDiv, Nat.reduceMod, zJ, zC, zK_wA, zN_wA, zR_wA, zS_wA, zA_wA, zK_wR, zN_wR, zR_wR, zS_wR, zA_wR, zK_cp, zN_cp, zR_cp, zS_cp, zA_cp, zK_mp, zN_mp, zR_mp, zS_mp, zA_mp, zfa, zfmm, zfa_1, zfb_1, zfa_2, zfb_2, zfa_3, zfb_3, zfa_4, zfb_4, zfa_5, zfb_5, zfa_6, zfb_6, zfa_7, zfb_7, zfa_8, zfb_8, zfa_9, zfb_9, zfa_10, zfb_10, zfa_12, zfb_12, zfa_20, zfb_20, zfa_21, zfb_21, zfa_30, zfb_30, zfa_48, zfb_48, zfa_60, zfb_60, zfa_61, zfb_61, zfa_65, zfb_65, zfa_97, zfb_97, zfa_100, zfb_100, zfa_120, zfb_120, zfa_124, zfb_124, zfa_500, zfb_500, zfa_792, zfb_792, zfa_2989, zfb_2989, zfm_2, zfn_2, zfm_3, zfn_3, zfm_4, zfn_4, zfm_6, zfn_6, zfm_7, zfn_7, zfm_8, zfn_8, zfm_12, zfn_12, zfm_49, zfn_49, zfm_60, zfn_60, zfm_61, zfn_61, zfm_792, zfn_792, zfm_2989, zfn_2989, Int.zero_add, Int.add_zero, Int.zero_mul, Int.mul_zero, Int.one_mul, Int.mul_one]
  have hm2 : zmd (zin [121] []) H1 (zMW H1 121 0 15840 (fun _ => 0)) := zmd_mp (zmd_rf _ _) (fun _ => rfl)
  refine zl_msE (H0 := H1) hL1 hd hM1 (fun H hm hS => ?_) _ 5 _ _ _ _ rfl (by omega) (zmd_up hm2 rfl) (fun a c h1 h2 h3 => by omega) (fun a c i h1 h2 h3 h4 => ?_)
  · have ef : (fun k => zA H1 111 k ≠ 0) = (fun k => zA H0 111 k ≠ 0) := by funext k; rw [hm1.2.2.2 111 k rfl]
    have eg : (fun c k => zA H1 112 (8 * c + k) ≠ 0) = (fun c k => zA H0 112 (8 * c + k) ≠ 0) := by funext c k; rw [hm1.2.2.2 112 _ rfl]
    rw [ef, eg] at hS
    exact h H (zmd_tr (zmd_up hm1 rfl) (zmd_up hm rfl)) (zMS_md hm rfl (fun _ => rfl) (fun _ => rfl) hM1) hS
  · rw [zA_mp, if_pos ⟨rfl, by omega, by omega⟩]
