/-- what manners of the reference may change; and where it fails -/
def zS6 : Nat → Nat → Bool := zin [149, 150, 151, 152, 153, 154, 155, 156, 157] [(106, 1), (106, 66), (106, 67), (106, 68), (106, 69), (106, 70), (106, 71), (106, 72), (106, 73), (106, 74)]
def zS7 (a j : Nat) : Bool := zS5 a j || decide (a = 106 ∧ (j = 1 ∨ j = 72))
theorem zS6_5 (a j : Nat) (h : zS6 a j = false) : zS5 a j = false ∧ zSc a j = false := by
  have h2 : ¬ (149 ≤ a ∧ a ≤ 157) ∧ ¬ (a = 106 ∧ (j = 1 ∨ (66 ≤ j ∧ j ≤ 74))) := by
    constructor
    · intro q
      have e : a = 149 ∨ a = 150 ∨ a = 151 ∨ a = 152 ∨ a = 153 ∨ a = 154 ∨ a = 155 ∨ a = 156 ∨ a = 157 := by omega
      rcases e with e | e | e | e | e | e | e | e | e <;> (rw [e] at h; cases h)
    · intro q
      have e : j = 1 ∨ j = 66 ∨ j = 67 ∨ j = 68 ∨ j = 69 ∨ j = 70 ∨ j = 71 ∨ j = 72 ∨ j = 73 ∨ j = 74 := by omega
      rcases e with e | e | e | e | e | e | e | e | e | e <;> (rw [q.1, e] at h; cases h)
  constructor
  · cases e : zS5 a j
    · rfl
    · exfalso
      unfold zS5 zS4 zS2 at e
      simp only [Bool.or_eq_true, Bool.and_eq_true, decide_eq_true_eq] at e
      omega
  · exact decide_eq_false (by omega)
theorem zS6_m {G G' : zH} (h : zmd zS5 G G') : zmd zS6 G G' := zmd_mono h (fun a j h => (zS6_5 a j h).1)
theorem zS6_c {G G' : zH} (h : zmd zSc G G') : zmd zS6 G G' := zmd_mono h (fun a j h => (zS6_5 a j h).2)
theorem zS7_m {G G' : zH} (h : zmd zS5 G G') : zmd zS7 G G' := zmd_mono h (fun a j h => (Bool.or_eq_false_iff.mp h).1)
theorem zS6_7 {G G' : zH} (h : zmd zS7 G G') : zmd zS6 G G' := zmd_mono h (fun a j h => by
  have h1 := (zS6_5 a j h).1
  unfold zS7
  rw [h1]
  show (false || decide (a = 106 ∧ (j = 1 ∨ j = 72))) = false
  cases e : decide (a = 106 ∧ (j = 1 ∨ j = 72))
  · rfl
  · exfalso
    have e := of_decide_eq_true e
    rcases e with ⟨e1, e2 | e2⟩ <;> (rw [e1, e2] at h; cases h))
theorem zBy_106 {H : zH} {j : Nat} {x : Int} (hL : zLay H) (hB : zBy H) : zBy (zwA H 106 j x) := zBy_w hB (Or.inl (by rw [lk_106 hL]; omega))
set_option maxRecDepth 100000 in
theorem zl_mn8 {xs : Nat → Int} {L d : Nat} {Q : zQ} {H0 : zH}  (hL0 : zLay H0) (hB : zBy H0) (h : ∀ (G : zH), zmd (zin [157] []) H0 G → zBy G → (∀ j : Nat, j < 8 → zA G 157 (8 + j) = 0) → (∀ j : Nat, j < 8 → zA G 157 j = zA H0 157 j) → zEt xs L d 0 0 false 279 57 [some (zr (some 106)), some (zi (8 : Nat)), none, none] [] G Q) : ∀ (kk : Nat) (k : Nat) (G : zH), 8 - k = kk → (k ≤ 8) → (zmd (zin [157] []) H0 G) → (zBy G) → (∀ j : Nat, j < k → zA G 157 (8 + j) = 0) → (∀ j : Nat, j < 8 → zA G 157 j = zA H0 157 j) → zEt xs L d 0 0 false 279 35 [some (zr (some 106)), some (zi (k : Nat)), none, none] [] G Q := by
  intro kk
  induction kk using Nat.strongRecOn with
  | ind kk ih =>
    intro k G hkk hk hm hBG hc ho
    have hL := zmd_lay hm hL0
    refine zgo_at [35, 57] 8 ?_
    try simp -implicitDefEqProofs only [zgn_0, zgn_s, zct_0, zct_s, Nat.reduceEqDiff, Nat.reduceBEq, Nat.reduceAdd, Nat.reduceSub, Nat.reduceMul, Int.reduceAdd, Int.reduceSub, Int.reduceMul, Int.reduceNeg, Int.reduceLT, Int.reduceLE, Int.reduceEq, Nat.zero_add, true_and, and_true, false_and, and_false, true_imp_iff, false_imp_iff, not_true_eq_false, not_false_eq_true, if_true, if_false, Bool.false_eq_true, ite_true, ite_false, reduceIte, eq_self, Int.toNat_natCast, zst_0, zst_1, zst_2, zst_3, zst_4, true_or, or_true, or_false, false_or, ze_279_0, zB_279_0, ze_279_35, zB_279_35, ze_279_57, zB_279_57, ze_279_68, zB_279_68, ze_279_86, zB_279_86, ze_279_92, zB_279_92, ze_279_94, zB_279_94, ze_279_162, zB_279_162, ze_279_199, zB_279_199, ze_279_205, zB_279_205, ze_279_207, zB_279_207, ze_279_252, zB_279_252, ze_279_254, zB_279_254, ze_279_296, zB_279_296, zbr_t, zbr_f, zrun_c, zmI_s, zmL_s, zmR_s, zgt_0, zgt_s, zln_0, zln_s, zs1_0, zs1_1i, zs1_1r, zs1_1n, zs1_1l, zs1_s, zs2_0, zs2_1i, zs2_1r, zs2_1n, zs2_1l, zs2_s, zcn_eq, zcn_ne, zcn_lt, zcn_ge, zcn_gt, zcn_le, zpu_0, zpu_1, zpu_2, zx_iconst, zx_lconst, zx_ldc, zx_ldc2, zx_null, zx_iload, zx_lload, zx_aload, zx_istore, zx_lstore, zx_astore, zx_iinc, zx_iadd, zx_isub, zx_imul, zx_idiv, zx_irem, zx_iand, zx_ior, zx_ixor, zx_ishl, zx_ishr, zx_iushr, zx_i2b, zx_i2l, zx_l2i, zx_ladd, zx_lmul, zx_ldiv, zx_lrem, zx_land, zx_lor, zx_lshl, zx_lshr, zx_lcmp, zx_dupi, zx_dupr, zx_dup2l, zx_dup2i, zx_pop, zx_ifc, zx_icmp, zx_ifnullN, zx_ifnullS, zx_ifnonN, zx_ifnonS, zx_goto, zx_gotow, zx_switch, zx_iaload, zx_baload, zx_laload, zx_aaload, zx_iastore, zx_bastore, zx_lastore, zx_aastore, zx_alen, zx_newarray, zx_anewarray, zx_new, zx_getI, zx_getL, zx_getR, zx_putI, zx_putZ, zx_putL, zx_putR, zx_callS, zx_callV, zx_objinit, zx_cpyi, zx_cpyl, zx_mmax, zx_mmin, zx_mminl, zx_ireturn, zx_areturn, zx_lreturn, zx_return, zcs_0, zcs_1, zcv_1, zcs_2, zcv_2, zcs_3, zcv_3, zcs_4, zcv_4, zcs_5, zcv_5, zcs_6, zcv_6, zcs_7, zcv_7, Int.reduceToNat, Nat.reduceDiv, Nat.reduceMod, zJ, zC, zK_wA, zN_wA, zR_wA, zS_wA, zA_wA, zK_wR, zN_wR, zR_wR, zS_wR, zA_wR, zK_cp, zN_cp, zR_cp, zS_cp, zA_cp, zK_mp, zN_mp, zR_mp, zS_mp, zA_mp, zfa, zfmm, zfa_1, zfb_1, zfa_2, zfb_2, zfa_3, zfb_3, zfa_4, zfb_4, zfa_5, zfb_5, zfa_6, zfb_6, zfa_7, zfb_7, zfa_8, zfb_8, zfa_9, zfb_9, zfa_10, zfb_10, zfa_12, zfb_12, zfa_20, zfb_20, zfa_21, zfb_21, zfa_30, zfb_30, zfa_48, zfb_48, zfa_60, zfb_60, zfa_61, zfb_61, zfa_65, zfb_65, zfa_97, zfb_97, zfa_100, zfb_100, zfa_120, zfb_120, zfa_124, zfb_124, zfa_500, zfb_500, zfa_792, zfb_792, zfa_2989, zfb_2989, zfm_2, zfn_2, zfm_3, zfn_3, zfm_4, zfn_4, zfm_6, zfn_6, zfm_7, zfn_7, zfm_8, zfn_8, zfm_12, zfn_12, zfm_49, zfn_49, zfm_60, zfn_60, zfm_61, zfn_61, zfm_792, zfn_792, zfm_2989, zfn_2989, Int.zero_add, Int.add_zero, Int.zero_mul, Int.mul_zero, Int.one_mul, Int.mul_one, lk_106 hL, lr_106_65 hL, lk_157 hL, ln_157 hL]
    refine zbr_i (fun q => ?_) (fun q => ?_)
    · have e9 : k = 8 := by omega
      subst e9
      exact h G hm hBG hc ho
    · have e8 : ((8 : Int) + (k : Nat)).toNat = 8 + k := by omega
      (try simp only [e8])
      repeat (with_reducible refine And.intro ?_ ?_; · first | omega | (simp only [z32, z64]; omega))
      refine ih _ (by omega) (k + 1) _ rfl (by omega) (zmd_w hm rfl) (zBy_w hBG (Or.inr (Or.inr ⟨lk_157 hL, by omega, by omega⟩))) (fun j hj => ?_) (fun j hj => ?_)
      · rw [zA_wA]
        by_cases e : j = k
        · rw [if_pos ⟨rfl, by omega⟩]
        · rw [if_neg (by omega)]; exact hc j (by omega)
      · rw [zA_wA, if_neg (by omega)]; exact ho j hj
set_option maxHeartbeats 16000000 in
set_option maxRecDepth 100000 in
theorem zc_mmanners {xs : Nat → Int} {L d : Nat} {Q : zQ} {H0 : zH} {n : Nat} {t : Nat → Int} {R : (Nat × Nat) ⊕ zσ} (hd : 14 ≤ d) (hL0 : zLay H0) (hB : zBy H0) (hn : n ≤ 400) (hn2 : zA H0 106 1 = n) (ht : ∀ j : Nat, j < n → (0 ≤ t j ∧ t j ≤ 255) ∧ zA H0 107 j = zsb (t j)) (hR : R = zprs t n n 0 zσ0)
  (h0 : ∀ (G : zH) (k pl : Nat), zmd zS7 H0 G → zA G 106 1 = 0 → zA G 106 73 = k → zA G 106 74 = pl → R = Sum.inl (k, pl) → Q (-1) G)
  (h1 : ∀ (G : zH) (it nm rl : Nat) (w : Nat × (Nat → Nat × Nat)) (tk : List Nat) (rs : Nat → Int), zmd zS6 H0 G → zA G 106 1 = 0 → zA G 106 73 = 0 → zA G 106 74 = -1 → R = Sum.inr (w, tk, rs, it, 0, 0, nm, rl) → (∀ k : Nat, k < 8 → zA G 157 k = if 0 ≤ rs k then 1 else 0) → (∀ k : Nat, k < 8 → 0 ≤ rs k → zRul G 0 0 0 t w tk rs 120 400 k) → Q rl G) : zEm xs L d 0 0 279 [zr (some 106)] H0 Q := by
  refine zem_279 (zgo_at [35] 2 ?_)
  try simp -implicitDefEqProofs only [zgn_0, zgn_s, zct_0, zct_s, Nat.reduceEqDiff, Nat.reduceBEq, Nat.reduceAdd, Nat.reduceSub, Nat.reduceMul, Int.reduceAdd, Int.reduceSub, Int.reduceMul, Int.reduceNeg, Int.reduceLT, Int.reduceLE, Int.reduceEq, Nat.zero_add, true_and, and_true, false_and, and_false, true_imp_iff, false_imp_iff, not_true_eq_false, not_false_eq_true, if_true, if_false, Bool.false_eq_true, ite_true, ite_false, reduceIte, eq_self, Int.toNat_natCast, zst_0, zst_1, zst_2, zst_3, zst_4, true_or, or_true, or_false, false_or, ze_279_0, zB_279_0, ze_279_35, zB_279_35, ze_279_57, zB_279_57, ze_279_68, zB_279_68, ze_279_86, zB_279_86, ze_279_92, zB_279_92, ze_279_94, zB_279_94, ze_279_162, zB_279_162, ze_279_199, zB_279_199, ze_279_205, zB_279_205, ze_279_207, zB_279_207, ze_279_252, zB_279_252, ze_279_254, zB_279_254, ze_279_296, zB_279_296, zbr_t, zbr_f, zrun_c, zmI_s, zmL_s, zmR_s, zgt_0, zgt_s, zln_0, zln_s, zs1_0, zs1_1i, zs1_1r, zs1_1n, zs1_1l, zs1_s, zs2_0, zs2_1i, zs2_1r, zs2_1n, zs2_1l, zs2_s, zcn_eq, zcn_ne, zcn_lt, zcn_ge, zcn_gt, zcn_le, zpu_0, zpu_1, zpu_2, zx_iconst, zx_lconst, zx_ldc, zx_ldc2, zx_null, zx_iload, zx_lload, zx_aload, zx_istore, zx_lstore, zx_astore, zx_iinc, zx_iadd, zx_isub, zx_imul, zx_idiv, zx_irem, zx_iand, zx_ior, zx_ixor, zx_ishl, zx_ishr, zx_iushr, zx_i2b, zx_i2l, zx_l2i, zx_ladd, zx_lmul, zx_ldiv, zx_lrem, zx_land, zx_lor, zx_lshl, zx_lshr, zx_lcmp, zx_dupi, zx_dupr, zx_dup2l, zx_dup2i, zx_pop, zx_ifc, zx_icmp, zx_ifnullN, zx_ifnullS, zx_ifnonN, zx_ifnonS, zx_goto, zx_gotow, zx_switch, zx_iaload, zx_baload, zx_laload, zx_aaload, zx_iastore, zx_bastore, zx_lastore, zx_aastore, zx_alen, zx_newarray, zx_anewarray, zx_new, zx_getI, zx_getL, zx_getR, zx_putI, zx_putZ, zx_putL, zx_putR, zx_callS, zx_callV, zx_objinit, zx_cpyi, zx_cpyl, zx_mmax, zx_mmin, zx_mminl, zx_ireturn, zx_areturn, zx_lreturn, zx_return, zcs_0, zcs_1, zcv_1, zcs_2, zcv_2, zcs_3, zcv_3, zcs_4, zcv_4, zcs_5, zcv_5, zcs_6, zcv_6, zcs_7, zcv_7, Int.reduceToNat, Nat.reduceDiv, Nat.reduceMod, zJ, zC, zK_wA, zN_wA, zR_wA, zS_wA, zA_wA, zK_wR, zN_wR, zR_wR, zS_wR, zA_wR, zK_cp, zN_cp, zR_cp, zS_cp, zA_cp, zK_mp, zN_mp, zR_mp, zS_mp, zA_mp, zfa, zfmm, zfa_1, zfb_1, zfa_2, zfb_2, zfa_3, zfb_3, zfa_4, zfb_4, zfa_5, zfb_5, zfa_6, zfb_6, zfa_7, zfb_7, zfa_8, zfb_8, zfa_9, zfb_9, zfa_10, zfb_10, zfa_12, zfb_12, zfa_20, zfb_20, zfa_21, zfb_21, zfa_30, zfb_30, zfa_48, zfb_48, zfa_60, zfb_60, zfa_61, zfb_61, zfa_65, zfb_65, zfa_97, zfb_97, zfa_100, zfb_100, zfa_120, zfb_120, zfa_124, zfb_124, zfa_500, zfb_500, zfa_792, zfb_792, zfa_2989, zfb_2989, zfm_2, zfn_2, zfm_3, zfn_3, zfm_4, zfn_4, zfm_6, zfn_6, zfm_7, zfn_7, zfm_8, zfn_8, zfm_12, zfn_12, zfm_49, zfn_49, zfm_60, zfn_60, zfm_61, zfn_61, zfm_792, zfn_792, zfm_2989, zfn_2989, Int.zero_add, Int.add_zero, Int.zero_mul, Int.mul_zero, Int.one_mul, Int.mul_one, lk_106 hL0, hn2]
  repeat (with_reducible refine And.intro ?_ ?_; · first | omega | (simp only [z32, z64]; omega))
  generalize hG : zwA _ 106 67 0 = G0
  have m0 : zmd (zin [] [(106, 1), (106, 66), (106, 67), (106, 72), (106, 73), (106, 74)]) H0 G0 := by
    rw [← hG]
    repeat (first | exact zmd_rf _ _ | refine zmd_w ?_ rfl)
  have hL00 := zmd_lay m0 hL0
  have hB0 : zBy G0 := by
    rw [← hG]
    repeat (first | exact hB | refine zBy_106 (by repeat (first | exact hL0 | refine zLay_wA ?_ _ _ _)) ?_)
  have f72 : zA G0 106 72 = n := by rw [← hG]; simp [zA_wA]
  have f1 : zA G0 106 1 = 0 := by rw [← hG]; simp [zA_wA]
  have f73 : zA G0 106 73 = 0 := by rw [← hG]; simp [zA_wA]
  have f74 : zA G0 106 74 = -1 := by rw [← hG]; simp [zA_wA]
  have f66 : zA G0 106 66 = (0 : Nat) := by rw [← hG]; simp [zA_wA]
  have f67 : zA G0 106 67 = (0 : Nat) := by rw [← hG]; simp [zA_wA]
  clear hG
  refine zl_mn8 hL00 hB0 (fun G1 mG hB1 e157 o157 => ?_) _ 0 G0 rfl (by omega) (zmd_rf _ _) hB0 (fun j hj => by omega) (fun _ _ => rfl)
  have m1 : zmd zS7 H0 G1 := by
    refine ⟨mG.1.trans m0.1, mG.2.1.trans m0.2.1, fun a k => (mG.2.2.1 a k).trans (m0.2.2.1 a k), fun a j h => ?_⟩
    have h4 : ¬ (a = 106 ∧ (j = 1 ∨ j = 66 ∨ j = 67 ∨ j = 72 ∨ j = 73 ∨ j = 74)) := fun q => by
      rcases q with ⟨e, q | q | q | q | q | q⟩ <;> (rw [e, q] at h; cases h)
    have h0 : zin [] [(106, 1), (106, 66), (106, 67), (106, 72), (106, 73), (106, 74)] a j = false := by
      simp [zin]
      omega
    by_cases e : a = 157
    · subst e
      by_cases e8 : j < 8
      · rw [o157 j e8]; exact m0.2.2.2 157 j h0
      · have : zS7 157 j = true := by
          have := (zS4_6 (j - 8)).2
          rw [show 8 + (j - 8) = j by omega] at this
          unfold zS7 zS5
          rw [this]
          rfl
        rw [this] at h
        cases h
    · rw [mG.2.2.2 a j (by simp [zin, e]), m0.2.2.2 a j h0]
  have hL1 := zmd_lay m1 hL0
  have e72 : zA G1 106 72 = n := by rw [mG.2.2.2 106 72 rfl]; exact f72
  have e1 : zA G1 106 1 = 0 := by rw [mG.2.2.2 106 1 rfl]; exact f1
  have e73 : zA G1 106 73 = 0 := by rw [mG.2.2.2 106 73 rfl]; exact f73
  have e74 : zA G1 106 74 = -1 := by rw [mG.2.2.2 106 74 rfl]; exact f74
  have e66 : zA G1 106 66 = (0 : Nat) := by rw [mG.2.2.2 106 66 rfl]; exact f66
  have e67 : zA G1 106 67 = (0 : Nat) := by rw [mG.2.2.2 106 67 rfl]; exact f67
  have hT1 : zTx G1 n t := ⟨hn, e72, fun j hj => ⟨(ht j hj).1, by rw [m1.2.2.2 107 j rfl]; exact (ht j hj).2⟩⟩
  refine zgo_at [68] 2 ?_
  try simp -implicitDefEqProofs only [zgn_0, zgn_s, zct_0, zct_s, Nat.reduceEqDiff, Nat.reduceBEq, Nat.reduceAdd, Nat.reduceSub, Nat.reduceMul, Int.reduceAdd, Int.reduceSub, Int.reduceMul, Int.reduceNeg, Int.reduceLT, Int.reduceLE, Int.reduceEq, Nat.zero_add, true_and, and_true, false_and, and_false, true_imp_iff, false_imp_iff, not_true_eq_false, not_false_eq_true, if_true, if_false, Bool.false_eq_true, ite_true, ite_false, reduceIte, eq_self, Int.toNat_natCast, zst_0, zst_1, zst_2, zst_3, zst_4, true_or, or_true, or_false, false_or, ze_279_0, zB_279_0, ze_279_35, zB_279_35, ze_279_57, zB_279_57, ze_279_68, zB_279_68, ze_279_86, zB_279_86, ze_279_92, zB_279_92, ze_279_94, zB_279_94, ze_279_162, zB_279_162, ze_279_199, zB_279_199, ze_279_205, zB_279_205, ze_279_207, zB_279_207, ze_279_252, zB_279_252, ze_279_254, zB_279_254, ze_279_296, zB_279_296, zbr_t, zbr_f, zrun_c, zmI_s, zmL_s, zmR_s, zgt_0, zgt_s, zln_0, zln_s, zs1_0, zs1_1i, zs1_1r, zs1_1n, zs1_1l, zs1_s, zs2_0, zs2_1i, zs2_1r, zs2_1n, zs2_1l, zs2_s, zcn_eq, zcn_ne, zcn_lt, zcn_ge, zcn_gt, zcn_le, zpu_0, zpu_1, zpu_2, zx_iconst, zx_lconst, zx_ldc, zx_ldc2, zx_null, zx_iload, zx_lload, zx_aload, zx_istore, zx_lstore, zx_astore, zx_iinc, zx_iadd, zx_isub, zx_imul, zx_idiv, zx_irem, zx_iand, zx_ior, zx_ixor, zx_ishl, zx_ishr, zx_iushr, zx_i2b, zx_i2l, zx_l2i, zx_ladd, zx_lmul, zx_ldiv, zx_lrem, zx_land, zx_lor, zx_lshl, zx_lshr, zx_lcmp, zx_dupi, zx_dupr, zx_dup2l, zx_dup2i, zx_pop, zx_ifc, zx_icmp, zx_ifnullN, zx_ifnullS, zx_ifnonN, zx_ifnonS, zx_goto, zx_gotow, zx_switch, zx_iaload, zx_baload, zx_laload, zx_aaload, zx_iastore, zx_bastore, zx_lastore, zx_aastore, zx_alen, zx_newarray, zx_anewarray, zx_new, zx_getI, zx_getL, zx_getR, zx_putI, zx_putZ, zx_putL, zx_putR, zx_callS, zx_callV, zx_objinit, zx_cpyi, zx_cpyl, zx_mmax, zx_mmin, zx_mminl, zx_ireturn, zx_areturn, zx_lreturn, zx_return, zcs_0, zcs_1, zcv_1, zcs_2, zcv_2, zcs_3, zcv_3, zcs_4, zcv_4, zcs_5, zcv_5, zcs_6, zcv_6, zcs_7, zcv_7, Int.reduceToNat, Nat.reduceDiv, Nat.reduceMod, zJ, zC, zK_wA, zN_wA, zR_wA, zS_wA, zA_wA, zK_wR, zN_wR, zR_wR, zS_wR, zA_wR, zK_cp, zN_cp, zR_cp, zS_cp, zA_cp, zK_mp, zN_mp, zR_mp, zS_mp, zA_mp, zfa, zfmm, zfa_1, zfb_1, zfa_2, zfb_2, zfa_3, zfb_3, zfa_4, zfb_4, zfa_5, zfb_5, zfa_6, zfb_6, zfa_7, zfb_7, zfa_8, zfb_8, zfa_9, zfb_9, zfa_10, zfb_10, zfa_12, zfb_12, zfa_20, zfb_20, zfa_21, zfb_21, zfa_30, zfb_30, zfa_48, zfb_48, zfa_60, zfb_60, zfa_61, zfb_61, zfa_65, zfb_65, zfa_97, zfb_97, zfa_100, zfb_100, zfa_120, zfb_120, zfa_124, zfb_124, zfa_500, zfb_500, zfa_792, zfb_792, zfa_2989, zfb_2989, zfm_2, zfn_2, zfm_3, zfn_3, zfm_4, zfn_4, zfm_6, zfn_6, zfm_7, zfn_7, zfm_8, zfn_8, zfm_12, zfn_12, zfm_49, zfn_49, zfm_60, zfn_60, zfm_61, zfn_61, zfm_792, zfn_792, zfm_2989, zfn_2989, Int.zero_add, Int.add_zero, Int.zero_mul, Int.mul_zero, Int.one_mul, Int.mul_one, lk_106 hL1]
  repeat (with_reducible refine And.intro ?_ ?_; · first | omega | (simp only [z32, z64]; omega))
  have mw : zmd zS7 H0 (zwA G1 106 71 (0 : Int)) := zmd_w m1 rfl
  have hBw : zBy (zwA G1 106 71 (0 : Int)) := zBy_w hB1 (Or.inl (by rw [lk_106 hL1]; omega))
  have hLw := zmd_lay mw hL0
  refine zEm_by hBw (zc_scan (n := n) (e := 0) hLw (by omega) (zTx_md (S := zin [] [(106, 71)]) (zmd_w (zmd_rf _ _) rfl) rfl (fun _ => rfl) hT1) (by omega) (by rw [zA_wA, if_pos ⟨rfl, rfl⟩]; rfl) (fun G2 m2 s70 s68 s71 s69 _ hB2 => ?_))
  have hL2 := zmd_lay m2 hLw
  try simp -implicitDefEqProofs only [zgn_0, zgn_s, zct_0, zct_s, Nat.reduceEqDiff, Nat.reduceBEq, Nat.reduceAdd, Nat.reduceSub, Nat.reduceMul, Int.reduceAdd, Int.reduceSub, Int.reduceMul, Int.reduceNeg, Int.reduceLT, Int.reduceLE, Int.reduceEq, Nat.zero_add, true_and, and_true, false_and, and_false, true_imp_iff, false_imp_iff, not_true_eq_false, not_false_eq_true, if_true, if_false, Bool.false_eq_true, ite_true, ite_false, reduceIte, eq_self, Int.toNat_natCast, zst_0, zst_1, zst_2, zst_3, zst_4, true_or, or_true, or_false, false_or, ze_279_0, zB_279_0, ze_279_35, zB_279_35, ze_279_57, zB_279_57, ze_279_68, zB_279_68, ze_279_86, zB_279_86, ze_279_92, zB_279_92, ze_279_94, zB_279_94, ze_279_162, zB_279_162, ze_279_199, zB_279_199, ze_279_205, zB_279_205, ze_279_207, zB_279_207, ze_279_252, zB_279_252, ze_279_254, zB_279_254, ze_279_296, zB_279_296, zbr_t, zbr_f, zrun_c, zmI_s, zmL_s, zmR_s, zgt_0, zgt_s, zln_0, zln_s, zs1_0, zs1_1i, zs1_1r, zs1_1n, zs1_1l, zs1_s, zs2_0, zs2_1i, zs2_1r, zs2_1n, zs2_1l, zs2_s, zcn_eq, zcn_ne, zcn_lt, zcn_ge, zcn_gt, zcn_le, zpu_0, zpu_1, zpu_2, zx_iconst, zx_lconst, zx_ldc, zx_ldc2, zx_null, zx_iload, zx_lload, zx_aload, zx_istore, zx_lstore, zx_astore, zx_iinc, zx_iadd, zx_isub, zx_imul, zx_idiv, zx_irem, zx_iand, zx_ior, zx_ixor, zx_ishl, zx_ishr, zx_iushr, zx_i2b, zx_i2l, zx_l2i, zx_ladd, zx_lmul, zx_ldiv, zx_lrem, zx_land, zx_lor, zx_lshl, zx_lshr, zx_lcmp, zx_dupi, zx_dupr, zx_dup2l, zx_dup2i, zx_pop, zx_ifc, zx_icmp, zx_ifnullN, zx_ifnullS, zx_ifnonN, zx_ifnonS, zx_goto, zx_gotow, zx_switch, zx_iaload, zx_baload, zx_laload, zx_aaload, zx_iastore, zx_bastore, zx_lastore, zx_aastore, zx_alen, zx_newarray, zx_anewarray, zx_new, zx_getI, zx_getL, zx_getR, zx_putI, zx_putZ, zx_putL, zx_putR, zx_callS, zx_callV, zx_objinit, zx_cpyi, zx_cpyl, zx_mmax, zx_mmin, zx_mminl, zx_ireturn, zx_areturn, zx_lreturn, zx_return, zcs_0, zcs_1, zcv_1, zcs_2, zcv_2, zcs_3, zcv_3, zcs_4, zcv_4, zcs_5, zcv_5, zcs_6, zcv_6, zcs_7, zcv_7, Int.reduceToNat, Nat.reduceDiv, Nat.reduceMod, zJ, zC, zK_wA, zN_wA, zR_wA, zS_wA, zA_wA, zK_wR, zN_wR, zR_wR, zS_wR, zA_wR, zK_cp, zN_cp, zR_cp, zS_cp, zA_cp, zK_mp, zN_mp, zR_mp, zS_mp, zA_mp, zfa, zfmm, zfa_1, zfb_1, zfa_2, zfb_2, zfa_3, zfb_3, zfa_4, zfb_4, zfa_5, zfb_5, zfa_6, zfb_6, zfa_7, zfb_7, zfa_8, zfb_8, zfa_9, zfb_9, zfa_10, zfb_10, zfa_12, zfb_12, zfa_20, zfb_20, zfa_21, zfb_21, zfa_30, zfb_30, zfa_48, zfb_48, zfa_60, zfb_60, zfa_61, zfb_61, zfa_65, zfb_65, zfa_97, zfb_97, zfa_100, zfb_100, zfa_120, zfb_120, zfa_124, zfb_124, zfa_500, zfb_500, zfa_792, zfb_792, zfa_2989, zfb_2989, zfm_2, zfn_2, zfm_3, zfn_3, zfm_4, zfn_4, zfm_6, zfn_6, zfm_7, zfn_7, zfm_8, zfn_8, zfm_12, zfn_12, zfm_49, zfn_49, zfm_60, zfn_60, zfm_61, zfn_61, zfm_792, zfn_792, zfm_2989, zfn_2989, Int.zero_add, Int.add_zero, Int.zero_mul, Int.mul_zero, Int.one_mul, Int.mul_one]
  have hsk := zsk_b (t := t) (n := n) (e := 0) (by omega)
  obtain ⟨f, v1, v2⟩ := zprs_k (t := t) (n := n) (f := n) (e := 0) (by omega) (by omega) hR
  have m02 : zmd zS7 H0 G2 := zmd_tr mw (zmd_mono m2 (fun a j h => zsc_S2 a j (zS4_2 a j (Bool.or_eq_false_iff.mp (Bool.or_eq_false_iff.mp h).1).1)))
  have g : ∀ j : Nat, j ≠ 68 → j ≠ 69 → j ≠ 70 → j ≠ 71 → zA G2 106 j = zA G1 106 j := fun j q1 q2 q3 q4 => by
    rw [m2.2.2.2 106 j (by simp [zin, q1, q2, q3, q4]), zA_wA, if_neg (by omega)]
  have hSt : zSt G2 n t (zsk t n 0) 0 0 := zSt_scan (H0 := G2) hL2 ⟨hn, by rw [g 72 (by omega) (by omega) (by omega) (by omega)]; exact e72, fun j hj => ⟨(ht j hj).1, by rw [m02.2.2.2 107 j rfl]; exact (ht j hj).2⟩⟩ (by omega) s70 s68 s71 s69 (by rw [g 66 (by omega) (by omega) (by omega) (by omega)]; exact e66) (by rw [g 67 (by omega) (by omega) (by omega) (by omega)]; exact e67)
  have i1 : ∀ G : zH, zmd zS5 G2 G → zA G 106 1 = 0 := fun G m => by
    rw [m.2.2.2 106 1 rfl, g 1 (by omega) (by omega) (by omega) (by omega)]; exact e1
  refine zl_mn (R := R) hd _ G2 (zsk t n 0) 0 0 f 0 0 (0, fun _ => (0, 0)) [] (fun _ => -1) rfl hB2 hSt v2 v1 (by omega) (by omega) (by omega) (fun x hx => absurd hx (Nat.not_lt_zero x)) (by omega) (fun k hk => ?_) (fun k hk q => by omega) (fun G' k pl m3 q73 q74 qR => h0 G' k pl (zmd_tr m02 (zS7_m m3)) (i1 G' m3) q73 q74 qR) (fun G' it' l' nm' rl' w' tk' rs' m3 hB3 hL3 qR q1 q2 q3 q4 q5 => ?_)
  · rw [m2.2.2.2 157 _ rfl, zA_wA, if_neg (by omega), e157 k hk]
    rfl
  · refine zc_mcopy hL3 hB3 (fun G4 m4 c1 c2 c3 => ?_)
    refine h1 G4 it' nm' rl' w' tk' rs' (zmd_tr (zS6_7 m02) (zmd_tr (zS6_m (zS5_m m3)) (zS6_c m4))) (by rw [m4.2.2.2 106 1 rfl]; exact i1 G' (zS5_m m3)) ?_ ?_ qR (fun k hk => by rw [(c3 k hk).2]; exact q4 k hk) (fun k hk hk0 => ?_)
    · rw [m4.2.2.2 106 73 rfl, m3.2.2.2 106 73 rfl, g 73 (by omega) (by omega) (by omega) (by omega)]; exact e73
    · rw [m4.2.2.2 106 74 rfl, m3.2.2.2 106 74 rfl, g 74 (by omega) (by omega) (by omega) (by omega)]; exact e74
    · have h9 := zRul_k (oi' := 0) (ol' := 0) (oR' := 0) (v' := []) (rs' := rs') (it' := 120) (l' := 400) (zwx_r w') q3 (fun j hj => ?_) (fun j hj => ?_) (by rw [Nat.zero_add]; exact (c3 k hk).1) rfl q1 q2 (q5 k hk hk0)
      · rw [List.append_nil] at h9
        exact h9
      · obtain ⟨a1, a2, a3, a4, a5⟩ := c1 j (by omega)
        rw [Nat.zero_add]
        exact ⟨a1, a2, a3, a4, a5⟩
      · obtain ⟨a1, a2⟩ := c2 j (by omega)
        rw [Nat.zero_add]
        exact ⟨a1, a2⟩
