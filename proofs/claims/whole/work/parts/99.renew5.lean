/-- what a search from cue k on leaves: a better book, or all as it was -/
def zOut (a b c : Nat → Int) (F F' : Int) (k : Nat) (w v : Int) (g : Nat → Nat) : Prop :=
  (v < 1000000 ∧ (F = -1 ∨ w + v < F) → F' = w + v ∧ ∀ j : Nat, j < 8 → c j = if j < k then b j else (g j : Int)) ∧ (¬ (v < 1000000 ∧ (F = -1 ∨ w + v < F)) → F' = F ∧ ∀ j : Nat, j < 8 → c j = a j)
theorem zOut_s {a b b' c c' : Nat → Int} {F F1 F2 w K v x : Int} {k e : Nat} {g g' : Nat → Nat} (hw : 0 ≤ w) (hv : 0 ≤ v ∧ v ≤ 1000000) (hx : 0 ≤ x ∧ (x < 1000000 → x ≤ 8)) (hK : 0 ≤ K ∧ K ≤ 1) (hF : F = -1 ∨ 0 ≤ F) (h1 : zOut a b c F F1 k w v g) (h2 : zOut c b' c' F1 F2 (k + 1) (w + K) x g') (hb1 : ∀ j : Nat, j < k → b' j = b j) (hb2 : b' k = e) : zOut a b c' F F2 k w (if x + K < v then x + K else v) (if x + K < v then (fun j => if j = k then e else g' j) else g) := by
  unfold zOut at *
  by_cases u1 : v < 1000000 ∧ (F = -1 ∨ w + v < F)
  · obtain ⟨e1, c1⟩ := h1.1 u1
    clear h1
    by_cases u2 : x < 1000000 ∧ (F1 = -1 ∨ w + K + x < F1)
    · obtain ⟨e2, c2⟩ := h2.1 u2
      clear h2
      have hl : x + K < v := by clear c1 c2 hb1; omega
      simp only [if_pos hl]
      refine ⟨fun _ => ⟨by clear c1 c2 hb1; omega, fun j hj => ?_⟩, fun q => absurd (by clear c1 c2 hb1; omega) q⟩
      rw [c2 j hj]
      by_cases j1 : j < k
      · rw [if_pos (by omega), if_pos j1, hb1 j j1]
      · by_cases j2 : j = k
        · rw [if_pos (by omega), if_neg j1, if_pos j2, j2, hb2]
        · rw [if_neg (by omega), if_neg j1, if_neg j2]
    · obtain ⟨e2, c2⟩ := h2.2 u2
      clear h2
      have hl : ¬ x + K < v := by clear c1 c2 hb1; omega
      simp only [if_neg hl]
      exact ⟨fun _ => ⟨by clear c1 c2 hb1; omega, fun j hj => by rw [c2 j hj, c1 j hj]⟩, fun q => absurd u1 q⟩
  · obtain ⟨e1, c1⟩ := h1.2 u1
    clear h1
    by_cases u2 : x < 1000000 ∧ (F1 = -1 ∨ w + K + x < F1)
    · obtain ⟨e2, c2⟩ := h2.1 u2
      clear h2
      have hl : x + K < v := by clear c1 c2 hb1; omega
      simp only [if_pos hl]
      refine ⟨fun _ => ⟨by clear c1 c2 hb1; omega, fun j hj => ?_⟩, fun q => absurd (by clear c1 c2 hb1; omega) q⟩
      rw [c2 j hj]
      by_cases j1 : j < k
      · rw [if_pos (by omega), if_pos j1, hb1 j j1]
      · by_cases j2 : j = k
        · rw [if_pos (by omega), if_neg j1, if_pos j2, j2, hb2]
        · rw [if_neg (by omega), if_neg j1, if_neg j2]
    · obtain ⟨e2, c2⟩ := h2.2 u2
      clear h2
      refine ⟨fun q => absurd q ?_, fun _ => ⟨by clear c1 c2 hb1; omega, fun j hj => by rw [c2 j hj, c1 j hj]⟩⟩
      by_cases hl : x + K < v
      · rw [if_pos hl]; clear c1 c2 hb1; omega
      · rw [if_neg hl]; exact u1
theorem zMn_8 (B D : Nat → Int) : ∀ r m : Nat, r ≤ 8 → zMn (zKc B D) r m < 1000000 → zMn (zKc B D) r m ≤ r
  | 0, _, _, _ => Int.le_refl 0
  | r + 1, m, hr, h => by
    rw [zMn_s] at h ⊢
    obtain ⟨e, a, b, c⟩ := zMp_x 8 h
    rw [c] at h ⊢
    have hb := zMn_b (K := zKc B D) (fun k e _ _ => (zKc_b B D k e).1) r (m ||| 2 ^ e) (by omega)
    have hk := zKc_b B D (7 - r) e
    have ih := zMn_8 B D r (m ||| 2 ^ e) (by omega) (by omega)
    have hk1 : zKc B D (7 - r) e ≤ 1 ∨ zKc B D (7 - r) e = 1000000 := by
      unfold zKc
      split
      · exact Or.inr rfl
      · left; split <;> omega
    omega
set_option maxRecDepth 100000 in
theorem zl_rnC {xs : Nat → Int} {L d b1 b2 : Nat} {H0 : zH} {Q : zQ} {x1 x2 x3 : Int} (hL0 : zLay H0) (h : ∀ H : zH, zmd (zin [134] []) H0 H → (∀ j : Nat, j < 8 → zA H 134 j = zA H0 130 j) → Q 0 H) : ∀ (kk : Nat) (c : Nat) (H : zH), 8 - c = kk → (c ≤ 8) → (zmd (zin [134] []) H0 H) → (∀ j : Nat, j < c → zA H 134 j = zA H0 130 j) → zEt xs L d b1 b2 false 250 31 [some (zr (some 106)), some (zi x1), some (zi x2), some (zi x3), some (zi c)] [] H Q := by
  intro kk
  induction kk using Nat.strongRecOn with
  | ind kk ih =>
    intro c H hkk hc hm hA
    refine zgo_at [31] 8 ?_
    try simp -implicitDefEqProofs only [zgn_0, zgn_s, zct_0, zct_s, Nat.reduceEqDiff, Nat.reduceBEq, Nat.reduceAdd, Nat.reduceSub, Nat.reduceMul, Int.reduceAdd, Int.reduceSub, Int.reduceMul, Int.reduceNeg, Int.reduceLT, Int.reduceLE, Int.reduceEq, Nat.zero_add, true_and, and_true, false_and, and_false, true_imp_iff, false_imp_iff, not_true_eq_false, not_false_eq_true, if_true, if_false, Bool.false_eq_true, ite_true, ite_false, reduceIte, eq_self, Int.toNat_natCast, zst_0, zst_1, zst_2, zst_3, zst_4, true_or, or_true, or_false, false_or, ze_250_0, zB_250_0, ze_250_17, zB_250_17, ze_250_31, zB_250_31, ze_250_58, zB_250_58, ze_250_59, zB_250_59, ze_250_62, zB_250_62, ze_250_92, zB_250_92, ze_250_125, zB_250_125, ze_250_128, zB_250_128, ze_250_131, zB_250_131, ze_250_137, zB_250_137, zbr_t, zbr_f, zrun_c, zmI_s, zmL_s, zmR_s, zgt_0, zgt_s, zln_0, zln_s, zs1_0, zs1_1i, zs1_1r, zs1_1n, zs1_1l, zs1_s, zs2_0, zs2_1i, zs2_1r, zs2_1n, zs2_1l, zs2_s, zcn_eq, zcn_ne, zcn_lt, zcn_ge, zcn_gt, zcn_le, zpu_0, zpu_1, zpu_2, zx_iconst, zx_lconst, zx_ldc, zx_ldc2, zx_null, zx_iload, zx_lload, zx_aload, zx_istore, zx_lstore, zx_astore, zx_iinc, zx_iadd, zx_isub, zx_imul, zx_idiv, zx_irem, zx_iand, zx_ior, zx_ixor, zx_ishl, zx_ishr, zx_iushr, zx_i2b, zx_i2l, zx_l2i, zx_ladd, zx_lmul, zx_ldiv, zx_lrem, zx_land, zx_lor, zx_lshl, zx_lshr, zx_lcmp, zx_dupi, zx_dupr, zx_dup2l, zx_dup2i, zx_pop, zx_ifc, zx_icmp, zx_ifnullN, zx_ifnullS, zx_ifnonN, zx_ifnonS, zx_goto, zx_gotow, zx_switch, zx_iaload, zx_baload, zx_laload, zx_aaload, zx_iastore, zx_bastore, zx_lastore, zx_aastore, zx_alen, zx_newarray, zx_anewarray, zx_new, zx_getI, zx_getL, zx_getR, zx_putI, zx_putZ, zx_putL, zx_putR, zx_callS, zx_callV, zx_objinit, zx_cpyi, zx_cpyl, zx_mmax, zx_mmin, zx_mminl, zx_ireturn, zx_areturn, zx_lreturn, zx_return, zcs_0, zcs_1, zcv_1, zcs_2, zcv_2, zcs_3, zcv_3, zcs_4, zcv_4, zcs_5, zcv_5, zcs_6, zcv_6, zcs_7, zcv_7, Int.reduceToNat, Nat.reduceDiv, Nat.reduceMod, zJ, zC, zK_wA, zN_wA, zR_wA, zS_wA, zA_wA, zK_wR, zN_wR, zR_wR, zS_wR, zA_wR, zK_cp, zN_cp, zR_cp, zS_cp, zA_cp, zK_mp, zN_mp, zR_mp, zS_mp, zA_mp, zfa, zfmm, zfa_1, zfb_1, zfa_2, zfb_2, zfa_3, zfb_3, zfa_4, zfb_4, zfa_5, zfb_5, zfa_6, zfb_6, zfa_7, zfb_7, zfa_8, zfb_8, zfa_9, zfb_9, zfa_10, zfb_10, zfa_12, zfb_12, zfa_20, zfb_20, zfa_21, zfb_21, zfa_30, zfb_30, zfa_48, zfb_48, zfa_60, zfb_60, zfa_61, zfb_61, zfa_65, zfb_65, zfa_97, zfb_97, zfa_100, zfb_100, zfa_120, zfb_120, zfa_124, zfb_124, zfa_500, zfb_500, zfa_792, zfb_792, zfa_2989, zfb_2989, zfm_2, zfn_2, zfm_3, zfn_3, zfm_4, zfn_4, zfm_6, zfn_6, zfm_7, zfn_7, zfm_8, zfn_8, zfm_12, zfn_12, zfm_49, zfn_49, zfm_60, zfn_60, zfm_61, zfn_61, zfm_792, zfn_792, zfm_2989, zfn_2989, Int.zero_add, Int.add_zero, Int.zero_mul, Int.mul_zero, Int.one_mul, Int.mul_one, lk_106 (zmd_lay hm hL0), lr_106_36 (zmd_lay hm hL0), lr_106_31 (zmd_lay hm hL0), lk_134 (zmd_lay hm hL0), ln_134 (zmd_lay hm hL0), lk_130 (zmd_lay hm hL0), ln_130 (zmd_lay hm hL0), hm.2.2.2 130 _ rfl]
    refine zbr_i (fun q => ?_) (fun q => ?_)
    · have e9 : c = 8 := by omega
      subst e9
      exact h H hm hA
    · repeat (with_reducible refine And.intro ?_ ?_; · first | omega | (simp only [z32, z64]; omega))
      refine ih _ (by omega) (c + 1) _ rfl (by omega) (zmd_w hm rfl) (fun j hj => ?_)
      rw [zA_wA]
      by_cases ej : j = c
      · rw [if_pos ⟨rfl, ej⟩, ej]
      · rw [if_neg (fun q => ej q.2)]; exact hA j (by omega)
