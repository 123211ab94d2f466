/-- the words of the manners stand in object K -/
def yWd (H : zH) (K : Nat) (t : Nat → Int) (w : Nat × (Nat → Nat × Nat)) : Prop := w.1 ≤ 120 ∧ zA H K 4 = (w.1 : Nat) ∧ ∀ v : Nat, v < w.1 → zA H (K + 2) v = ((w.2 v).1 : Nat) ∧ zA H (K + 3) v = ((w.2 v).2 : Nat) ∧ (w.2 v).1 + (w.2 v).2 ≤ 400 ∧ 1 ≤ (w.2 v).2 ∧ (w.2 v).2 ≤ 12 ∧ ∀ j : Nat, j < (w.2 v).2 → zA H (K + 1) ((w.2 v).1 + j) = t ((w.2 v).1 + j) ∧ 0 ≤ t ((w.2 v).1 + j) ∧ t ((w.2 v).1 + j) ≤ 255
theorem yWd_c {H G : zH} {K : Nat} {t : Nat → Int} {w : Nat × (Nat → Nat × Nat)} (h : ∀ a j : Nat, K ≤ a → a ≤ K + 3 → zA G a j = zA H a j) (hw : yWd H K t w) : yWd G K t w := by
  obtain ⟨h1, h2, h3⟩ := hw
  refine ⟨h1, by rw [h _ _ (by omega) (by omega)]; exact h2, fun v hv => ?_⟩
  obtain ⟨a1, a2, a3, a4, a5, a6⟩ := h3 v hv
  refine ⟨by rw [h _ _ (by omega) (by omega)]; exact a1, by rw [h _ _ (by omega) (by omega)]; exact a2, a3, a4, a5, fun j hj => ?_⟩
  rw [h _ _ (by omega) (by omega)]
  exact a6 j hj
theorem yWd_g {H : zH} {K n : Nat} {t : Nat → Int} {w : Nat × (Nat → Nat × Nat)} {tk : List Nat} {rs : Nat → Int} {ru : Nat → List (List (zIt 4))} (hg : iMg H K n t w tk rs ru) : yWd H K t w := by
  obtain ⟨h1, h2, h3, h4, h5, h6, h7, h8, h9, h10, h11, h12, h13, h14, h15⟩ := hg
  refine ⟨h8, h3, fun v hv => ?_⟩
  obtain ⟨a1, a2⟩ := h4 v hv
  obtain ⟨b1, b2, b3⟩ := h10 v hv
  clear h14 h4 h10 h11
  exact ⟨a1, a2, by omega, b2, b3, fun j hj => ⟨h2 _ (by omega), h15 _ (by omega)⟩⟩
theorem ymin (a b : Nat) : (if ((b : Nat) : Int) < ((a : Nat) : Int) then ((b : Nat) : Int) else ((a : Nat) : Int)) = ((min a b : Nat) : Int) := by
  split <;> omega
set_option maxRecDepth 100000 in
theorem zl_cpw94 {xs : Nat → Int} {L d b1 b2 : Nat} {H : zH} {Q : zQ} {t : Nat → Int} {w : Nat × (Nat → Nat × Nat)} {x y m : Nat} (hL : zLay H) (hm : m = min (w.2 x).2 (w.2 y).2) (hx : zA H 96 x = ((w.2 x).1 : Nat) ∧ zA H 97 x = ((w.2 x).2 : Nat) ∧ (w.2 x).1 + (w.2 x).2 ≤ 400 ∧ ∀ j : Nat, j < (w.2 x).2 → zA H 95 ((w.2 x).1 + j) = t ((w.2 x).1 + j) ∧ 0 ≤ t ((w.2 x).1 + j) ∧ t ((w.2 x).1 + j) ≤ 255) (hy : zA H 96 y = ((w.2 y).1 : Nat) ∧ zA H 97 y = ((w.2 y).2 : Nat) ∧ (w.2 y).1 + (w.2 y).2 ≤ 400 ∧ ∀ j : Nat, j < (w.2 y).2 → zA H 95 ((w.2 y).1 + j) = t ((w.2 y).1 + j) ∧ 0 ≤ t ((w.2 y).1 + j) ∧ t ((w.2 y).1 + j) ≤ 255) (hx1 : x < 120) (hy1 : y < 120) (h : ∀ v : Int, (v < 0 ↔ yKl t w x y) → Q v H) : ∀ (kk : Nat) (p : Nat) (l5 : Option zV), m - p = kk → (p ≤ m) → (∀ j : Nat, j < p → t ((w.2 x).1 + j) = t ((w.2 y).1 + j)) → zEt xs L d b1 b2 false 150 19 [some (zr (some 94)), some (zi x), some (zi y), some (zi m), some (zi p), l5] [] H Q := by
  intro kk
  induction kk using Nat.strongRecOn with
  | ind kk ih =>
    intro p l5 hkk hp he
    refine zgo_at [19] 8 ?_
    try simp -implicitDefEqProofs only [zgn_0, zgn_s, zct_0, zct_s, Nat.reduceEqDiff, Nat.reduceBEq, Nat.reduceAdd, Nat.reduceSub, Nat.reduceMul, Int.reduceAdd, Int.reduceSub, Int.reduceMul, Int.reduceNeg, Int.reduceLT, Int.reduceLE, Int.reduceEq, Nat.zero_add, true_and, and_true, false_and, and_false, true_imp_iff, false_imp_iff, not_true_eq_false, not_false_eq_true, if_true, if_false, Bool.false_eq_true, ite_true, ite_false, reduceIte, eq_self, Int.toNat_natCast, zst_0, zst_1, zst_2, zst_3, zst_4, true_or, or_true, or_false, false_or, ze_150_0, zB_150_0, ze_150_19, zB_150_19, ze_150_64, zB_150_64, ze_150_70, zB_150_70, zbr_t, zbr_f, zrun_c, zmI_s, zmL_s, zmR_s, zgt_0, zgt_s, zln_0, zln_s, zs1_0, zs1_1i, zs1_1r, zs1_1n, zs1_1l, zs1_s, zs2_0, zs2_1i, zs2_1r, zs2_1n, zs2_1l, zs2_s, zcn_eq, zcn_ne, zcn_lt, zcn_ge, zcn_gt, zcn_le, zpu_0, zpu_1, zpu_2, zx_iconst, zx_lconst, zx_ldc, zx_ldc2, zx_null, zx_iload, zx_lload, zx_aload, zx_istore, zx_lstore, zx_astore, zx_iinc, zx_iadd, zx_isub, zx_imul, zx_idiv, zx_irem, zx_iand, zx_ior, zx_ixor, zx_ishl, zx_ishr, zx_iushr, zx_i2b, zx_i2l, zx_l2i, zx_ladd, zx_lmul, zx_ldiv, zx_lrem, zx_land, zx_lor, zx_lshl, zx_lshr, zx_lcmp, zx_dupi, zx_dupr, zx_dup2l, zx_dup2i, zx_pop, zx_ifc, zx_icmp, zx_ifnullN, zx_ifnullS, zx_ifnonN, zx_ifnonS, zx_goto, zx_gotow, zx_switch, zx_iaload, zx_baload, zx_laload, zx_aaload, zx_iastore, zx_bastore, zx_lastore, zx_aastore, zx_alen, zx_newarray, zx_anewarray, zx_new, zx_getI, zx_getL, zx_getR, zx_putI, zx_putZ, zx_putL, zx_putR, zx_callS, zx_callV, zx_objinit, zx_cpyi, zx_cpyl, zx_mmax, zx_mmin, zx_mminl, zx_ireturn, zx_areturn, zx_lreturn, zx_return, zcs_0, zcs_1, zcv_1, zcs_2, zcv_2, zcs_3, zcv_3, zcs_4, zcv_4, zcs_5, zcv_5, zcs_6, zcv_6, zcs_7, zcv_7, Int.reduceToNat, Nat.reduceDiv, Nat.reduceMod, zJ, zC, zK_wA, zN_wA, zR_wA, zS_wA, zA_wA, zK_wR, zN_wR, zR_wR, zS_wR, zA_wR, zK_cp, zN_cp, zR_cp, zS_cp, zA_cp, zK_mp, zN_mp, zR_mp, zS_mp, zA_mp, zfa, zfmm, zfa_1, zfb_1, zfa_2, zfb_2, zfa_3, zfb_3, zfa_4, zfb_4, zfa_5, zfb_5, zfa_6, zfb_6, zfa_7, zfb_7, zfa_8, zfb_8, zfa_9, zfb_9, zfa_10, zfb_10, zfa_12, zfb_12, zfa_20, zfb_20, zfa_21, zfb_21, zfa_30, zfb_30, zfa_48, zfb_48, zfa_60, zfb_60, zfa_61, zfb_61, zfa_65, zfb_65, zfa_97, zfb_97, zfa_100, zfb_100, zfa_120, zfb_120, zfa_124, zfb_124, zfa_500, zfb_500, zfa_792, zfb_792, zfa_2989, zfb_2989, zfm_2, zfn_2, zfm_3, zfn_3, zfm_4, zfn_4, zfm_6, zfn_6, zfm_7, zfn_7, zfm_8, zfn_8, zfm_12, zfn_12, zfm_49, zfn_49, zfm_60, zfn_60, zfm_61, zfn_61, zfm_792, zfn_792, zfm_2989, zfn_2989, Int.zero_add, Int.add_zero, Int.zero_mul, Int.mul_zero, Int.one_mul, Int.mul_one, lk_94 hL, lr_94_0 hL, lk_95 hL, ln_95 hL, lr_94_2 hL, lk_96 hL, ln_96 hL, lr_94_3 hL, lk_97 hL, ln_97 hL, hx.1, hx.2.1, hy.1, hy.2.1]
    obtain ⟨x1, x2, x3, x4⟩ := hx
    obtain ⟨y1, y2, y3, y4⟩ := hy
    refine zbr_i (fun q => ?_) (fun q => ?_)
    · have e : p = m := by omega
      repeat (with_reducible refine And.intro ?_ ?_; · first | omega | (simp only [z32, z64]; omega))
      have fin := h (((w.2 x).2 : Int) - ((w.2 y).2 : Int)) (by
        constructor
        · intro hlt
          exact ⟨p, by omega, by omega, he, Or.inr ⟨by omega, by omega⟩⟩
        · rintro ⟨p', a1, a2, a3, a4⟩
          rcases a4 with ⟨b1, b2, b3⟩ | ⟨b1, b2⟩
          · have := he p' (by omega)
            omega
          · omega)
      first | exact fin | (simp only [zx_ireturn]; exact fin)
    · obtain ⟨u1, u2, u3⟩ := x4 p (by omega)
      obtain ⟨v1, v2, v3⟩ := y4 p (by omega)
      repeat (with_reducible refine And.intro ?_ ?_; · first | omega | (simp only [z32, z64]; omega))
      rw [u1, v1]
      repeat (with_reducible refine And.intro ?_ ?_; · first | omega | (simp only [z32, z64]; omega))
      refine zbr_i (fun q1 => ?_) (fun q1 => ?_)
      · repeat (with_reducible refine And.intro ?_ ?_; · first | omega | (simp only [z32, z64]; omega))
        refine ih _ (by omega) (p + 1) _ rfl (by omega) (fun j hj => ?_)
        by_cases ej : j = p
        · rw [ej]; omega
        · exact he j (by omega)
      · have fin := h (t ((w.2 x).1 + p) - t ((w.2 y).1 + p)) (by
          constructor
          · intro hlt
            exact ⟨p, by omega, by omega, he, Or.inl ⟨by omega, by omega, by omega⟩⟩
          · rintro ⟨p', a1, a2, a3, a4⟩
            have hpp : ¬ p < p' := fun hh => by have := a3 p hh; omega
            rcases a4 with ⟨b1, b2, b3⟩ | ⟨b1, b2⟩
            · by_cases ep : p' = p
              · rw [ep] at b3; omega
              · have := he p' (by omega); omega
            · omega)
        repeat (with_reducible refine And.intro ?_ ?_; · first | omega | (simp only [z32, z64]; omega))
        first | exact fin | (simp only [zx_ireturn]; exact fin)
set_option maxRecDepth 100000 in
theorem zc_cpw94 {xs : Nat → Int} {L d b1 b2 : Nat} {H : zH} {Q : zQ} {t : Nat → Int} {w : Nat × (Nat → Nat × Nat)} {x y : Nat} (hL : zLay H) (hw : yWd H 94 t w) (hx : x < w.1) (hy : y < w.1) (h : ∀ v : Int, (v < 0 ↔ yKl t w x y) → Q v H) : zEm xs L d b1 b2 150 [zr (some 94), zi x, zi y] H Q := by
  obtain ⟨w1, w2, w3⟩ := hw
  obtain ⟨x1, x2, x3, _, _, x6⟩ := w3 x hx
  obtain ⟨y1, y2, y3, _, _, y6⟩ := w3 y hy
  clear w3
  have x1 : zA H 96 x = ((w.2 x).1 : Nat) := x1
  have x2 : zA H 97 x = ((w.2 x).2 : Nat) := x2
  have y1 : zA H 96 y = ((w.2 y).1 : Nat) := y1
  have y2 : zA H 97 y = ((w.2 y).2 : Nat) := y2
  refine zem_150 (zgo_at [19] 4 ?_)
  try simp -implicitDefEqProofs only [zgn_0, zgn_s, zct_0, zct_s, Nat.reduceEqDiff, Nat.reduceBEq, Nat.reduceAdd, Nat.reduceSub, Nat.reduceMul, Int.reduceAdd, Int.reduceSub, Int.reduceMul, Int.reduceNeg, Int.reduceLT, Int.reduceLE, Int.reduceEq, Nat.zero_add, true_and, and_true, false_and, and_false, true_imp_iff, false_imp_iff, not_true_eq_false, not_false_eq_true, if_true, if_false, Bool.false_eq_true, ite_true, ite_false, reduceIte, eq_self, Int.toNat_natCast, zst_0, zst_1, zst_2, zst_3, zst_4, true_or, or_true, or_false, false_or, ze_150_0, zB_150_0, ze_150_19, zB_150_19, ze_150_64, zB_150_64, ze_150_70, zB_150_70, zbr_t, zbr_f, zrun_c, zmI_s, zmL_s, zmR_s, zgt_0, zgt_s, zln_0, zln_s, zs1_0, zs1_1i, zs1_1r, zs1_1n, zs1_1l, zs1_s, zs2_0, zs2_1i, zs2_1r, zs2_1n, zs2_1l, zs2_s, zcn_eq, zcn_ne, zcn_lt, zcn_ge, zcn_gt, zcn_le, zpu_0, zpu_1, zpu_2, zx_iconst, zx_lconst, zx_ldc, zx_ldc2, zx_null, zx_iload, zx_lload, zx_aload, zx_istore, zx_lstore, zx_astore, zx_iinc, zx_iadd, zx_isub, zx_imul, zx_idiv, zx_irem, zx_iand, zx_ior, zx_ixor, zx_ishl, zx_ishr, zx_iushr, zx_i2b, zx_i2l, zx_l2i, zx_ladd, zx_lmul, zx_ldiv, zx_lrem, zx_land, zx_lor, zx_lshl, zx_lshr, zx_lcmp, zx_dupi, zx_dupr, zx_dup2l, zx_dup2i, zx_pop, zx_ifc, zx_icmp, zx_ifnullN, zx_ifnullS, zx_ifnonN, zx_ifnonS, zx_goto, zx_gotow, zx_switch, zx_iaload, zx_baload, zx_laload, zx_aaload, zx_iastore, zx_bastore, zx_lastore, zx_aastore, zx_alen, zx_newarray, zx_anewarray, zx_new, zx_getI, zx_getL, zx_getR, zx_putI, zx_putZ, zx_putL, zx_putR, zx_callS, zx_callV, zx_objinit, zx_cpyi, zx_cpyl, zx_mmax, zx_mmin, zx_mminl, zx_ireturn, zx_areturn, zx_lreturn, zx_return, zcs_0, zcs_1, zcv_1, zcs_2, zcv_2, zcs_3, zcv_3, zcs_4, zcv_4, zcs_5, zcv_5, zcs_6, zcv_6, zcs_7, zcv_7, Int.reduceToNat, Nat.reduceDiv, Nat.reduceMod, zJ, zC, zK_wA, zN_wA, zR_wA, zS_wA, zA_wA, zK_wR, zN_wR, zR_wR, zS_wR, zA_wR, zK_cp, zN_cp, zR_cp, zS_cp, zA_cp, zK_mp, zN_mp, zR_mp, zS_mp, zA_mp, zfa, zfmm, zfa_1, zfb_1, zfa_2, zfb_2, zfa_3, zfb_3, zfa_4, zfb_4, zfa_5, zfb_5, zfa_6, zfb_6, zfa_7, zfb_7, zfa_8, zfb_8, zfa_9, zfb_9, zfa_10, zfb_10, zfa_12, zfb_12, zfa_20, zfb_20, zfa_21, zfb_21, zfa_30, zfb_30, zfa_48, zfb_48, zfa_60, zfb_60, zfa_61, zfb_61, zfa_65, zfb_65, zfa_97, zfb_97, zfa_100, zfb_100, zfa_120, zfb_120, zfa_124, zfb_124, zfa_500, zfb_500, zfa_792, zfb_792, zfa_2989, zfb_2989, zfm_2, zfn_2, zfm_3, zfn_3, zfm_4, zfn_4, zfm_6, zfn_6, zfm_7, zfn_7, zfm_8, zfn_8, zfm_12, zfn_12, zfm_49, zfn_49, zfm_60, zfn_60, zfm_61, zfn_61, zfm_792, zfn_792, zfm_2989, zfn_2989, Int.zero_add, Int.add_zero, Int.zero_mul, Int.mul_zero, Int.one_mul, Int.mul_one, lk_94 hL, lr_94_0 hL, lk_95 hL, ln_95 hL, lr_94_2 hL, lk_96 hL, ln_96 hL, lr_94_3 hL, lk_97 hL, ln_97 hL, x1, x2, y1, y2, ymin]
  repeat (with_reducible refine And.intro ?_ ?_; · first | omega | (simp only [z32, z64]; omega))
  exact zl_cpw94 (t := t) (w := w) hL rfl ⟨x1, x2, x3, x6⟩ ⟨y1, y2, y3, y6⟩ (by omega) (by omega) h _ 0 _ rfl (by omega) (fun j hj => by omega)
set_option maxRecDepth 100000 in
theorem zl_bet94 {xs : Nat → Int} {L d b1 b2 : Nat} {H : zH} {Q : zQ} {t : Nat → Int} {w : Nat × (Nat → Nat × Nat)} {a b : Nat} {ra rb : List Nat} (hd : 1 ≤ d) (hL : zLay H) (hk : yMk H) (hw : yWd H 94 t w) (hdd : zWdd t w) (ha : a < 302) (hb : b < 302) (hsa : zA H 167 a = (ra.length : Nat)) (hl : ra.length = rb.length) (hl6 : ra.length ≤ 60) (hca : ∀ p : Nat, p < ra.length → zA H 166 (a * 60 + p) = (ra.getD p 0 : Nat)) (hcb : ∀ p : Nat, p < ra.length → zA H 166 (b * 60 + p) = (rb.getD p 0 : Nat)) (hva : ∀ p : Nat, p < ra.length → ra.getD p 0 < w.1) (hvb : ∀ p : Nat, p < ra.length → rb.getD p 0 < w.1) (h1 : (∃ p : Nat, p < ra.length ∧ (∀ j : Nat, j < p → ra.getD j 0 = rb.getD j 0) ∧ yKl t w (ra.getD p 0) (rb.getD p 0)) → Q 1 H) (h0 : ¬ (∃ p : Nat, p < ra.length ∧ (∀ j : Nat, j < p → ra.getD j 0 = rb.getD j 0) ∧ yKl t w (ra.getD p 0) (rb.getD p 0)) → Q 0 H) : ∀ (kk : Nat) (i : Nat) (l5 : Option zV) (l6 : Option zV), ra.length - i = kk → (i ≤ ra.length) → (∀ j : Nat, j < i → ra.getD j 0 = rb.getD j 0) → zEt xs L d b1 b2 false 149 75 [some (zr (some 165)), some (zi a), some (zi b), some (zr (some 94)), some (zi i), l5, l6] [] H Q := by
  intro kk
  induction kk using Nat.strongRecOn with
  | ind kk ih =>
    intro i l5 l6 hkk hi he
    refine zgo_at [75] 8 ?_
    try simp -implicitDefEqProofs only [zgn_0, zgn_s, zct_0, zct_s, Nat.reduceEqDiff, Nat.reduceBEq, Nat.reduceAdd, Nat.reduceSub, Nat.reduceMul, Int.reduceAdd, Int.reduceSub, Int.reduceMul, Int.reduceNeg, Int.reduceLT, Int.reduceLE, Int.reduceEq, Nat.zero_add, true_and, and_true, false_and, and_false, true_imp_iff, false_imp_iff, not_true_eq_false, not_false_eq_true, if_true, if_false, Bool.false_eq_true, ite_true, ite_false, reduceIte, eq_self, Int.toNat_natCast, zst_0, zst_1, zst_2, zst_3, zst_4, true_or, or_true, or_false, false_or, ze_149_0, zB_149_0, ze_149_33, zB_149_33, ze_149_66, zB_149_66, ze_149_70, zB_149_70, ze_149_71, zB_149_71, ze_149_72, zB_149_72, ze_149_75, zB_149_75, ze_149_136, zB_149_136, ze_149_137, zB_149_137, ze_149_138, zB_149_138, ze_149_144, zB_149_144, zbr_t, zbr_f, zrun_c, zmI_s, zmL_s, zmR_s, zgt_0, zgt_s, zln_0, zln_s, zs1_0, zs1_1i, zs1_1r, zs1_1n, zs1_1l, zs1_s, zs2_0, zs2_1i, zs2_1r, zs2_1n, zs2_1l, zs2_s, zcn_eq, zcn_ne, zcn_lt, zcn_ge, zcn_gt, zcn_le, zpu_0, zpu_1, zpu_2, zx_iconst, zx_lconst, zx_ldc, zx_ldc2, zx_null, zx_iload, zx_lload, zx_aload, zx_istore, zx_lstore, zx_astore, zx_iinc, zx_iadd, zx_isub, zx_imul, zx_idiv, zx_irem, zx_iand, zx_ior, zx_ixor, zx_ishl, zx_ishr, zx_iushr, zx_i2b, zx_i2l, zx_l2i, zx_ladd, zx_lmul, zx_ldiv, zx_lrem, zx_land, zx_lor, zx_lshl, zx_lshr, zx_lcmp, zx_dupi, zx_dupr, zx_dup2l, zx_dup2i, zx_pop, zx_ifc, zx_icmp, zx_ifnullN, zx_ifnullS, zx_ifnonN, zx_ifnonS, zx_goto, zx_gotow, zx_switch, zx_iaload, zx_baload, zx_laload, zx_aaload, zx_iastore, zx_bastore, zx_lastore, zx_aastore, zx_alen, zx_newarray, zx_anewarray, zx_new, zx_getI, zx_getL, zx_getR, zx_putI, zx_putZ, zx_putL, zx_putR, zx_callS, zx_callV, zx_objinit, zx_cpyi, zx_cpyl, zx_mmax, zx_mmin, zx_mminl, zx_ireturn, zx_areturn, zx_lreturn, zx_return, zcs_0, zcs_1, zcv_1, zcs_2, zcv_2, zcs_3, zcv_3, zcs_4, zcv_4, zcs_5, zcv_5, zcs_6, zcv_6, zcs_7, zcv_7, Int.reduceToNat, Nat.reduceDiv, Nat.reduceMod, zJ, zC, zK_wA, zN_wA, zR_wA, zS_wA, zA_wA, zK_wR, zN_wR, zR_wR, zS_wR, zA_wR, zK_cp, zN_cp, zR_cp, zS_cp, zA_cp, zK_mp, zN_mp, zR_mp, zS_mp, zA_mp, zfa, zfmm, zfa_1, zfb_1, zfa_2, zfb_2, zfa_3, zfb_3, zfa_4, zfb_4, zfa_5, zfb_5, zfa_6, zfb_6, zfa_7, zfb_7, zfa_8, zfb_8, zfa_9, zfb_9, zfa_10, zfb_10, zfa_12, zfb_12, zfa_20, zfb_20, zfa_21, zfb_21, zfa_30, zfb_30, zfa_48, zfb_48, zfa_60, zfb_60, zfa_61, zfb_61, zfa_65, zfb_65, zfa_97, zfb_97, zfa_100, zfb_100, zfa_120, zfb_120, zfa_124, zfb_124, zfa_500, zfb_500, zfa_792, zfb_792, zfa_2989, zfb_2989, zfm_2, zfn_2, zfm_3, zfn_3, zfm_4, zfn_4, zfm_6, zfn_6, zfm_7, zfn_7, zfm_8, zfn_8, zfm_12, zfn_12, zfm_49, zfn_49, zfm_60, zfn_60, zfm_61, zfn_61, zfm_792, zfn_792, zfm_2989, zfn_2989, Int.zero_add, Int.add_zero, Int.zero_mul, Int.mul_zero, Int.one_mul, Int.mul_one, ym_k5 hk, ym_k6 hk, ym_n6 hk, ym_k7 hk, ym_n7 hk, ym_k8 hk, ym_n8 hk, ym_k9 hk, ym_n9 hk, ym_k0 hk, ym_n0 hk, ym_r0 hk, ym_r1 hk, ym_r2 hk, ym_r4 hk, ym_r5 hk, hsa, lk_94 hL]
    repeat (with_reducible refine And.intro ?_ ?_; · first | omega | (simp only [z32, z64]; omega))
    refine zbr_i (fun q => ?_) (fun q => ?_)
    · have fin := h0 (by
        rintro ⟨p, p1, p2, p3⟩
        have := he p (by omega)
        rw [this] at p3
        exact yKl_ir p3)
      (show (0 : Int) ≤ 0 ∧ (0 : Int) ≤ 1 ∧ Q 0 H; exact ⟨by omega, by omega, fin⟩)
    · have c1 := hca i (by omega)
      have c2 := hcb i (by omega)
      have v1 := hva i (by omega)
      have v2 := hvb i (by omega)
      generalize hra : ra.getD i 0 = x at *
      generalize hrb : rb.getD i 0 = y at *
      repeat (with_reducible refine And.intro ?_ ?_; · first | omega | (simp only [z32, z64]; omega))
      rw [c1, c2]
      refine zbr_i (fun q1 => ?_) (fun q1 => ?_)
      · repeat (with_reducible refine And.intro ?_ ?_; · first | omega | (simp only [z32, z64]; omega))
        refine ih _ (by omega) (i + 1) _ _ rfl (by omega) (fun j hj => ?_)
        by_cases ej : j = i
        · rw [ej, hra, hrb]; omega
        · exact he j (by omega)
      · repeat (with_reducible refine And.intro ?_ ?_; · first | omega | (simp only [z32, z64]; omega))
        refine zc_cpw94 (t := t) (w := w) (x := x) (y := y) hL hw v1 v2 (fun v hv => ?_)
        try simp -implicitDefEqProofs only [zgn_0, zgn_s, zct_0, zct_s, Nat.reduceEqDiff, Nat.reduceBEq, Nat.reduceAdd, Nat.reduceSub, Nat.reduceMul, Int.reduceAdd, Int.reduceSub, Int.reduceMul, Int.reduceNeg, Int.reduceLT, Int.reduceLE, Int.reduceEq, Nat.zero_add, true_and, and_true, false_and, and_false, true_imp_iff, false_imp_iff, not_true_eq_false, not_false_eq_true, if_true, if_false, Bool.false_eq_true, ite_true, ite_false, reduceIte, eq_self, Int.toNat_natCast, zst_0, zst_1, zst_2, zst_3, zst_4, true_or, or_true, or_false, false_or, ze_149_0, zB_149_0, ze_149_33, zB_149_33, ze_149_66, zB_149_66, ze_149_70, zB_149_70, ze_149_71, zB_149_71, ze_149_72, zB_149_72, ze_149_75, zB_149_75, ze_149_136, zB_149_136, ze_149_137, zB_149_137, ze_149_138, zB_149_138, ze_149_144, zB_149_144, zbr_t, zbr_f, zrun_c, zmI_s, zmL_s, zmR_s, zgt_0, zgt_s, zln_0, zln_s, zs1_0, zs1_1i, zs1_1r, zs1_1n, zs1_1l, zs1_s, zs2_0, zs2_1i, zs2_1r, zs2_1n, zs2_1l, zs2_s, zcn_eq, zcn_ne, zcn_lt, zcn_ge, zcn_gt, zcn_le, zpu_0, zpu_1, zpu_2, zx_iconst, zx_lconst, zx_ldc, zx_ldc2, zx_null, zx_iload, zx_lload, zx_aload, zx_istore, zx_lstore, zx_astore, zx_iinc, zx_iadd, zx_isub, zx_imul, zx_idiv, zx_irem, zx_iand, zx_ior, zx_ixor, zx_ishl, zx_ishr, zx_iushr, zx_i2b, zx_i2l, zx_l2i, zx_ladd, zx_lmul, zx_ldiv, zx_lrem, zx_land, zx_lor, zx_lshl, zx_lshr, zx_lcmp, zx_dupi, zx_dupr, zx_dup2l, zx_dup2i, zx_pop, zx_ifc, zx_icmp, zx_ifnullN, zx_ifnullS, zx_ifnonN, zx_ifnonS, zx_goto, zx_gotow, zx_switch, zx_iaload, zx_baload, zx_laload, zx_aaload, zx_iastore, zx_bastore, zx_lastore, zx_aastore, zx_alen, zx_newarray, zx_anewarray, zx_new, zx_getI, zx_getL, zx_getR, zx_putI, zx_putZ, zx_putL, zx_putR, zx_callS, zx_callV, zx_objinit, zx_cpyi, zx_cpyl, zx_mmax, zx_mmin, zx_mminl, zx_ireturn, zx_areturn, zx_lreturn, zx_return, zcs_0, zcs_1, zcv_1, zcs_2, zcv_2, zcs_3, zcv_3, zcs_4, zcv_4, zcs_5, zcv_5, zcs_6, zcv_6, zcs_7, zcv_7, Int.reduceToNat, Nat.reduceDiv, Nat.reduceMod, zJ, zC, zK_wA, zN_wA, zR_wA, zS_wA, zA_wA, zK_wR, zN_wR, zR_wR, zS_wR, zA_wR, zK_cp, zN_cp, zR_cp, zS_cp, zA_cp, zK_mp, zN_mp, zR_mp, zS_mp, zA_mp, zfa, zfmm, zfa_1, zfb_1, zfa_2, zfb_2, zfa_3, zfb_3, zfa_4, zfb_4, zfa_5, zfb_5, zfa_6, zfb_6, zfa_7, zfb_7, zfa_8, zfb_8, zfa_9, zfb_9, zfa_10, zfb_10, zfa_12, zfb_12, zfa_20, zfb_20, zfa_21, zfb_21, zfa_30, zfb_30, zfa_48, zfb_48, zfa_60, zfb_60, zfa_61, zfb_61, zfa_65, zfb_65, zfa_97, zfb_97, zfa_100, zfb_100, zfa_120, zfb_120, zfa_124, zfb_124, zfa_500, zfb_500, zfa_792, zfb_792, zfa_2989, zfb_2989, zfm_2, zfn_2, zfm_3, zfn_3, zfm_4, zfn_4, zfm_6, zfn_6, zfm_7, zfn_7, zfm_8, zfn_8, zfm_12, zfn_12, zfm_49, zfn_49, zfm_60, zfn_60, zfm_61, zfn_61, zfm_792, zfn_792, zfm_2989, zfn_2989, Int.zero_add, Int.add_zero, Int.zero_mul, Int.mul_zero, Int.one_mul, Int.mul_one]
        refine zbr_i (fun q2 => ?_) (fun q2 => ?_)
        · have fin := h0 (by
            rintro ⟨p, p1, p2, p3⟩
            rcases Nat.lt_trichotomy p i with r | r | r
            · have := he p r
              rw [this] at p3
              exact yKl_ir p3
            · rw [r, hra, hrb] at p3
              have := hv.mpr p3
              omega
            · have := p2 i r
              rw [hra, hrb] at this
              omega)
          (show (0 : Int) ≤ 0 ∧ (0 : Int) ≤ 1 ∧ Q 0 H; exact ⟨by omega, by omega, fin⟩)
        · have fin := h1 ⟨i, by omega, he, by rw [hra, hrb]; exact hv.mp (by omega)⟩
          (show (0 : Int) ≤ 1 ∧ (1 : Int) ≤ 1 ∧ Q 1 H; exact ⟨by omega, by omega, fin⟩)
theorem yRl_x {t : Nat → Int} {w : Nat × (Nat → Nat × Nat)} : ∀ (x y : List Nat), x.length = y.length → (yRl t w x y ↔ ∃ p : Nat, p < x.length ∧ (∀ j : Nat, j < p → x.getD j 0 = y.getD j 0) ∧ yKl t w (x.getD p 0) (y.getD p 0))
  | [], [], _ => ⟨fun h => h.elim, fun ⟨p, h, _⟩ => absurd h (Nat.not_lt_zero _)⟩
  | [], _ :: _, h => by cases h
  | _ :: _, [], h => by cases h
  | a :: x, b :: y, h => by
    have hl : x.length = y.length := by
      have h : x.length + 1 = y.length + 1 := h
      omega
    constructor
    · rintro (q | ⟨q1, q2⟩)
      · exact ⟨0, Nat.succ_pos _, fun j hj => absurd hj (Nat.not_lt_zero _), q⟩
      · obtain ⟨p, p1, p2, p3⟩ := (yRl_x x y hl).mp q2
        refine ⟨p + 1, Nat.succ_lt_succ p1, fun j hj => ?_, p3⟩
        match j, hj with
        | 0, _ => exact q1
        | j + 1, hj => exact p2 j (by omega)
    · rintro ⟨p, p1, p2, p3⟩
      match p, p1, p2, p3 with
      | 0, _, _, p3 => exact Or.inl p3
      | p + 1, p1, p2, p3 =>
        refine Or.inr ⟨p2 0 (by omega), (yRl_x x y hl).mpr ⟨p, Nat.lt_of_succ_lt_succ p1, fun j hj => p2 (j + 1) (by omega), p3⟩⟩
theorem ymem_gd : ∀ (r : List Nat) (p : Nat), p < r.length → r.getD p 0 ∈ r
  | [], p, h => absurd h (Nat.not_lt_zero _)
  | a :: r, 0, _ => List.mem_cons_self
  | a :: r, p + 1, h => List.mem_cons_of_mem _ (ymem_gd r p (Nat.lt_of_succ_lt_succ h))
set_option maxRecDepth 100000 in
set_option maxRecDepth 100000 in
theorem zc_bet94 {xs : Nat → Int} {L d b1 b2 : Nat} {H : zH} {Q : zQ} {t : Nat → Int} {w : Nat × (Nat → Nat × Nat)} {a b : Nat} (hd : 1 ≤ d) (hL : zLay H) (hk : yMk H) (hw : yWd H 94 t w) (hdd : zWdd t w) (ha : a < 302) (hb : b < 302) : ∀ {oa ob : Option (List Nat)} {P R : List Nat → Prop}, ySl H a oa → ySl H b ob → yBest t w P oa → yBest t w R ob → (yBet t w oa ob → Q 1 H) → (¬ yBet t w oa ob → Q 0 H) → zEm xs L d b1 b2 149 [zr (some 165), zi a, zi b, zr (some 94)] H Q
  | none, none, _, _, c1, d1, _, _, h1, h0 => by
    have c1 : zA H 167 a = -1 := c1
    have d1 : zA H 167 b = -1 := d1
    have fin := h0 (fun h => h)
    refine zem_149 (zgo_at [75] 8 ?_)
    try simp -implicitDefEqProofs only [zgn_0, zgn_s, zct_0, zct_s, Nat.reduceEqDiff, Nat.reduceBEq, Nat.reduceAdd, Nat.reduceSub, Nat.reduceMul, Int.reduceAdd, Int.reduceSub, Int.reduceMul, Int.reduceNeg, Int.reduceLT, Int.reduceLE, Int.reduceEq, Nat.zero_add, true_and, and_true, false_and, and_false, true_imp_iff, false_imp_iff, not_true_eq_false, not_false_eq_true, if_true, if_false, Bool.false_eq_true, ite_true, ite_false, reduceIte, eq_self, Int.toNat_natCast, zst_0, zst_1, zst_2, zst_3, zst_4, true_or, or_true, or_false, false_or, ze_149_0, zB_149_0, ze_149_33, zB_149_33, ze_149_66, zB_149_66, ze_149_70, zB_149_70, ze_149_71, zB_149_71, ze_149_72, zB_149_72, ze_149_75, zB_149_75, ze_149_136, zB_149_136, ze_149_137, zB_149_137, ze_149_138, zB_149_138, ze_149_144, zB_149_144, zbr_t, zbr_f, zrun_c, zmI_s, zmL_s, zmR_s, zgt_0, zgt_s, zln_0, zln_s, zs1_0, zs1_1i, zs1_1r, zs1_1n, zs1_1l, zs1_s, zs2_0, zs2_1i, zs2_1r, zs2_1n, zs2_1l, zs2_s, zcn_eq, zcn_ne, zcn_lt, zcn_ge, zcn_gt, zcn_le, zpu_0, zpu_1, zpu_2, zx_iconst, zx_lconst, zx_ldc, zx_ldc2, zx_null, zx_iload, zx_lload, zx_aload, zx_istore, zx_lstore, zx_astore, zx_iinc, zx_iadd, zx_isub, zx_imul, zx_idiv, zx_irem, zx_iand, zx_ior, zx_ixor, zx_ishl, zx_ishr, zx_iushr, zx_i2b, zx_i2l, zx_l2i, zx_ladd, zx_lmul, zx_ldiv, zx_lrem, zx_land, zx_lor, zx_lshl, zx_lshr, zx_lcmp, zx_dupi, zx_dupr, zx_dup2l, zx_dup2i, zx_pop, zx_ifc, zx_icmp, zx_ifnullN, zx_ifnullS, zx_ifnonN, zx_ifnonS, zx_goto, zx_gotow, zx_switch, zx_iaload, zx_baload, zx_laload, zx_aaload, zx_iastore, zx_bastore, zx_lastore, zx_aastore, zx_alen, zx_newarray, zx_anewarray, zx_new, zx_getI, zx_getL, zx_getR, zx_putI, zx_putZ, zx_putL, zx_putR, zx_callS, zx_callV, zx_objinit, zx_cpyi, zx_cpyl, zx_mmax, zx_mmin, zx_mminl, zx_ireturn, zx_areturn, zx_lreturn, zx_return, zcs_0, zcs_1, zcv_1, zcs_2, zcv_2, zcs_3, zcv_3, zcs_4, zcv_4, zcs_5, zcv_5, zcs_6, zcv_6, zcs_7, zcv_7, Int.reduceToNat, Nat.reduceDiv, Nat.reduceMod, zJ, zC, zK_wA, zN_wA, zR_wA, zS_wA, zA_wA, zK_wR, zN_wR, zR_wR, zS_wR, zA_wR, zK_cp, zN_cp, zR_cp, zS_cp, zA_cp, zK_mp, zN_mp, zR_mp, zS_mp, zA_mp, zfa, zfmm, zfa_1, zfb_1, zfa_2, zfb_2, zfa_3, zfb_3, zfa_4, zfb_4, zfa_5, zfb_5, zfa_6, zfb_6, zfa_7, zfb_7, zfa_8, zfb_8, zfa_9, zfb_9, zfa_10, zfb_10, zfa_12, zfb_12, zfa_20, zfb_20, zfa_21, zfb_21, zfa_30, zfb_30, zfa_48, zfb_48, zfa_60, zfb_60, zfa_61, zfb_61, zfa_65, zfb_65, zfa_97, zfb_97, zfa_100, zfb_100, zfa_120, zfb_120, zfa_124, zfb_124, zfa_500, zfb_500, zfa_792, zfb_792, zfa_2989, zfb_2989, zfm_2, zfn_2, zfm_3, zfn_3, zfm_4, zfn_4, zfm_6, zfn_6, zfm_7, zfn_7, zfm_8, zfn_8, zfm_12, zfn_12, zfm_49, zfn_49, zfm_60, zfn_60, zfm_61, zfn_61, zfm_792, zfn_792, zfm_2989, zfn_2989, Int.zero_add, Int.add_zero, Int.zero_mul, Int.mul_zero, Int.one_mul, Int.mul_one, ym_k5 hk, ym_k6 hk, ym_n6 hk, ym_k7 hk, ym_n7 hk, ym_k8 hk, ym_n8 hk, ym_k9 hk, ym_n9 hk, ym_k0 hk, ym_n0 hk, ym_r0 hk, ym_r1 hk, ym_r2 hk, ym_r4 hk, ym_r5 hk, c1, d1]
    repeat (first | (with_reducible refine And.intro ?_ ?_; · first | omega | (simp only [z32, z64]; omega)) | refine zbr_i (fun q => by omega) (fun q => ?_) | refine zbr_i (fun q => ?_) (fun q => by omega))
    (show (0 : Int) ≤ 0 ∧ (0 : Int) ≤ 1 ∧ Q 0 H; exact ⟨by omega, by omega, fin⟩)
  | none, some rb, _, _, c1, hsb, _, _, h1, h0 => by
    have c1 : zA H 167 a = -1 := c1
    obtain ⟨d1, d2, d3⟩ := hsb
    have fin := h0 (fun h => h)
    refine zem_149 (zgo_at [75] 8 ?_)
    try simp -implicitDefEqProofs only [zgn_0, zgn_s, zct_0, zct_s, Nat.reduceEqDiff, Nat.reduceBEq, Nat.reduceAdd, Nat.reduceSub, Nat.reduceMul, Int.reduceAdd, Int.reduceSub, Int.reduceMul, Int.reduceNeg, Int.reduceLT, Int.reduceLE, Int.reduceEq, Nat.zero_add, true_and, and_true, false_and, and_false, true_imp_iff, false_imp_iff, not_true_eq_false, not_false_eq_true, if_true, if_false, Bool.false_eq_true, ite_true, ite_false, reduceIte, eq_self, Int.toNat_natCast, zst_0, zst_1, zst_2, zst_3, zst_4, true_or, or_true, or_false, false_or, ze_149_0, zB_149_0, ze_149_33, zB_149_33, ze_149_66, zB_149_66, ze_149_70, zB_149_70, ze_149_71, zB_149_71, ze_149_72, zB_149_72, ze_149_75, zB_149_75, ze_149_136, zB_149_136, ze_149_137, zB_149_137, ze_149_138, zB_149_138, ze_149_144, zB_149_144, zbr_t, zbr_f, zrun_c, zmI_s, zmL_s, zmR_s, zgt_0, zgt_s, zln_0, zln_s, zs1_0, zs1_1i, zs1_1r, zs1_1n, zs1_1l, zs1_s, zs2_0, zs2_1i, zs2_1r, zs2_1n, zs2_1l, zs2_s, zcn_eq, zcn_ne, zcn_lt, zcn_ge, zcn_gt, zcn_le, zpu_0, zpu_1, zpu_2, zx_iconst, zx_lconst, zx_ldc, zx_ldc2, zx_null, zx_iload, zx_lload, zx_aload, zx_istore, zx_lstore, zx_astore, zx_iinc, zx_iadd, zx_isub, zx_imul, zx_idiv, zx_irem, zx_iand, zx_ior, zx_ixor, zx_ishl, zx_ishr, zx_iushr, zx_i2b, zx_i2l, zx_l2i, zx_ladd, zx_lmul, zx_ldiv, zx_lrem, zx_land, zx_lor, zx_lshl, zx_lshr, zx_lcmp, zx_dupi, zx_dupr, zx_dup2l, zx_dup2i, zx_pop, zx_ifc, zx_icmp, zx_ifnullN, zx_ifnullS, zx_ifnonN, zx_ifnonS, zx_goto, zx_gotow, zx_switch, zx_iaload, zx_baload, zx_laload, zx_aaload, zx_iastore, zx_bastore, zx_lastore, zx_aastore, zx_alen, zx_newarray, zx_anewarray, zx_new, zx_getI, zx_getL, zx_getR, zx_putI, zx_putZ, zx_putL, zx_putR, zx_callS, zx_callV, zx_objinit, zx_cpyi, zx_cpyl, zx_mmax, zx_mmin, zx_mminl, zx_ireturn, zx_areturn, zx_lreturn, zx_return, zcs_0, zcs_1, zcv_1, zcs_2, zcv_2, zcs_3, zcv_3, zcs_4, zcv_4, zcs_5, zcv_5, zcs_6, zcv_6, zcs_7, zcv_7, Int.reduceToNat, Nat.reduceDiv, Nat.reduceMod, zJ, zC, zK_wA, zN_wA, zR_wA, zS_wA, zA_wA, zK_wR, zN_wR, zR_wR, zS_wR, zA_wR, zK_cp, zN_cp, zR_cp, zS_cp, zA_cp, zK_mp, zN_mp, zR_mp, zS_mp, zA_mp, zfa, zfmm, zfa_1, zfb_1, zfa_2, zfb_2, zfa_3, zfb_3, zfa_4, zfb_4, zfa_5, zfb_5, zfa_6, zfb_6, zfa_7, zfb_7, zfa_8, zfb_8, zfa_9, zfb_9, zfa_10, zfb_10, zfa_12, zfb_12, zfa_20, zfb_20, zfa_21, zfb_21, zfa_30, zfb_30, zfa_48, zfb_48, zfa_60, zfb_60, zfa_61, zfb_61, zfa_65, zfb_65, zfa_97, zfb_97, zfa_100, zfb_100, zfa_120, zfb_120, zfa_124, zfb_124, zfa_500, zfb_500, zfa_792, zfb_792, zfa_2989, zfb_2989, zfm_2, zfn_2, zfm_3, zfn_3, zfm_4, zfn_4, zfm_6, zfn_6, zfm_7, zfn_7, zfm_8, zfn_8, zfm_12, zfn_12, zfm_49, zfn_49, zfm_60, zfn_60, zfm_61, zfn_61, zfm_792, zfn_792, zfm_2989, zfn_2989, Int.zero_add, Int.add_zero, Int.zero_mul, Int.mul_zero, Int.one_mul, Int.mul_one, ym_k5 hk, ym_k6 hk, ym_n6 hk, ym_k7 hk, ym_n7 hk, ym_k8 hk, ym_n8 hk, ym_k9 hk, ym_n9 hk, ym_k0 hk, ym_n0 hk, ym_r0 hk, ym_r1 hk, ym_r2 hk, ym_r4 hk, ym_r5 hk, c1, d1]
    repeat (first | (with_reducible refine And.intro ?_ ?_; · first | omega | (simp only [z32, z64]; omega)) | refine zbr_i (fun q => by omega) (fun q => ?_) | refine zbr_i (fun q => ?_) (fun q => by omega))
    (show (0 : Int) ≤ 0 ∧ (0 : Int) ≤ 1 ∧ Q 0 H; exact ⟨by omega, by omega, fin⟩)
  | some ra, none, _, _, hsa, d1, _, _, h1, h0 => by
    obtain ⟨c1, c2, c3⟩ := hsa
    have d1 : zA H 167 b = -1 := d1
    have fin := h1 trivial
    refine zem_149 (zgo_at [75] 8 ?_)
    try simp -implicitDefEqProofs only [zgn_0, zgn_s, zct_0, zct_s, Nat.reduceEqDiff, Nat.reduceBEq, Nat.reduceAdd, Nat.reduceSub, Nat.reduceMul, Int.reduceAdd, Int.reduceSub, Int.reduceMul, Int.reduceNeg, Int.reduceLT, Int.reduceLE, Int.reduceEq, Nat.zero_add, true_and, and_true, false_and, and_false, true_imp_iff, false_imp_iff, not_true_eq_false, not_false_eq_true, if_true, if_false, Bool.false_eq_true, ite_true, ite_false, reduceIte, eq_self, Int.toNat_natCast, zst_0, zst_1, zst_2, zst_3, zst_4, true_or, or_true, or_false, false_or, ze_149_0, zB_149_0, ze_149_33, zB_149_33, ze_149_66, zB_149_66, ze_149_70, zB_149_70, ze_149_71, zB_149_71, ze_149_72, zB_149_72, ze_149_75, zB_149_75, ze_149_136, zB_149_136, ze_149_137, zB_149_137, ze_149_138, zB_149_138, ze_149_144, zB_149_144, zbr_t, zbr_f, zrun_c, zmI_s, zmL_s, zmR_s, zgt_0, zgt_s, zln_0, zln_s, zs1_0, zs1_1i, zs1_1r, zs1_1n, zs1_1l, zs1_s, zs2_0, zs2_1i, zs2_1r, zs2_1n, zs2_1l, zs2_s, zcn_eq, zcn_ne, zcn_lt, zcn_ge, zcn_gt, zcn_le, zpu_0, zpu_1, zpu_2, zx_iconst, zx_lconst, zx_ldc, zx_ldc2, zx_null, zx_iload, zx_lload, zx_aload, zx_istore, zx_lstore, zx_astore, zx_iinc, zx_iadd, zx_isub, zx_imul, zx_idiv, zx_irem, zx_iand, zx_ior, zx_ixor, zx_ishl, zx_ishr, zx_iushr, zx_i2b, zx_i2l, zx_l2i, zx_ladd, zx_lmul, zx_ldiv, zx_lrem, zx_land, zx_lor, zx_lshl, zx_lshr, zx_lcmp, zx_dupi, zx_dupr, zx_dup2l, zx_dup2i, zx_pop, zx_ifc, zx_icmp, zx_ifnullN, zx_ifnullS, zx_ifnonN, zx_ifnonS, zx_goto, zx_gotow, zx_switch, zx_iaload, zx_baload, zx_laload, zx_aaload, zx_iastore, zx_bastore, zx_lastore, zx_aastore, zx_alen, zx_newarray, zx_anewarray, zx_new, zx_getI, zx_getL, zx_getR, zx_putI, zx_putZ, zx_putL, zx_putR, zx_callS, zx_callV, zx_objinit, zx_cpyi, zx_cpyl, zx_mmax, zx_mmin, zx_mminl, zx_ireturn, zx_areturn, zx_lreturn, zx_return, zcs_0, zcs_1, zcv_1, zcs_2, zcv_2, zcs_3, zcv_3, zcs_4, zcv_4, zcs_5, zcv_5, zcs_6, zcv_6, zcs_7, zcv_7, Int.reduceToNat, Nat.reduceDiv, Nat.reduceMod, zJ, zC, zK_wA, zN_wA, zR_wA, zS_wA, zA_wA, zK_wR, zN_wR, zR_wR, zS_wR, zA_wR, zK_cp, zN_cp, zR_cp, zS_cp, zA_cp, zK_mp, zN_mp, zR_mp, zS_mp, zA_mp, zfa, zfmm, zfa_1, zfb_1, zfa_2, zfb_2, zfa_3, zfb_3, zfa_4, zfb_4, zfa_5, zfb_5, zfa_6, zfb_6, zfa_7, zfb_7, zfa_8, zfb_8, zfa_9, zfb_9, zfa_10, zfb_10, zfa_12, zfb_12, zfa_20, zfb_20, zfa_21, zfb_21, zfa_30, zfb_30, zfa_48, zfb_48, zfa_60, zfb_60, zfa_61, zfb_61, zfa_65, zfb_65, zfa_97, zfb_97, zfa_100, zfb_100, zfa_120, zfb_120, zfa_124, zfb_124, zfa_500, zfb_500, zfa_792, zfb_792, zfa_2989, zfb_2989, zfm_2, zfn_2, zfm_3, zfn_3, zfm_4, zfn_4, zfm_6, zfn_6, zfm_7, zfn_7, zfm_8, zfn_8, zfm_12, zfn_12, zfm_49, zfn_49, zfm_60, zfn_60, zfm_61, zfn_61, zfm_792, zfn_792, zfm_2989, zfn_2989, Int.zero_add, Int.add_zero, Int.zero_mul, Int.mul_zero, Int.one_mul, Int.mul_one, ym_k5 hk, ym_k6 hk, ym_n6 hk, ym_k7 hk, ym_n7 hk, ym_k8 hk, ym_n8 hk, ym_k9 hk, ym_n9 hk, ym_k0 hk, ym_n0 hk, ym_r0 hk, ym_r1 hk, ym_r2 hk, ym_r4 hk, ym_r5 hk, c1, d1]
    repeat (first | (with_reducible refine And.intro ?_ ?_; · first | omega | (simp only [z32, z64]; omega)) | refine zbr_i (fun q => by omega) (fun q => ?_) | refine zbr_i (fun q => ?_) (fun q => by omega))
    (show (0 : Int) ≤ 1 ∧ (1 : Int) ≤ 1 ∧ Q 1 H; exact ⟨by omega, by omega, fin⟩)
  | some ra, some rb, P, R, hsa, hsb, ba, bb, h1, h0 => by
    obtain ⟨c1, c2, c3⟩ := hsa
    obtain ⟨d1, d2, d3⟩ := hsb
    refine zem_149 (zgo_at [75] 8 ?_)
    try simp -implicitDefEqProofs only [zgn_0, zgn_s, zct_0, zct_s, Nat.reduceEqDiff, Nat.reduceBEq, Nat.reduceAdd, Nat.reduceSub, Nat.reduceMul, Int.reduceAdd, Int.reduceSub, Int.reduceMul, Int.reduceNeg, Int.reduceLT, Int.reduceLE, Int.reduceEq, Nat.zero_add, true_and, and_true, false_and, and_false, true_imp_iff, false_imp_iff, not_true_eq_false, not_false_eq_true, if_true, if_false, Bool.false_eq_true, ite_true, ite_false, reduceIte, eq_self, Int.toNat_natCast, zst_0, zst_1, zst_2, zst_3, zst_4, true_or, or_true, or_false, false_or, ze_149_0, zB_149_0, ze_149_33, zB_149_33, ze_149_66, zB_149_66, ze_149_70, zB_149_70, ze_149_71, zB_149_71, ze_149_72, zB_149_72, ze_149_75, zB_149_75, ze_149_136, zB_149_136, ze_149_137, zB_149_137, ze_149_138, zB_149_138, ze_149_144, zB_149_144, zbr_t, zbr_f, zrun_c, zmI_s, zmL_s, zmR_s, zgt_0, zgt_s, zln_0, zln_s, zs1_0, zs1_1i, zs1_1r, zs1_1n, zs1_1l, zs1_s, zs2_0, zs2_1i, zs2_1r, zs2_1n, zs2_1l, zs2_s, zcn_eq, zcn_ne, zcn_lt, zcn_ge, zcn_gt, zcn_le, zpu_0, zpu_1, zpu_2, zx_iconst, zx_lconst, zx_ldc, zx_ldc2, zx_null, zx_iload, zx_lload, zx_aload, zx_istore, zx_lstore, zx_astore, zx_iinc, zx_iadd, zx_isub, zx_imul, zx_idiv, zx_irem, zx_iand, zx_ior, zx_ixor, zx_ishl, zx_ishr, zx_iushr, zx_i2b, zx_i2l, zx_l2i, zx_ladd, zx_lmul, zx_ldiv, zx_lrem, zx_land, zx_lor, zx_lshl, zx_lshr, zx_lcmp, zx_dupi, zx_dupr, zx_dup2l, zx_dup2i, zx_pop, zx_ifc, zx_icmp, zx_ifnullN, zx_ifnullS, zx_ifnonN, zx_ifnonS, zx_goto, zx_gotow, zx_switch, zx_iaload, zx_baload, zx_laload, zx_aaload, zx_iastore, zx_bastore, zx_lastore, zx_aastore, zx_alen, zx_newarray, zx_anewarray, zx_new, zx_getI, zx_getL, zx_getR, zx_putI, zx_putZ, zx_putL, zx_putR, zx_callS, zx_callV, zx_objinit, zx_cpyi, zx_cpyl, zx_mmax, zx_mmin, zx_mminl, zx_ireturn, zx_areturn, zx_lreturn, zx_return, zcs_0, zcs_1, zcv_1, zcs_2, zcv_2, zcs_3, zcv_3, zcs_4, zcv_4, zcs_5, zcv_5, zcs_6, zcv_6, zcs_7, zcv_7, Int.reduceToNat, Nat.reduceDiv, Nat.reduceMod, zJ, zC, zK_wA, zN_wA, zR_wA, zS_wA, zA_wA, zK_wR, zN_wR, zR_wR, zS_wR, zA_wR, zK_cp, zN_cp, zR_cp, zS_cp, zA_cp, zK_mp, zN_mp, zR_mp, zS_mp, zA_mp, zfa, zfmm, zfa_1, zfb_1, zfa_2, zfb_2, zfa_3, zfb_3, zfa_4, zfb_4, zfa_5, zfb_5, zfa_6, zfb_6, zfa_7, zfb_7, zfa_8, zfb_8, zfa_9, zfb_9, zfa_10, zfb_10, zfa_12, zfb_12, zfa_20, zfb_20, zfa_21, zfb_21, zfa_30, zfb_30, zfa_48, zfb_48, zfa_60, zfb_60, zfa_61, zfb_61, zfa_65, zfb_65, zfa_97, zfb_97, zfa_100, zfb_100, zfa_120, zfb_120, zfa_124, zfb_124, zfa_500, zfb_500, zfa_792, zfb_792, zfa_2989, zfb_2989, zfm_2, zfn_2, zfm_3, zfn_3, zfm_4, zfn_4, zfm_6, zfn_6, zfm_7, zfn_7, zfm_8, zfn_8, zfm_12, zfn_12, zfm_49, zfn_49, zfm_60, zfn_60, zfm_61, zfn_61, zfm_792, zfn_792, zfm_2989, zfn_2989, Int.zero_add, Int.add_zero, Int.zero_mul, Int.mul_zero, Int.one_mul, Int.mul_one, ym_k5 hk, ym_k6 hk, ym_n6 hk, ym_k7 hk, ym_n7 hk, ym_k8 hk, ym_n8 hk, ym_k9 hk, ym_n9 hk, ym_k0 hk, ym_n0 hk, ym_r0 hk, ym_r1 hk, ym_r2 hk, ym_r4 hk, ym_r5 hk, c1, d1]
    by_cases hl : ra.length = rb.length
    · repeat (first | (with_reducible refine And.intro ?_ ?_; · first | omega | (simp only [z32, z64]; omega)) | refine zbr_i (fun q => by omega) (fun q => ?_) | refine zbr_i (fun q => ?_) (fun q => by omega))
      have hx := yRl_x (t := t) (w := w) ra rb hl
      refine zl_bet94 (t := t) (w := w) (ra := ra) (rb := rb) hd hL hk hw hdd ha hb c1 hl c2 c3 (fun p hp => d3 p (by omega)) (fun p hp => ba.2.2.1 _ (ymem_gd ra p hp)) (fun p hp => bb.2.2.1 _ (ymem_gd rb p (by omega))) (fun hh => h1 (Or.inr ⟨hl, hx.mpr hh⟩)) (fun hh => h0 (fun hb => ?_)) _ 0 _ _ rfl (by omega) (fun j hj => by omega)
      rcases hb with q | ⟨_, q⟩
      · omega
      · exact hh (hx.mp q)
    · by_cases hlt : ra.length < rb.length
      · have fin := h1 (Or.inl hlt)
        repeat (first | (with_reducible refine And.intro ?_ ?_; · first | omega | (simp only [z32, z64]; omega)) | refine zbr_i (fun q => by omega) (fun q => ?_) | refine zbr_i (fun q => ?_) (fun q => by omega))
        (show (0 : Int) ≤ 1 ∧ (1 : Int) ≤ 1 ∧ Q 1 H; exact ⟨by omega, by omega, fin⟩)
      · have fin := h0 (fun hb => by
          rcases hb with q | ⟨q, _⟩
          · omega
          · omega)
        repeat (first | (with_reducible refine And.intro ?_ ?_; · first | omega | (simp only [z32, z64]; omega)) | refine zbr_i (fun q => by omega) (fun q => ?_) | refine zbr_i (fun q => ?_) (fun q => by omega))
        (show (0 : Int) ≤ 0 ∧ (0 : Int) ≤ 1 ∧ Q 0 H; exact ⟨by omega, by omega, fin⟩)
set_option maxRecDepth 100000 in
theorem zl_cpw100 {xs : Nat → Int} {L d b1 b2 : Nat} {H : zH} {Q : zQ} {t : Nat → Int} {w : Nat × (Nat → Nat × Nat)} {x y m : Nat} (hL : zLay H) (hm : m = min (w.2 x).2 (w.2 y).2) (hx : zA H 102 x = ((w.2 x).1 : Nat) ∧ zA H 103 x = ((w.2 x).2 : Nat) ∧ (w.2 x).1 + (w.2 x).2 ≤ 400 ∧ ∀ j : Nat, j < (w.2 x).2 → zA H 101 ((w.2 x).1 + j) = t ((w.2 x).1 + j) ∧ 0 ≤ t ((w.2 x).1 + j) ∧ t ((w.2 x).1 + j) ≤ 255) (hy : zA H 102 y = ((w.2 y).1 : Nat) ∧ zA H 103 y = ((w.2 y).2 : Nat) ∧ (w.2 y).1 + (w.2 y).2 ≤ 400 ∧ ∀ j : Nat, j < (w.2 y).2 → zA H 101 ((w.2 y).1 + j) = t ((w.2 y).1 + j) ∧ 0 ≤ t ((w.2 y).1 + j) ∧ t ((w.2 y).1 + j) ≤ 255) (hx1 : x < 120) (hy1 : y < 120) (h : ∀ v : Int, (v < 0 ↔ yKl t w x y) → Q v H) : ∀ (kk : Nat) (p : Nat) (l5 : Option zV), m - p = kk → (p ≤ m) → (∀ j : Nat, j < p → t ((w.2 x).1 + j) = t ((w.2 y).1 + j)) → zEt xs L d b1 b2 false 150 19 [some (zr (some 100)), some (zi x), some (zi y), some (zi m), some (zi p), l5] [] H Q := by
  intro kk
  induction kk using Nat.strongRecOn with
  | ind kk ih =>
    intro p l5 hkk hp he
    refine zgo_at [19] 8 ?_
    try simp -implicitDefEqProofs only [zgn_0, zgn_s, zct_0, zct_s, Nat.reduceEqDiff, Nat.reduceBEq, Nat.reduceAdd, Nat.reduceSub, Nat.reduceMul, Int.reduceAdd, Int.reduceSub, Int.reduceMul, Int.reduceNeg, Int.reduceLT, Int.reduceLE, Int.reduceEq, Nat.zero_add, true_and, and_true, false_and, and_false, true_imp_iff, false_imp_iff, not_true_eq_false, not_false_eq_true, if_true, if_false, Bool.false_eq_true, ite_true, ite_false, reduceIte, eq_self, Int.toNat_natCast, zst_0, zst_1, zst_2, zst_3, zst_4, true_or, or_true, or_false, false_or, ze_150_0, zB_150_0, ze_150_19, zB_150_19, ze_150_64, zB_150_64, ze_150_70, zB_150_70, zbr_t, zbr_f, zrun_c, zmI_s, zmL_s, zmR_s, zgt_0, zgt_s, zln_0, zln_s, zs1_0, zs1_1i, zs1_1r, zs1_1n, zs1_1l, zs1_s, zs2_0, zs2_1i, zs2_1r, zs2_1n, zs2_1l, zs2_s, zcn_eq, zcn_ne, zcn_lt, zcn_ge, zcn_gt, zcn_le, zpu_0, zpu_1, zpu_2, zx_iconst, zx_lconst, zx_ldc, zx_ldc2, zx_null, zx_iload, zx_lload, zx_aload, zx_istore, zx_lstore, zx_astore, zx_iinc, zx_iadd, zx_isub, zx_imul, zx_idiv, zx_irem, zx_iand, zx_ior, zx_ixor, zx_ishl, zx_ishr, zx_iushr, zx_i2b, zx_i2l, zx_l2i, zx_ladd, zx_lmul, zx_ldiv, zx_lrem, zx_land, zx_lor, zx_lshl, zx_lshr, zx_lcmp, zx_dupi, zx_dupr, zx_dup2l, zx_dup2i, zx_pop, zx_ifc, zx_icmp, zx_ifnullN, zx_ifnullS, zx_ifnonN, zx_ifnonS, zx_goto, zx_gotow, zx_switch, zx_iaload, zx_baload, zx_laload, zx_aaload, zx_iastore, zx_bastore, zx_lastore, zx_aastore, zx_alen, zx_newarray, zx_anewarray, zx_new, zx_getI, zx_getL, zx_getR, zx_putI, zx_putZ, zx_putL, zx_putR, zx_callS, zx_callV, zx_objinit, zx_cpyi, zx_cpyl, zx_mmax, zx_mmin, zx_mminl, zx_ireturn, zx_areturn, zx_lreturn, zx_return, zcs_0, zcs_1, zcv_1, zcs_2, zcv_2, zcs_3, zcv_3, zcs_4, zcv_4, zcs_5, zcv_5, zcs_6, zcv_6, zcs_7, zcv_7, Int.reduceToNat, Nat.reduceDiv, Nat.reduceMod, zJ, zC, zK_wA, zN_wA, zR_wA, zS_wA, zA_wA, zK_wR, zN_wR, zR_wR, zS_wR, zA_wR, zK_cp, zN_cp, zR_cp, zS_cp, zA_cp, zK_mp, zN_mp, zR_mp, zS_mp, zA_mp, zfa, zfmm, zfa_1, zfb_1, zfa_2, zfb_2, zfa_3, zfb_3, zfa_4, zfb_4, zfa_5, zfb_5, zfa_6, zfb_6, zfa_7, zfb_7, zfa_8, zfb_8, zfa_9, zfb_9, zfa_10, zfb_10, zfa_12, zfb_12, zfa_20, zfb_20, zfa_21, zfb_21, zfa_30, zfb_30, zfa_48, zfb_48, zfa_60, zfb_60, zfa_61, zfb_61, zfa_65, zfb_65, zfa_97, zfb_97, zfa_100, zfb_100, zfa_120, zfb_120, zfa_124, zfb_124, zfa_500, zfb_500, zfa_792, zfb_792, zfa_2989, zfb_2989, zfm_2, zfn_2, zfm_3, zfn_3, zfm_4, zfn_4, zfm_6, zfn_6, zfm_7, zfn_7, zfm_8, zfn_8, zfm_12, zfn_12, zfm_49, zfn_49, zfm_60, zfn_60, zfm_61, zfn_61, zfm_792, zfn_792, zfm_2989, zfn_2989, Int.zero_add, Int.add_zero, Int.zero_mul, Int.mul_zero, Int.one_mul, Int.mul_one, lk_100 hL, lr_100_0 hL, lk_101 hL, ln_101 hL, lr_100_2 hL, lk_102 hL, ln_102 hL, lr_100_3 hL, lk_103 hL, ln_103 hL, hx.1, hx.2.1, hy.1, hy.2.1]
    obtain ⟨x1, x2, x3, x4⟩ := hx
    obtain ⟨y1, y2, y3, y4⟩ := hy
    refine zbr_i (fun q => ?_) (fun q => ?_)
    · have e : p = m := by omega
      repeat (with_reducible refine And.intro ?_ ?_; · first | omega | (simp only [z32, z64]; omega))
      have fin := h (((w.2 x).2 : Int) - ((w.2 y).2 : Int)) (by
        constructor
        · intro hlt
          exact ⟨p, by omega, by omega, he, Or.inr ⟨by omega, by omega⟩⟩
        · rintro ⟨p', a1, a2, a3, a4⟩
          rcases a4 with ⟨b1, b2, b3⟩ | ⟨b1, b2⟩
          · have := he p' (by omega)
            omega
          · omega)
      first | exact fin | (simp only [zx_ireturn]; exact fin)
    · obtain ⟨u1, u2, u3⟩ := x4 p (by omega)
      obtain ⟨v1, v2, v3⟩ := y4 p (by omega)
      repeat (with_reducible refine And.intro ?_ ?_; · first | omega | (simp only [z32, z64]; omega))
      rw [u1, v1]
      repeat (with_reducible refine And.intro ?_ ?_; · first | omega | (simp only [z32, z64]; omega))
      refine zbr_i (fun q1 => ?_) (fun q1 => ?_)
      · repeat (with_reducible refine And.intro ?_ ?_; · first | omega | (simp only [z32, z64]; omega))
        refine ih _ (by omega) (p + 1) _ rfl (by omega) (fun j hj => ?_)
        by_cases ej : j = p
        · rw [ej]; omega
        · exact he j (by omega)
      · have fin := h (t ((w.2 x).1 + p) - t ((w.2 y).1 + p)) (by
          constructor
          · intro hlt
            exact ⟨p, by omega, by omega, he, Or.inl ⟨by omega, by omega, by omega⟩⟩
          · rintro ⟨p', a1, a2, a3, a4⟩
            have hpp : ¬ p < p' := fun hh => by have := a3 p hh; omega
            rcases a4 with ⟨b1, b2, b3⟩ | ⟨b1, b2⟩
            · by_cases ep : p' = p
              · rw [ep] at b3; omega
              · have := he p' (by omega); omega
            · omega)
        repeat (with_reducible refine And.intro ?_ ?_; · first | omega | (simp only [z32, z64]; omega))
        first | exact fin | (simp only [zx_ireturn]; exact fin)
set_option maxRecDepth 100000 in
theorem zc_cpw100 {xs : Nat → Int} {L d b1 b2 : Nat} {H : zH} {Q : zQ} {t : Nat → Int} {w : Nat × (Nat → Nat × Nat)} {x y : Nat} (hL : zLay H) (hw : yWd H 100 t w) (hx : x < w.1) (hy : y < w.1) (h : ∀ v : Int, (v < 0 ↔ yKl t w x y) → Q v H) : zEm xs L d b1 b2 150 [zr (some 100), zi x, zi y] H Q := by
  obtain ⟨w1, w2, w3⟩ := hw
  obtain ⟨x1, x2, x3, _, _, x6⟩ := w3 x hx
  obtain ⟨y1, y2, y3, _, _, y6⟩ := w3 y hy
  clear w3
  have x1 : zA H 102 x = ((w.2 x).1 : Nat) := x1
  have x2 : zA H 103 x = ((w.2 x).2 : Nat) := x2
  have y1 : zA H 102 y = ((w.2 y).1 : Nat) := y1
  have y2 : zA H 103 y = ((w.2 y).2 : Nat) := y2
  refine zem_150 (zgo_at [19] 4 ?_)
  try simp -implicitDefEqProofs only [zgn_0, zgn_s, zct_0, zct_s, Nat.reduceEqDiff, Nat.reduceBEq, Nat.reduceAdd, Nat.reduceSub, Nat.reduceMul, Int.reduceAdd, Int.reduceSub, Int.reduceMul, Int.reduceNeg, Int.reduceLT, Int.reduceLE, Int.reduceEq, Nat.zero_add, true_and, and_true, false_and, and_false, true_imp_iff, false_imp_iff, not_true_eq_false, not_false_eq_true, if_true, if_false, Bool.false_eq_true, ite_true, ite_false, reduceIte, eq_self, Int.toNat_natCast, zst_0, zst_1, zst_2, zst_3, zst_4, true_or, or_true, or_false, false_or, ze_150_0, zB_150_0, ze_150_19, zB_150_19, ze_150_64, zB_150_64, ze_150_70, zB_150_70, zbr_t, zbr_f, zrun_c, zmI_s, zmL_s, zmR_s, zgt_0, zgt_s, zln_0, zln_s, zs1_0, zs1_1i, zs1_1r, zs1_1n, zs1_1l, zs1_s, zs2_0, zs2_1i, zs2_1r, zs2_1n, zs2_1l, zs2_s, zcn_eq, zcn_ne, zcn_lt, zcn_ge, zcn_gt, zcn_le, zpu_0, zpu_1, zpu_2, zx_iconst, zx_lconst, zx_ldc, zx_ldc2, zx_null, zx_iload, zx_lload, zx_aload, zx_istore, zx_lstore, zx_astore, zx_iinc, zx_iadd, zx_isub, zx_imul, zx_idiv, zx_irem, zx_iand, zx_ior, zx_ixor, zx_ishl, zx_ishr, zx_iushr, zx_i2b, zx_i2l, zx_l2i, zx_ladd, zx_lmul, zx_ldiv, zx_lrem, zx_land, zx_lor, zx_lshl, zx_lshr, zx_lcmp, zx_dupi, zx_dupr, zx_dup2l, zx_dup2i, zx_pop, zx_ifc, zx_icmp, zx_ifnullN, zx_ifnullS, zx_ifnonN, zx_ifnonS, zx_goto, zx_gotow, zx_switch, zx_iaload, zx_baload, zx_laload, zx_aaload, zx_iastore, zx_bastore, zx_lastore, zx_aastore, zx_alen, zx_newarray, zx_anewarray, zx_new, zx_getI, zx_getL, zx_getR, zx_putI, zx_putZ, zx_putL, zx_putR, zx_callS, zx_callV, zx_objinit, zx_cpyi, zx_cpyl, zx_mmax, zx_mmin, zx_mminl, zx_ireturn, zx_areturn, zx_lreturn, zx_return, zcs_0, zcs_1, zcv_1, zcs_2, zcv_2, zcs_3, zcv_3, zcs_4, zcv_4, zcs_5, zcv_5, zcs_6, zcv_6, zcs_7, zcv_7, Int.reduceToNat, Nat.reduceDiv, Nat.reduceMod, zJ, zC, zK_wA, zN_wA, zR_wA, zS_wA, zA_wA, zK_wR, zN_wR, zR_wR, zS_wR, zA_wR, zK_cp, zN_cp, zR_cp, zS_cp, zA_cp, zK_mp, zN_mp, zR_mp, zS_mp, zA_mp, zfa, zfmm, zfa_1, zfb_1, zfa_2, zfb_2, zfa_3, zfb_3, zfa_4, zfb_4, zfa_5, zfb_5, zfa_6, zfb_6, zfa_7, zfb_7, zfa_8, zfb_8, zfa_9, zfb_9, zfa_10, zfb_10, zfa_12, zfb_12, zfa_20, zfb_20, zfa_21, zfb_21, zfa_30, zfb_30, zfa_48, zfb_48, zfa_60, zfb_60, zfa_61, zfb_61, zfa_65, zfb_65, zfa_97, zfb_97, zfa_100, zfb_100, zfa_120, zfb_120, zfa_124, zfb_124, zfa_500, zfb_500, zfa_792, zfb_792, zfa_2989, zfb_2989, zfm_2, zfn_2, zfm_3, zfn_3, zfm_4, zfn_4, zfm_6, zfn_6, zfm_7, zfn_7, zfm_8, zfn_8, zfm_12, zfn_12, zfm_49, zfn_49, zfm_60, zfn_60, zfm_61, zfn_61, zfm_792, zfn_792, zfm_2989, zfn_2989, Int.zero_add, Int.add_zero, Int.zero_mul, Int.mul_zero, Int.one_mul, Int.mul_one, lk_100 hL, lr_100_0 hL, lk_101 hL, ln_101 hL, lr_100_2 hL, lk_102 hL, ln_102 hL, lr_100_3 hL, lk_103 hL, ln_103 hL, x1, x2, y1, y2, ymin]
  repeat (with_reducible refine And.intro ?_ ?_; · first | omega | (simp only [z32, z64]; omega))
  exact zl_cpw100 (t := t) (w := w) hL rfl ⟨x1, x2, x3, x6⟩ ⟨y1, y2, y3, y6⟩ (by omega) (by omega) h _ 0 _ rfl (by omega) (fun j hj => by omega)
set_option maxRecDepth 100000 in
theorem zl_bet100 {xs : Nat → Int} {L d b1 b2 : Nat} {H : zH} {Q : zQ} {t : Nat → Int} {w : Nat × (Nat → Nat × Nat)} {a b : Nat} {ra rb : List Nat} (hd : 1 ≤ d) (hL : zLay H) (hk : yMk H) (hw : yWd H 100 t w) (hdd : zWdd t w) (ha : a < 302) (hb : b < 302) (hsa : zA H 167 a = (ra.length : Nat)) (hl : ra.length = rb.length) (hl6 : ra.length ≤ 60) (hca : ∀ p : Nat, p < ra.length → zA H 166 (a * 60 + p) = (ra.getD p 0 : Nat)) (hcb : ∀ p : Nat, p < ra.length → zA H 166 (b * 60 + p) = (rb.getD p 0 : Nat)) (hva : ∀ p : Nat, p < ra.length → ra.getD p 0 < w.1) (hvb : ∀ p : Nat, p < ra.length → rb.getD p 0 < w.1) (h1 : (∃ p : Nat, p < ra.length ∧ (∀ j : Nat, j < p → ra.getD j 0 = rb.getD j 0) ∧ yKl t w (ra.getD p 0) (rb.getD p 0)) → Q 1 H) (h0 : ¬ (∃ p : Nat, p < ra.length ∧ (∀ j : Nat, j < p → ra.getD j 0 = rb.getD j 0) ∧ yKl t w (ra.getD p 0) (rb.getD p 0)) → Q 0 H) : ∀ (kk : Nat) (i : Nat) (l5 : Option zV) (l6 : Option zV), ra.length - i = kk → (i ≤ ra.length) → (∀ j : Nat, j < i → ra.getD j 0 = rb.getD j 0) → zEt xs L d b1 b2 false 149 75 [some (zr (some 165)), some (zi a), some (zi b), some (zr (some 100)), some (zi i), l5, l6] [] H Q := by
  intro kk
  induction kk using Nat.strongRecOn with
  | ind kk ih =>
    intro i l5 l6 hkk hi he
    refine zgo_at [75] 8 ?_
    try simp -implicitDefEqProofs only [zgn_0, zgn_s, zct_0, zct_s, Nat.reduceEqDiff, Nat.reduceBEq, Nat.reduceAdd, Nat.reduceSub, Nat.reduceMul, Int.reduceAdd, Int.reduceSub, Int.reduceMul, Int.reduceNeg, Int.reduceLT, Int.reduceLE, Int.reduceEq, Nat.zero_add, true_and, and_true, false_and, and_false, true_imp_iff, false_imp_iff, not_true_eq_false, not_false_eq_true, if_true, if_false, Bool.false_eq_true, ite_true, ite_false, reduceIte, eq_self, Int.toNat_natCast, zst_0, zst_1, zst_2, zst_3, zst_4, true_or, or_true, or_false, false_or, ze_149_0, zB_149_0, ze_149_33, zB_149_33, ze_149_66, zB_149_66, ze_149_70, zB_149_70, ze_149_71, zB_149_71, ze_149_72, zB_149_72, ze_149_75, zB_149_75, ze_149_136, zB_149_136, ze_149_137, zB_149_137, ze_149_138, zB_149_138, ze_149_144, zB_149_144, zbr_t, zbr_f, zrun_c, zmI_s, zmL_s, zmR_s, zgt_0, zgt_s, zln_0, zln_s, zs1_0, zs1_1i, zs1_1r, zs1_1n, zs1_1l, zs1_s, zs2_0, zs2_1i, zs2_1r, zs2_1n, zs2_1l, zs2_s, zcn_eq, zcn_ne, zcn_lt, zcn_ge, zcn_gt, zcn_le, zpu_0, zpu_1, zpu_2, zx_iconst, zx_lconst, zx_ldc, zx_ldc2, zx_null, zx_iload, zx_lload, zx_aload, zx_istore, zx_lstore, zx_astore, zx_iinc, zx_iadd, zx_isub, zx_imul, zx_idiv, zx_irem, zx_iand, zx_ior, zx_ixor, zx_ishl, zx_ishr, zx_iushr, zx_i2b, zx_i2l, zx_l2i, zx_ladd, zx_lmul, zx_ldiv, zx_lrem, zx_land, zx_lor, zx_lshl, zx_lshr, zx_lcmp, zx_dupi, zx_dupr, zx_dup2l, zx_dup2i, zx_pop, zx_ifc, zx_icmp, zx_ifnullN, zx_ifnullS, zx_ifnonN, zx_ifnonS, zx_goto, zx_gotow, zx_switch, zx_iaload, zx_baload, zx_laload, zx_aaload, zx_iastore, zx_bastore, zx_lastore, zx_aastore, zx_alen, zx_newarray, zx_anewarray, zx_new, zx_getI, zx_getL, zx_getR, zx_putI, zx_putZ, zx_putL, zx_putR, zx_callS, zx_callV, zx_objinit, zx_cpyi, zx_cpyl, zx_mmax, zx_mmin, zx_mminl, zx_ireturn, zx_areturn, zx_lreturn, zx_return, zcs_0, zcs_1, zcv_1, zcs_2, zcv_2, zcs_3, zcv_3, zcs_4, zcv_4, zcs_5, zcv_5, zcs_6, zcv_6, zcs_7, zcv_7, Int.reduceToNat, Nat.reduceDiv, Nat.reduceMod, zJ, zC, zK_wA, zN_wA, zR_wA, zS_wA, zA_wA, zK_wR, zN_wR, zR_wR, zS_wR, zA_wR, zK_cp, zN_cp, zR_cp, zS_cp, zA_cp, zK_mp, zN_mp, zR_mp, zS_mp, zA_mp, zfa, zfmm, zfa_1, zfb_1, zfa_2, zfb_2, zfa_3, zfb_3, zfa_4, zfb_4, zfa_5, zfb_5, zfa_6, zfb_6, zfa_7, zfb_7, zfa_8, zfb_8, zfa_9, zfb_9, zfa_10, zfb_10, zfa_12, zfb_12, zfa_20, zfb_20, zfa_21, zfb_21, zfa_30, zfb_30, zfa_48, zfb_48, zfa_60, zfb_60, zfa_61, zfb_61, zfa_65, zfb_65, zfa_97, zfb_97, zfa_100, zfb_100, zfa_120, zfb_120, zfa_124, zfb_124, zfa_500, zfb_500, zfa_792, zfb_792, zfa_2989, zfb_2989, zfm_2, zfn_2, zfm_3, zfn_3, zfm_4, zfn_4, zfm_6, zfn_6, zfm_7, zfn_7, zfm_8, zfn_8, zfm_12, zfn_12, zfm_49, zfn_49, zfm_60, zfn_60, zfm_61, zfn_61, zfm_792, zfn_792, zfm_2989, zfn_2989, Int.zero_add, Int.add_zero, Int.zero_mul, Int.mul_zero, Int.one_mul, Int.mul_one, ym_k5 hk, ym_k6 hk, ym_n6 hk, ym_k7 hk, ym_n7 hk, ym_k8 hk, ym_n8 hk, ym_k9 hk, ym_n9 hk, ym_k0 hk, ym_n0 hk, ym_r0 hk, ym_r1 hk, ym_r2 hk, ym_r4 hk, ym_r5 hk, hsa, lk_100 hL]
    repeat (with_reducible refine And.intro ?_ ?_; · first | omega | (simp only [z32, z64]; omega))
    refine zbr_i (fun q => ?_) (fun q => ?_)
    · have fin := h0 (by
        rintro ⟨p, p1, p2, p3⟩
        have := he p (by omega)
        rw [this] at p3
        exact yKl_ir p3)
      (show (0 : Int) ≤ 0 ∧ (0 : Int) ≤ 1 ∧ Q 0 H; exact ⟨by omega, by omega, fin⟩)
    · have c1 := hca i (by omega)
      have c2 := hcb i (by omega)
      have v1 := hva i (by omega)
      have v2 := hvb i (by omega)
      generalize hra : ra.getD i 0 = x at *
      generalize hrb : rb.getD i 0 = y at *
      repeat (with_reducible refine And.intro ?_ ?_; · first | omega | (simp only [z32, z64]; omega))
      rw [c1, c2]
      refine zbr_i (fun q1 => ?_) (fun q1 => ?_)
      · repeat (with_reducible refine And.intro ?_ ?_; · first | omega | (simp only [z32, z64]; omega))
        refine ih _ (by omega) (i + 1) _ _ rfl (by omega) (fun j hj => ?_)
        by_cases ej : j = i
        · rw [ej, hra, hrb]; omega
        · exact he j (by omega)
      · repeat (with_reducible refine And.intro ?_ ?_; · first | omega | (simp only [z32, z64]; omega))
        refine zc_cpw100 (t := t) (w := w) (x := x) (y := y) hL hw v1 v2 (fun v hv => ?_)
        try simp -implicitDefEqProofs only [zgn_0, zgn_s, zct_0, zct_s, Nat.reduceEqDiff, Nat.reduceBEq, Nat.reduceAdd, Nat.reduceSub, Nat.reduceMul, Int.reduceAdd, Int.reduceSub, Int.reduceMul, Int.reduceNeg, Int.reduceLT, Int.reduceLE, Int.reduceEq, Nat.zero_add, true_and, and_true, false_and, and_false, true_imp_iff, false_imp_iff, not_true_eq_false, not_false_eq_true, if_true, if_false, Bool.false_eq_true, ite_true, ite_false, reduceIte, eq_self, Int.toNat_natCast, zst_0, zst_1, zst_2, zst_3, zst_4, true_or, or_true, or_false, false_or, ze_149_0, zB_149_0, ze_149_33, zB_149_33, ze_149_66, zB_149_66, ze_149_70, zB_149_70, ze_149_71, zB_149_71, ze_149_72, zB_149_72, ze_149_75, zB_149_75, ze_149_136, zB_149_136, ze_149_137, zB_149_137, ze_149_138, zB_149_138, ze_149_144, zB_149_144, zbr_t, zbr_f, zrun_c, zmI_s, zmL_s, zmR_s, zgt_0, zgt_s, zln_0, zln_s, zs1_0, zs1_1i, zs1_1r, zs1_1n, zs1_1l, zs1_s, zs2_0, zs2_1i, zs2_1r, zs2_1n, zs2_1l, zs2_s, zcn_eq, zcn_ne, zcn_lt, zcn_ge, zcn_gt, zcn_le, zpu_0, zpu_1, zpu_2, zx_iconst, zx_lconst, zx_ldc, zx_ldc2, zx_null, zx_iload, zx_lload, zx_aload, zx_istore, zx_lstore, zx_astore, zx_iinc, zx_iadd, zx_isub, zx_imul, zx_idiv, zx_irem, zx_iand, zx_ior, zx_ixor, zx_ishl, zx_ishr, zx_iushr, zx_i2b, zx_i2l, zx_l2i, zx_ladd, zx_lmul, zx_ldiv, zx_lrem, zx_land, zx_lor, zx_lshl, zx_lshr, zx_lcmp, zx_dupi, zx_dupr, zx_dup2l, zx_dup2i, zx_pop, zx_ifc, zx_icmp, zx_ifnullN, zx_ifnullS, zx_ifnonN, zx_ifnonS, zx_goto, zx_gotow, zx_switch, zx_iaload, zx_baload, zx_laload, zx_aaload, zx_iastore, zx_bastore, zx_lastore, zx_aastore, zx_alen, zx_newarray, zx_anewarray, zx_new, zx_getI, zx_getL, zx_getR, zx_putI, zx_putZ, zx_putL, zx_putR, zx_callS, zx_callV, zx_objinit, zx_cpyi, zx_cpyl, zx_mmax, zx_mmin, zx_mminl, zx_ireturn, zx_areturn, zx_lreturn, zx_return, zcs_0, zcs_1, zcv_1, zcs_2, zcv_2, zcs_3, zcv_3, zcs_4, zcv_4, zcs_5, zcv_5, zcs_6, zcv_6, zcs_7, zcv_7, Int.reduceToNat, Nat.reduceDiv, Nat.reduceMod, zJ, zC, zK_wA, zN_wA, zR_wA, zS_wA, zA_wA, zK_wR, zN_wR, zR_wR, zS_wR, zA_wR, zK_cp, zN_cp, zR_cp, zS_cp, zA_cp, zK_mp, zN_mp, zR_mp, zS_mp, zA_mp, zfa, zfmm, zfa_1, zfb_1, zfa_2, zfb_2, zfa_3, zfb_3, zfa_4, zfb_4, zfa_5, zfb_5, zfa_6, zfb_6, zfa_7, zfb_7, zfa_8, zfb_8, zfa_9, zfb_9, zfa_10, zfb_10, zfa_12, zfb_12, zfa_20, zfb_20, zfa_21, zfb_21, zfa_30, zfb_30, zfa_48, zfb_48, zfa_60, zfb_60, zfa_61, zfb_61, zfa_65, zfb_65, zfa_97, zfb_97, zfa_100, zfb_100, zfa_120, zfb_120, zfa_124, zfb_124, zfa_500, zfb_500, zfa_792, zfb_792, zfa_2989, zfb_2989, zfm_2, zfn_2, zfm_3, zfn_3, zfm_4, zfn_4, zfm_6, zfn_6, zfm_7, zfn_7, zfm_8, zfn_8, zfm_12, zfn_12, zfm_49, zfn_49, zfm_60, zfn_60, zfm_61, zfn_61, zfm_792, zfn_792, zfm_2989, zfn_2989, Int.zero_add, Int.add_zero, Int.zero_mul, Int.mul_zero, Int.one_mul, Int.mul_one]
        refine zbr_i (fun q2 => ?_) (fun q2 => ?_)
        · have fin := h0 (by
            rintro ⟨p, p1, p2, p3⟩
            rcases Nat.lt_trichotomy p i with r | r | r
            · have := he p r
              rw [this] at p3
              exact yKl_ir p3
            · rw [r, hra, hrb] at p3
              have := hv.mpr p3
              omega
            · have := p2 i r
              rw [hra, hrb] at this
              omega)
          (show (0 : Int) ≤ 0 ∧ (0 : Int) ≤ 1 ∧ Q 0 H; exact ⟨by omega, by omega, fin⟩)
        · have fin := h1 ⟨i, by omega, he, by rw [hra, hrb]; exact hv.mp (by omega)⟩
          (show (0 : Int) ≤ 1 ∧ (1 : Int) ≤ 1 ∧ Q 1 H; exact ⟨by omega, by omega, fin⟩)
set_option maxRecDepth 100000 in
set_option maxRecDepth 100000 in
theorem zc_bet100 {xs : Nat → Int} {L d b1 b2 : Nat} {H : zH} {Q : zQ} {t : Nat → Int} {w : Nat × (Nat → Nat × Nat)} {a b : Nat} (hd : 1 ≤ d) (hL : zLay H) (hk : yMk H) (hw : yWd H 100 t w) (hdd : zWdd t w) (ha : a < 302) (hb : b < 302) : ∀ {oa ob : Option (List Nat)} {P R : List Nat → Prop}, ySl H a oa → ySl H b ob → yBest t w P oa → yBest t w R ob → (yBet t w oa ob → Q 1 H) → (¬ yBet t w oa ob → Q 0 H) → zEm xs L d b1 b2 149 [zr (some 165), zi a, zi b, zr (some 100)] H Q
  | none, none, _, _, c1, d1, _, _, h1, h0 => by
    have c1 : zA H 167 a = -1 := c1
    have d1 : zA H 167 b = -1 := d1
    have fin := h0 (fun h => h)
    refine zem_149 (zgo_at [75] 8 ?_)
    try simp -implicitDefEqProofs only [zgn_0, zgn_s, zct_0, zct_s, Nat.reduceEqDiff, Nat.reduceBEq, Nat.reduceAdd, Nat.reduceSub, Nat.reduceMul, Int.reduceAdd, Int.reduceSub, Int.reduceMul, Int.reduceNeg, Int.reduceLT, Int.reduceLE, Int.reduceEq, Nat.zero_add, true_and, and_true, false_and, and_false, true_imp_iff, false_imp_iff, not_true_eq_false, not_false_eq_true, if_true, if_false, Bool.false_eq_true, ite_true, ite_false, reduceIte, eq_self, Int.toNat_natCast, zst_0, zst_1, zst_2, zst_3, zst_4, true_or, or_true, or_false, false_or, ze_149_0, zB_149_0, ze_149_33, zB_149_33, ze_149_66, zB_149_66, ze_149_70, zB_149_70, ze_149_71, zB_149_71, ze_149_72, zB_149_72, ze_149_75, zB_149_75, ze_149_136, zB_149_136, ze_149_137, zB_149_137, ze_149_138, zB_149_138, ze_149_144, zB_149_144, zbr_t, zbr_f, zrun_c, zmI_s, zmL_s, zmR_s, zgt_0, zgt_s, zln_0, zln_s, zs1_0, zs1_1i, zs1_1r, zs1_1n, zs1_1l, zs1_s, zs2_0, zs2_1i, zs2_1r, zs2_1n, zs2_1l, zs2_s, zcn_eq, zcn_ne, zcn_lt, zcn_ge, zcn_gt, zcn_le, zpu_0, zpu_1, zpu_2, zx_iconst, zx_lconst, zx_ldc, zx_ldc2, zx_null, zx_iload, zx_lload, zx_aload, zx_istore, zx_lstore, zx_astore, zx_iinc, zx_iadd, zx_isub, zx_imul, zx_idiv, zx_irem, zx_iand, zx_ior, zx_ixor, zx_ishl, zx_ishr, zx_iushr, zx_i2b, zx_i2l, zx_l2i, zx_ladd, zx_lmul, zx_ldiv, zx_lrem, zx_land, zx_lor, zx_lshl, zx_lshr, zx_lcmp, zx_dupi, zx_dupr, zx_dup2l, zx_dup2i, zx_pop, zx_ifc, zx_icmp, zx_ifnullN, zx_ifnullS, zx_ifnonN, zx_ifnonS, zx_goto, zx_gotow, zx_switch, zx_iaload, zx_baload, zx_laload, zx_aaload, zx_iastore, zx_bastore, zx_lastore, zx_aastore, zx_alen, zx_newarray, zx_anewarray, zx_new, zx_getI, zx_getL, zx_getR, zx_putI, zx_putZ, zx_putL, zx_putR, zx_callS, zx_callV, zx_objinit, zx_cpyi, zx_cpyl, zx_mmax, zx_mmin, zx_mminl, zx_ireturn, zx_areturn, zx_lreturn, zx_return, zcs_0, zcs_1, zcv_1, zcs_2, zcv_2, zcs_3, zcv_3, zcs_4, zcv_4, zcs_5, zcv_5, zcs_6, zcv_6, zcs_7, zcv_7, Int.reduceToNat, Nat.reduceDiv, Nat.reduceMod, zJ, zC, zK_wA, zN_wA, zR_wA, zS_wA, zA_wA, zK_wR, zN_wR, zR_wR, zS_wR, zA_wR, zK_cp, zN_cp, zR_cp, zS_cp, zA_cp, zK_mp, zN_mp, zR_mp, zS_mp, zA_mp, zfa, zfmm, zfa_1, zfb_1, zfa_2, zfb_2, zfa_3, zfb_3, zfa_4, zfb_4, zfa_5, zfb_5, zfa_6, zfb_6, zfa_7, zfb_7, zfa_8, zfb_8, zfa_9, zfb_9, zfa_10, zfb_10, zfa_12, zfb_12, zfa_20, zfb_20, zfa_21, zfb_21, zfa_30, zfb_30, zfa_48, zfb_48, zfa_60, zfb_60, zfa_61, zfb_61, zfa_65, zfb_65, zfa_97, zfb_97, zfa_100, zfb_100, zfa_120, zfb_120, zfa_124, zfb_124, zfa_500, zfb_500, zfa_792, zfb_792, zfa_2989, zfb_2989, zfm_2, zfn_2, zfm_3, zfn_3, zfm_4, zfn_4, zfm_6, zfn_6, zfm_7, zfn_7, zfm_8, zfn_8, zfm_12, zfn_12, zfm_49, zfn_49, zfm_60, zfn_60, zfm_61, zfn_61, zfm_792, zfn_792, zfm_2989, zfn_2989, Int.zero_add, Int.add_zero, Int.zero_mul, Int.mul_zero, Int.one_mul, Int.mul_one, ym_k5 hk, ym_k6 hk, ym_n6 hk, ym_k7 hk, ym_n7 hk, ym_k8 hk, ym_n8 hk, ym_k9 hk, ym_n9 hk, ym_k0 hk, ym_n0 hk, ym_r0 hk, ym_r1 hk, ym_r2 hk, ym_r4 hk, ym_r5 hk, c1, d1]
    repeat (first | (with_reducible refine And.intro ?_ ?_; · first | omega | (simp only [z32, z64]; omega)) | refine zbr_i (fun q => by omega) (fun q => ?_) | refine zbr_i (fun q => ?_) (fun q => by omega))
    (show (0 : Int) ≤ 0 ∧ (0 : Int) ≤ 1 ∧ Q 0 H; exact ⟨by omega, by omega, fin⟩)
  | none, some rb, _, _, c1, hsb, _, _, h1, h0 => by
    have c1 : zA H 167 a = -1 := c1
    obtain ⟨d1, d2, d3⟩ := hsb
    have fin := h0 (fun h => h)
    refine zem_149 (zgo_at [75] 8 ?_)
    try simp -implicitDefEqProofs only [zgn_0, zgn_s, zct_0, zct_s, Nat.reduceEqDiff, Nat.reduceBEq, Nat.reduceAdd, Nat.reduceSub, Nat.reduceMul, Int.reduceAdd, Int.reduceSub, Int.reduceMul, Int.reduceNeg, Int.reduceLT, Int.reduceLE, Int.reduceEq, Nat.zero_add, true_and, and_true, false_and, and_false, true_imp_iff, false_imp_iff, not_true_eq_false, not_false_eq_true, if_true, if_false, Bool.false_eq_true, ite_true, ite_false, reduceIte, eq_self, Int.toNat_natCast, zst_0, zst_1, zst_2, zst_3, zst_4, true_or, or_true, or_false, false_or, ze_149_0, zB_149_0, ze_149_33, zB_149_33, ze_149_66, zB_149_66, ze_149_70, zB_149_70, ze_149_71, zB_149_71, ze_149_72, zB_149_72, ze_149_75, zB_149_75, ze_149_136, zB_149_136, ze_149_137, zB_149_137, ze_149_138, zB_149_138, ze_149_144, zB_149_144, zbr_t, zbr_f, zrun_c, zmI_s, zmL_s, zmR_s, zgt_0, zgt_s, zln_0, zln_s, zs1_0, zs1_1i, zs1_1r, zs1_1n, zs1_1l, zs1_s, zs2_0, zs2_1i, zs2_1r, zs2_1n, zs2_1l, zs2_s, zcn_eq, zcn_ne, zcn_lt, zcn_ge, zcn_gt, zcn_le, zpu_0, zpu_1, zpu_2, zx_iconst, zx_lconst, zx_ldc, zx_ldc2, zx_null, zx_iload, zx_lload, zx_aload, zx_istore, zx_lstore, zx_astore, zx_iinc, zx_iadd, zx_isub, zx_imul, zx_idiv, zx_irem, zx_iand, zx_ior, zx_ixor, zx_ishl, zx_ishr, zx_iushr, zx_i2b, zx_i2l, zx_l2i, zx_ladd, zx_lmul, zx_ldiv, zx_lrem, zx_land, zx_lor, zx_lshl, zx_lshr, zx_lcmp, zx_dupi, zx_dupr, zx_dup2l, zx_dup2i, zx_pop, zx_ifc, zx_icmp, zx_ifnullN, zx_ifnullS, zx_ifnonN, zx_ifnonS, zx_goto, zx_gotow, zx_switch, zx_iaload, zx_baload, zx_laload, zx_aaload, zx_iastore, zx_bastore, zx_lastore, zx_aastore, zx_alen, zx_newarray, zx_anewarray, zx_new, zx_getI, zx_getL, zx_getR, zx_putI, zx_putZ, zx_putL, zx_putR, zx_callS, zx_callV, zx_objinit, zx_cpyi, zx_cpyl, zx_mmax, zx_mmin, zx_mminl, zx_ireturn, zx_areturn, zx_lreturn, zx_return, zcs_0, zcs_1, zcv_1, zcs_2, zcv_2, zcs_3, zcv_3, zcs_4, zcv_4, zcs_5, zcv_5, zcs_6, zcv_6, zcs_7, zcv_7, Int.reduceToNat, Nat.reduceDiv, Nat.reduceMod, zJ, zC, zK_wA, zN_wA, zR_wA, zS_wA, zA_wA, zK_wR, zN_wR, zR_wR, zS_wR, zA_wR, zK_cp, zN_cp, zR_cp, zS_cp, zA_cp, zK_mp, zN_mp, zR_mp, zS_mp, zA_mp, zfa, zfmm, zfa_1, zfb_1, zfa_2, zfb_2, zfa_3, zfb_3, zfa_4, zfb_4, zfa_5, zfb_5, zfa_6, zfb_6, zfa_7, zfb_7, zfa_8, zfb_8, zfa_9, zfb_9, zfa_10, zfb_10, zfa_12, zfb_12, zfa_20, zfb_20, zfa_21, zfb_21, zfa_30, zfb_30, zfa_48, zfb_48, zfa_60, zfb_60, zfa_61, zfb_61, zfa_65, zfb_65, zfa_97, zfb_97, zfa_100, zfb_100, zfa_120, zfb_120, zfa_124, zfb_124, zfa_500, zfb_500, zfa_792, zfb_792, zfa_2989, zfb_2989, zfm_2, zfn_2, zfm_3, zfn_3, zfm_4, zfn_4, zfm_6, zfn_6, zfm_7, zfn_7, zfm_8, zfn_8, zfm_12, zfn_12, zfm_49, zfn_49, zfm_60, zfn_60, zfm_61, zfn_61, zfm_792, zfn_792, zfm_2989, zfn_2989, Int.zero_add, Int.add_zero, Int.zero_mul, Int.mul_zero, Int.one_mul, Int.mul_one, ym_k5 hk, ym_k6 hk, ym_n6 hk, ym_k7 hk, ym_n7 hk, ym_k8 hk, ym_n8 hk, ym_k9 hk, ym_n9 hk, ym_k0 hk, ym_n0 hk, ym_r0 hk, ym_r1 hk, ym_r2 hk, ym_r4 hk, ym_r5 hk, c1, d1]
    repeat (first | (with_reducible refine And.intro ?_ ?_; · first | omega | (simp only [z32, z64]; omega)) | refine zbr_i (fun q => by omega) (fun q => ?_) | refine zbr_i (fun q => ?_) (fun q => by omega))
    (show (0 : Int) ≤ 0 ∧ (0 : Int) ≤ 1 ∧ Q 0 H; exact ⟨by omega, by omega, fin⟩)
  | some ra, none, _, _, hsa, d1, _, _, h1, h0 => by
    obtain ⟨c1, c2, c3⟩ := hsa
    have d1 : zA H 167 b = -1 := d1
    have fin := h1 trivial
    refine zem_149 (zgo_at [75] 8 ?_)
    try simp -implicitDefEqProofs only [zgn_0, zgn_s, zct_0, zct_s, Nat.reduceEqDiff, Nat.reduceBEq, Nat.reduceAdd, Nat.reduceSub, Nat.reduceMul, Int.reduceAdd, Int.reduceSub, Int.reduceMul, Int.reduceNeg, Int.reduceLT, Int.reduceLE, Int.reduceEq, Nat.zero_add, true_and, and_true, false_and, and_false, true_imp_iff, false_imp_iff, not_true_eq_false, not_false_eq_true, if_true, if_false, Bool.false_eq_true, ite_true, ite_false, reduceIte, eq_self, Int.toNat_natCast, zst_0, zst_1, zst_2, zst_3, zst_4, true_or, or_true, or_false, false_or, ze_149_0, zB_149_0, ze_149_33, zB_149_33, ze_149_66, zB_149_66, ze_149_70, zB_149_70, ze_149_71, zB_149_71, ze_149_72, zB_149_72, ze_149_75, zB_149_75, ze_149_136, zB_149_136, ze_149_137, zB_149_137, ze_149_138, zB_149_138, ze_149_144, zB_149_144, zbr_t, zbr_f, zrun_c, zmI_s, zmL_s, zmR_s, zgt_0, zgt_s, zln_0, zln_s, zs1_0, zs1_1i, zs1_1r, zs1_1n, zs1_1l, zs1_s, zs2_0, zs2_1i, zs2_1r, zs2_1n, zs2_1l, zs2_s, zcn_eq, zcn_ne, zcn_lt, zcn_ge, zcn_gt, zcn_le, zpu_0, zpu_1, zpu_2, zx_iconst, zx_lconst, zx_ldc, zx_ldc2, zx_null, zx_iload, zx_lload, zx_aload, zx_istore, zx_lstore, zx_astore, zx_iinc, zx_iadd, zx_isub, zx_imul, zx_idiv, zx_irem, zx_iand, zx_ior, zx_ixor, zx_ishl, zx_ishr, zx_iushr, zx_i2b, zx_i2l, zx_l2i, zx_ladd, zx_lmul, zx_ldiv, zx_lrem, zx_land, zx_lor, zx_lshl, zx_lshr, zx_lcmp, zx_dupi, zx_dupr, zx_dup2l, zx_dup2i, zx_pop, zx_ifc, zx_icmp, zx_ifnullN, zx_ifnullS, zx_ifnonN, zx_ifnonS, zx_goto, zx_gotow, zx_switch, zx_iaload, zx_baload, zx_laload, zx_aaload, zx_iastore, zx_bastore, zx_lastore, zx_aastore, zx_alen, zx_newarray, zx_anewarray, zx_new, zx_getI, zx_getL, zx_getR, zx_putI, zx_putZ, zx_putL, zx_putR, zx_callS, zx_callV, zx_objinit, zx_cpyi, zx_cpyl, zx_mmax, zx_mmin, zx_mminl, zx_ireturn, zx_areturn, zx_lreturn, zx_return, zcs_0, zcs_1, zcv_1, zcs_2, zcv_2, zcs_3, zcv_3, zcs_4, zcv_4, zcs_5, zcv_5, zcs_6, zcv_6, zcs_7, zcv_7, Int.reduceToNat, Nat.reduceDiv, Nat.reduceMod, zJ, zC, zK_wA, zN_wA, zR_wA, zS_wA, zA_wA, zK_wR, zN_wR, zR_wR, zS_wR, zA_wR, zK_cp, zN_cp, zR_cp, zS_cp, zA_cp, zK_mp, zN_mp, zR_mp, zS_mp, zA_mp, zfa, zfmm, zfa_1, zfb_1, zfa_2, zfb_2, zfa_3, zfb_3, zfa_4, zfb_4, zfa_5, zfb_5, zfa_6, zfb_6, zfa_7, zfb_7, zfa_8, zfb_8, zfa_9, zfb_9, zfa_10, zfb_10, zfa_12, zfb_12, zfa_20, zfb_20, zfa_21, zfb_21, zfa_30, zfb_30, zfa_48, zfb_48, zfa_60, zfb_60, zfa_61, zfb_61, zfa_65, zfb_65, zfa_97, zfb_97, zfa_100, zfb_100, zfa_120, zfb_120, zfa_124, zfb_124, zfa_500, zfb_500, zfa_792, zfb_792, zfa_2989, zfb_2989, zfm_2, zfn_2, zfm_3, zfn_3, zfm_4, zfn_4, zfm_6, zfn_6, zfm_7, zfn_7, zfm_8, zfn_8, zfm_12, zfn_12, zfm_49, zfn_49, zfm_60, zfn_60, zfm_61, zfn_61, zfm_792, zfn_792, zfm_2989, zfn_2989, Int.zero_add, Int.add_zero, Int.zero_mul, Int.mul_zero, Int.one_mul, Int.mul_one, ym_k5 hk, ym_k6 hk, ym_n6 hk, ym_k7 hk, ym_n7 hk, ym_k8 hk, ym_n8 hk, ym_k9 hk, ym_n9 hk, ym_k0 hk, ym_n0 hk, ym_r0 hk, ym_r1 hk, ym_r2 hk, ym_r4 hk, ym_r5 hk, c1, d1]
    repeat (first | (with_reducible refine And.intro ?_ ?_; · first | omega | (simp only [z32, z64]; omega)) | refine zbr_i (fun q => by omega) (fun q => ?_) | refine zbr_i (fun q => ?_) (fun q => by omega))
    (show (0 : Int) ≤ 1 ∧ (1 : Int) ≤ 1 ∧ Q 1 H; exact ⟨by omega, by omega, fin⟩)
  | some ra, some rb, P, R, hsa, hsb, ba, bb, h1, h0 => by
    obtain ⟨c1, c2, c3⟩ := hsa
    obtain ⟨d1, d2, d3⟩ := hsb
    refine zem_149 (zgo_at [75] 8 ?_)
    try simp -implicitDefEqProofs only [zgn_0, zgn_s, zct_0, zct_s, Nat.reduceEqDiff, Nat.reduceBEq, Nat.reduceAdd, Nat.reduceSub, Nat.reduceMul, Int.reduceAdd, Int.reduceSub, Int.reduceMul, Int.reduceNeg, Int.reduceLT, Int.reduceLE, Int.reduceEq, Nat.zero_add, true_and, and_true, false_and, and_false, true_imp_iff, false_imp_iff, not_true_eq_false, not_false_eq_true, if_true, if_false, Bool.false_eq_true, ite_true, ite_false, reduceIte, eq_self, Int.toNat_natCast, zst_0, zst_1, zst_2, zst_3, zst_4, true_or, or_true, or_false, false_or, ze_149_0, zB_149_0, ze_149_33, zB_149_33, ze_149_66, zB_149_66, ze_149_70, zB_149_70, ze_149_71, zB_149_71, ze_149_72, zB_149_72, ze_149_75, zB_149_75, ze_149_136, zB_149_136, ze_149_137, zB_149_137, ze_149_138, zB_149_138, ze_149_144, zB_149_144, zbr_t, zbr_f, zrun_c, zmI_s, zmL_s, zmR_s, zgt_0, zgt_s, zln_0, zln_s, zs1_0, zs1_1i, zs1_1r, zs1_1n, zs1_1l, zs1_s, zs2_0, zs2_1i, zs2_1r, zs2_1n, zs2_1l, zs2_s, zcn_eq, zcn_ne, zcn_lt, zcn_ge, zcn_gt, zcn_le, zpu_0, zpu_1, zpu_2, zx_iconst, zx_lconst, zx_ldc, zx_ldc2, zx_null, zx_iload, zx_lload, zx_aload, zx_istore, zx_lstore, zx_astore, zx_iinc, zx_iadd, zx_isub, zx_imul, zx_idiv, zx_irem, zx_iand, zx_ior, zx_ixor, zx_ishl, zx_ishr, zx_iushr, zx_i2b, zx_i2l, zx_l2i, zx_ladd, zx_lmul, zx_ldiv, zx_lrem, zx_land, zx_lor, zx_lshl, zx_lshr, zx_lcmp, zx_dupi, zx_dupr, zx_dup2l, zx_dup2i, zx_pop, zx_ifc, zx_icmp, zx_ifnullN, zx_ifnullS, zx_ifnonN, zx_ifnonS, zx_goto, zx_gotow, zx_switch, zx_iaload, zx_baload, zx_laload, zx_aaload, zx_iastore, zx_bastore, zx_lastore, zx_aastore, zx_alen, zx_newarray, zx_anewarray, zx_new, zx_getI, zx_getL, zx_getR, zx_putI, zx_putZ, zx_putL, zx_putR, zx_callS, zx_callV, zx_objinit, zx_cpyi, zx_cpyl, zx_mmax, zx_mmin, zx_mminl, zx_ireturn, zx_areturn, zx_lreturn, zx_return, zcs_0, zcs_1, zcv_1, zcs_2, zcv_2, zcs_3, zcv_3, zcs_4, zcv_4, zcs_5, zcv_5, zcs_6, zcv_6, zcs_7, zcv_7, Int.reduceToNat, Nat.reduceDiv, Nat.reduceMod, zJ, zC, zK_wA, zN_wA, zR_wA, zS_wA, zA_wA, zK_wR, zN_wR, zR_wR, zS_wR, zA_wR, zK_cp, zN_cp, zR_cp, zS_cp, zA_cp, zK_mp, zN_mp, zR_mp, zS_mp, zA_mp, zfa, zfmm, zfa_1, zfb_1, zfa_2, zfb_2, zfa_3, zfb_3, zfa_4, zfb_4, zfa_5, zfb_5, zfa_6, zfb_6, zfa_7, zfb_7, zfa_8, zfb_8, zfa_9, zfb_9, zfa_10, zfb_10, zfa_12, zfb_12, zfa_20, zfb_20, zfa_21, zfb_21, zfa_30, zfb_30, zfa_48, zfb_48, zfa_60, zfb_60, zfa_61, zfb_61, zfa_65, zfb_65, zfa_97, zfb_97, zfa_100, zfb_100, zfa_120, zfb_120, zfa_124, zfb_124, zfa_500, zfb_500, zfa_792, zfb_792, zfa_2989, zfb_2989, zfm_2, zfn_2, zfm_3, zfn_3, zfm_4, zfn_4, zfm_6, zfn_6, zfm_7, zfn_7, zfm_8, zfn_8, zfm_12, zfn_12, zfm_49, zfn_49, zfm_60, zfn_60, zfm_61, zfn_61, zfm_792, zfn_792, zfm_2989, zfn_2989, Int.zero_add, Int.add_zero, Int.zero_mul, Int.mul_zero, Int.one_mul, Int.mul_one, ym_k5 hk, ym_k6 hk, ym_n6 hk, ym_k7 hk, ym_n7 hk, ym_k8 hk, ym_n8 hk, ym_k9 hk, ym_n9 hk, ym_k0 hk, ym_n0 hk, ym_r0 hk, ym_r1 hk, ym_r2 hk, ym_r4 hk, ym_r5 hk, c1, d1]
    by_cases hl : ra.length = rb.length
    · repeat (first | (with_reducible refine And.intro ?_ ?_; · first | omega | (simp only [z32, z64]; omega)) | refine zbr_i (fun q => by omega) (fun q => ?_) | refine zbr_i (fun q => ?_) (fun q => by omega))
      have hx := yRl_x (t := t) (w := w) ra rb hl
      refine zl_bet100 (t := t) (w := w) (ra := ra) (rb := rb) hd hL hk hw hdd ha hb c1 hl c2 c3 (fun p hp => d3 p (by omega)) (fun p hp => ba.2.2.1 _ (ymem_gd ra p hp)) (fun p hp => bb.2.2.1 _ (ymem_gd rb p (by omega))) (fun hh => h1 (Or.inr ⟨hl, hx.mpr hh⟩)) (fun hh => h0 (fun hb => ?_)) _ 0 _ _ rfl (by omega) (fun j hj => by omega)
      rcases hb with q | ⟨_, q⟩
      · omega
      · exact hh (hx.mp q)
    · by_cases hlt : ra.length < rb.length
      · have fin := h1 (Or.inl hlt)
        repeat (first | (with_reducible refine And.intro ?_ ?_; · first | omega | (simp only [z32, z64]; omega)) | refine zbr_i (fun q => by omega) (fun q => ?_) | refine zbr_i (fun q => ?_) (fun q => by omega))
        (show (0 : Int) ≤ 1 ∧ (1 : Int) ≤ 1 ∧ Q 1 H; exact ⟨by omega, by omega, fin⟩)
      · have fin := h0 (fun hb => by
          rcases hb with q | ⟨q, _⟩
          · omega
          · omega)
        repeat (first | (with_reducible refine And.intro ?_ ?_; · first | omega | (simp only [z32, z64]; omega)) | refine zbr_i (fun q => by omega) (fun q => ?_) | refine zbr_i (fun q => ?_) (fun q => by omega))
        (show (0 : Int) ≤ 0 ∧ (0 : Int) ≤ 1 ∧ Q 0 H; exact ⟨by omega, by omega, fin⟩)
