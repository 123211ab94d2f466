/-! ===== the text of a question ===== -/
def ykey (t : Nat → Int) (w : Nat × (Nat → Nat × Nat)) (x : Nat) : List Int := (List.range (w.2 x).2).map (fun j => t ((w.2 x).1 + j))
def ytp (t : Nat → Int) (w : Nat × (Nat → Nat × Nat)) (r : List Nat) : Nat → List Int
  | 0 => []
  | i + 1 => ytp t w r i ++ ((if i = 0 then [] else [32]) ++ ykey t w (r.getD i 0))
theorem ykey_l {t : Nat → Int} {w : Nat × (Nat → Nat × Nat)} {x : Nat} : (ykey t w x).length = (w.2 x).2 := by
  unfold ykey
  rw [List.length_map, List.length_range]
theorem ykey_g {t : Nat → Int} {w : Nat × (Nat → Nat × Nat)} {x j : Nat} (h : j < (w.2 x).2) : (ykey t w x).getD j 0 = t ((w.2 x).1 + j) := by
  unfold ykey
  rw [List.getD_eq_getElem?_getD, List.getElem?_map, List.getElem?_range h]
  rfl
theorem ygI_l {a b : List Int} {p : Nat} (h : p < a.length) : (a ++ b).getD p 0 = a.getD p 0 := by
  rw [List.getD_eq_getElem?_getD, List.getD_eq_getElem?_getD, List.getElem?_append_left h]
theorem ygI_r {a b : List Int} {p : Nat} (h : a.length ≤ p) : (a ++ b).getD p 0 = b.getD (p - a.length) 0 := by
  rw [List.getD_eq_getElem?_getD, List.getD_eq_getElem?_getD, List.getElem?_append_right h]
def ysp (i : Nat) : Nat := if i = 0 then 0 else 1
theorem ytp_l {t : Nat → Int} {w : Nat × (Nat → Nat × Nat)} {r : List Nat} (i : Nat) : (ytp t w r (i + 1)).length = (ytp t w r i).length + ysp i + (w.2 (r.getD i 0)).2 := by
  show (ytp t w r i ++ ((if i = 0 then [] else [32]) ++ ykey t w (r.getD i 0))).length = _
  rw [List.length_append, List.length_append, ykey_l]
  unfold ysp
  by_cases q : i = 0
  · rw [if_pos q, if_pos q]; simp
  · rw [if_neg q, if_neg q]; simp; omega
theorem ytp_g0 {t : Nat → Int} {w : Nat × (Nat → Nat × Nat)} {r : List Nat} {i p : Nat} (h : p < (ytp t w r i).length) : (ytp t w r (i + 1)).getD p 0 = (ytp t w r i).getD p 0 := ygI_l h
theorem ytp_g1 {t : Nat → Int} {w : Nat × (Nat → Nat × Nat)} {r : List Nat} {i : Nat} (h : i ≠ 0) : (ytp t w r (i + 1)).getD (ytp t w r i).length 0 = 32 := by
  show (ytp t w r i ++ ((if i = 0 then [] else [32]) ++ ykey t w (r.getD i 0))).getD _ 0 = _
  rw [ygI_r (Nat.le_refl _), if_neg h, Nat.sub_self]
  rfl
theorem ytp_g2 {t : Nat → Int} {w : Nat × (Nat → Nat × Nat)} {r : List Nat} {i j : Nat} (h : j < (w.2 (r.getD i 0)).2) : (ytp t w r (i + 1)).getD ((ytp t w r i).length + ysp i + j) 0 = t ((w.2 (r.getD i 0)).1 + j) := by
  show (ytp t w r i ++ ((if i = 0 then [] else [32]) ++ ykey t w (r.getD i 0))).getD _ 0 = _
  rw [ygI_r (by omega)]
  unfold ysp
  by_cases q : i = 0
  · rw [if_pos q, if_pos q, List.nil_append, show (ytp t w r i).length + 0 + j - (ytp t w r i).length = j by omega]
    exact ykey_g h
  · rw [if_neg q, if_neg q, ygI_r (show ([32] : List Int).length ≤ _ by show 1 ≤ _; omega), show (ytp t w r i).length + 1 + j - (ytp t w r i).length - ([32] : List Int).length = j by show _ - 1 = _; omega]
    exact ykey_g h
theorem ytp_b {t : Nat → Int} {w : Nat × (Nat → Nat × Nat)} {r : List Nat} (hw : ∀ x : Nat, x < w.1 → (w.2 x).2 ≤ 12) (hv : ∀ a, a ∈ r → a < w.1) : ∀ i : Nat, i ≤ r.length → (ytp t w r i).length ≤ 13 * i
  | 0, _ => Nat.le_refl _
  | i + 1, h => by
    have h1 := ytp_b (t := t) hw hv i (by omega)
    have h2 := hw _ (hv _ (ymem_gd r i (by omega)))
    rw [ytp_l]
    unfold ysp
    split <;> omega
set_option maxRecDepth 100000 in
theorem zl_wtx94 {xs : Nat → Int} {L d b1 b2 : Nat} {H0 : zH} {Q : zQ} {t : Nat → Int} {w : Nat × (Nat → Nat × Nat)} {r : List Nat} {s : Nat} (hL0 : zLay H0) (hk : yMk H0) (hw : yWd H0 94 t w) (hs2 : s < 302) (hs : ySl H0 s (some r)) (hv : ∀ a, a ∈ r → a < w.1) (h : ∀ G : zH, zmd (zin [170] [(165, 6)]) H0 G → zA G 165 6 = ((ytp t w r r.length).length : Nat) → (∀ p : Nat, p < (ytp t w r r.length).length → zA G 170 p = (ytp t w r r.length).getD p 0) → Q 0 G) : ∀ (kk : Nat) (i : Nat) (H : zH) (l4 : Option zV) (l5 : Option zV), r.length - i = kk → (i ≤ r.length) → (zmd (zin [170] [(165, 6)]) H0 H) → (zA H 165 6 = ((ytp t w r i).length : Nat)) → (∀ p : Nat, p < (ytp t w r i).length → zA H 170 p = (ytp t w r i).getD p 0) → zEt xs L d b1 b2 false 152 7 [some (zr (some 165)), some (zi s), some (zr (some 94)), some (zi (i : Nat)), l4, l5] [] H Q := by
  intro kk
  induction kk using Nat.strongRecOn with
  | ind kk ih =>
    intro i H l4 l5 hkk hi hm h1 h2
    have hL := zmd_lay hm hL0
    have hk2 := yMk_d hm hk
    have sz : zA H 167 s = (r.length : Nat) := by rw [hm.2.2.2 167 s rfl]; exact hs.1
    refine zgo_at [7, 55] 8 ?_
    try simp -implicitDefEqProofs only [zgn_0, zgn_s, zct_0, zct_s, Nat.reduceEqDiff, Nat.reduceBEq, Nat.reduceAdd, Nat.reduceSub, Nat.reduceMul, Int.reduceAdd, Int.reduceSub, Int.reduceMul, Int.reduceNeg, Int.reduceLT, Int.reduceLE, Int.reduceEq, Nat.zero_add, true_and, and_true, false_and, and_false, true_imp_iff, false_imp_iff, not_true_eq_false, not_false_eq_true, if_true, if_false, Bool.false_eq_true, ite_true, ite_false, reduceIte, eq_self, Int.toNat_natCast, zst_0, zst_1, zst_2, zst_3, zst_4, true_or, or_true, or_false, false_or, ze_152_0, zB_152_0, ze_152_7, zB_152_7, ze_152_55, zB_152_55, ze_152_105, zB_152_105, zbr_t, zbr_f, zrun_c, zmI_s, zmL_s, zmR_s, zgt_0, zgt_s, zln_0, zln_s, zs1_0, zs1_1i, zs1_1r, zs1_1n, zs1_1l, zs1_s, zs2_0, zs2_1i, zs2_1r, zs2_1n, zs2_1l, zs2_s, zcn_eq, zcn_ne, zcn_lt, zcn_ge, zcn_gt, zcn_le, zpu_0, zpu_1, zpu_2, zx_iconst, zx_lconst, zx_ldc, zx_ldc2, zx_null, zx_iload, zx_lload, zx_aload, zx_istore, zx_lstore, zx_astore, zx_iinc, zx_iadd, zx_isub, zx_imul, zx_idiv, zx_irem, zx_iand, zx_ior, zx_ixor, zx_ishl, zx_ishr, zx_iushr, zx_i2b, zx_i2l, zx_l2i, zx_ladd, zx_lmul, zx_ldiv, zx_lrem, zx_land, zx_lor, zx_lshl, zx_lshr, zx_lcmp, zx_dupi, zx_dupr, zx_dup2l, zx_dup2i, zx_pop, zx_ifc, zx_icmp, zx_ifnullN, zx_ifnullS, zx_ifnonN, zx_ifnonS, zx_goto, zx_gotow, zx_switch, zx_iaload, zx_baload, zx_laload, zx_aaload, zx_iastore, zx_bastore, zx_lastore, zx_aastore, zx_alen, zx_newarray, zx_anewarray, zx_new, zx_getI, zx_getL, zx_getR, zx_putI, zx_putZ, zx_putL, zx_putR, zx_callS, zx_callV, zx_objinit, zx_cpyi, zx_cpyl, zx_mmax, zx_mmin, zx_mminl, zx_ireturn, zx_areturn, zx_lreturn, zx_return, zcs_0, zcs_1, zcv_1, zcs_2, zcv_2, zcs_3, zcv_3, zcs_4, zcv_4, zcs_5, zcv_5, zcs_6, zcv_6, zcs_7, zcv_7, Int.reduceToNat, Nat.reduceDiv, Nat.reduceMod, zJ, zC, zK_wA, zN_wA, zR_wA, zS_wA, zA_wA, zK_wR, zN_wR, zR_wR, zS_wR, zA_wR, zK_cp, zN_cp, zR_cp, zS_cp, zA_cp, zK_mp, zN_mp, zR_mp, zS_mp, zA_mp, zfa, zfmm, zfa_1, zfb_1, zfa_2, zfb_2, zfa_3, zfb_3, zfa_4, zfb_4, zfa_5, zfb_5, zfa_6, zfb_6, zfa_7, zfb_7, zfa_8, zfb_8, zfa_9, zfb_9, zfa_10, zfb_10, zfa_12, zfb_12, zfa_20, zfb_20, zfa_21, zfb_21, zfa_30, zfb_30, zfa_48, zfb_48, zfa_60, zfb_60, zfa_61, zfb_61, zfa_65, zfb_65, zfa_97, zfb_97, zfa_100, zfb_100, zfa_120, zfb_120, zfa_124, zfb_124, zfa_500, zfb_500, zfa_792, zfb_792, zfa_2989, zfb_2989, zfm_2, zfn_2, zfm_3, zfn_3, zfm_4, zfn_4, zfm_6, zfn_6, zfm_7, zfn_7, zfm_8, zfn_8, zfm_12, zfn_12, zfm_49, zfn_49, zfm_60, zfn_60, zfm_61, zfn_61, zfm_792, zfn_792, zfm_2989, zfn_2989, Int.zero_add, Int.add_zero, Int.zero_mul, Int.mul_zero, Int.one_mul, Int.mul_one, ym_k5 hk2, ym_k6 hk2, ym_n6 hk2, ym_k7 hk2, ym_n7 hk2, ym_k8 hk2, ym_n8 hk2, ym_k9 hk2, ym_n9 hk2, ym_k0 hk2, ym_n0 hk2, ym_r0 hk2, ym_r1 hk2, ym_r2 hk2, ym_r4 hk2, ym_r5 hk2, sz, h1]
    repeat (with_reducible refine And.intro ?_ ?_; · first | omega | (simp only [z32, z64]; omega))
    refine zbr_i (fun q => ?_) (fun q => ?_)
    · have e : i = r.length := by omega
      subst e
      have fin := h H hm h1 h2
      first | exact fin | (simp only [zx_return]; exact fin)
    · have hl6 := hs.2.1
      have c1 : zA H 166 (s * 60 + i) = (r.getD i 0 : Nat) := by rw [hm.2.2.2 166 _ rfl]; exact hs.2.2 i (by omega)
      have hb := ytp_b (t := t) (fun x hx => (hw.2.2 x hx).2.2.2.2.1) hv i (by omega)
      have hx := hv _ (ymem_gd r i (by omega))
      obtain ⟨w1, w2, w3, w4, w5, w6⟩ := hw.2.2 _ hx
      have w0 := hw.1
      have el := ytp_l (t := t) (w := w) (r := r) i
      have g0 := fun p hp => ytp_g0 (t := t) (w := w) (r := r) (i := i) (p := p) hp
      have g1 := ytp_g1 (t := t) (w := w) (r := r) (i := i)
      have g2 := fun j hj => ytp_g2 (t := t) (w := w) (r := r) (i := i) (j := j) hj
      have nxt : ∀ (G : zH) (l4 l5 : Option zV), zmd (zin [170] [(165, 6)]) H0 G → zA G 165 6 = ((ytp t w r (i + 1)).length : Nat) → (∀ p : Nat, p < (ytp t w r (i + 1)).length → zA G 170 p = (ytp t w r (i + 1)).getD p 0) → zEt xs L d b1 b2 false 152 7 [some (zr (some 165)), some (zi s), some (zr (some 94)), some (zi (i + 1 : Nat)), l4, l5] [] G Q := fun G l4 l5 mG e1 e2 => ih _ (by omega) (i + 1) G l4 l5 rfl (by omega) mG e1 e2
      clear ih h
      generalize (ytp t w r (i + 1)).length = m' at *
      generalize (ytp t w r i).length = m at *
      generalize hxx : r.getD i 0 = x at *
      have w1' : zA H 96 x = ((w.2 x).1 : Nat) := by rw [hm.2.2.2 96 x rfl]; exact w1
      have w2' : zA H 97 x = ((w.2 x).2 : Nat) := by rw [hm.2.2.2 97 x rfl]; exact w2
      repeat (with_reducible refine And.intro ?_ ?_; · first | omega | (simp only [z32, z64]; omega))
      rw [c1]
      refine zbr_i (fun q1 => ?_) (fun q1 => ?_)
      · have e0 : i = 0 := by omega
        have es : ysp i = 0 := if_pos e0
        rw [es] at el g2
        repeat (with_reducible refine And.intro ?_ ?_; · first | omega | (simp only [z32, z64]; omega))
        refine zgo_at [7] 4 ?_
        try simp -implicitDefEqProofs only [zgn_0, zgn_s, zct_0, zct_s, Nat.reduceEqDiff, Nat.reduceBEq, Nat.reduceAdd, Nat.reduceSub, Nat.reduceMul, Int.reduceAdd, Int.reduceSub, Int.reduceMul, Int.reduceNeg, Int.reduceLT, Int.reduceLE, Int.reduceEq, Nat.zero_add, true_and, and_true, false_and, and_false, true_imp_iff, false_imp_iff, not_true_eq_false, not_false_eq_true, if_true, if_false, Bool.false_eq_true, ite_true, ite_false, reduceIte, eq_self, Int.toNat_natCast, zst_0, zst_1, zst_2, zst_3, zst_4, true_or, or_true, or_false, false_or, ze_152_0, zB_152_0, ze_152_7, zB_152_7, ze_152_55, zB_152_55, ze_152_105, zB_152_105, zbr_t, zbr_f, zrun_c, zmI_s, zmL_s, zmR_s, zgt_0, zgt_s, zln_0, zln_s, zs1_0, zs1_1i, zs1_1r, zs1_1n, zs1_1l, zs1_s, zs2_0, zs2_1i, zs2_1r, zs2_1n, zs2_1l, zs2_s, zcn_eq, zcn_ne, zcn_lt, zcn_ge, zcn_gt, zcn_le, zpu_0, zpu_1, zpu_2, zx_iconst, zx_lconst, zx_ldc, zx_ldc2, zx_null, zx_iload, zx_lload, zx_aload, zx_istore, zx_lstore, zx_astore, zx_iinc, zx_iadd, zx_isub, zx_imul, zx_idiv, zx_irem, zx_iand, zx_ior, zx_ixor, zx_ishl, zx_ishr, zx_iushr, zx_i2b, zx_i2l, zx_l2i, zx_ladd, zx_lmul, zx_ldiv, zx_lrem, zx_land, zx_lor, zx_lshl, zx_lshr, zx_lcmp, zx_dupi, zx_dupr, zx_dup2l, zx_dup2i, zx_pop, zx_ifc, zx_icmp, zx_ifnullN, zx_ifnullS, zx_ifnonN, zx_ifnonS, zx_goto, zx_gotow, zx_switch, zx_iaload, zx_baload, zx_laload, zx_aaload, zx_iastore, zx_bastore, zx_lastore, zx_aastore, zx_alen, zx_newarray, zx_anewarray, zx_new, zx_getI, zx_getL, zx_getR, zx_putI, zx_putZ, zx_putL, zx_putR, zx_callS, zx_callV, zx_objinit, zx_cpyi, zx_cpyl, zx_mmax, zx_mmin, zx_mminl, zx_ireturn, zx_areturn, zx_lreturn, zx_return, zcs_0, zcs_1, zcv_1, zcs_2, zcv_2, zcs_3, zcv_3, zcs_4, zcv_4, zcs_5, zcv_5, zcs_6, zcv_6, zcs_7, zcv_7, Int.reduceToNat, Nat.reduceDiv, Nat.reduceMod, zJ, zC, zK_wA, zN_wA, zR_wA, zS_wA, zA_wA, zK_wR, zN_wR, zR_wR, zS_wR, zA_wR, zK_cp, zN_cp, zR_cp, zS_cp, zA_cp, zK_mp, zN_mp, zR_mp, zS_mp, zA_mp, zfa, zfmm, zfa_1, zfb_1, zfa_2, zfb_2, zfa_3, zfb_3, zfa_4, zfb_4, zfa_5, zfb_5, zfa_6, zfb_6, zfa_7, zfb_7, zfa_8, zfb_8, zfa_9, zfb_9, zfa_10, zfb_10, zfa_12, zfb_12, zfa_20, zfb_20, zfa_21, zfb_21, zfa_30, zfb_30, zfa_48, zfb_48, zfa_60, zfb_60, zfa_61, zfb_61, zfa_65, zfb_65, zfa_97, zfb_97, zfa_100, zfb_100, zfa_120, zfb_120, zfa_124, zfb_124, zfa_500, zfb_500, zfa_792, zfb_792, zfa_2989, zfb_2989, zfm_2, zfn_2, zfm_3, zfn_3, zfm_4, zfn_4, zfm_6, zfn_6, zfm_7, zfn_7, zfm_8, zfn_8, zfm_12, zfn_12, zfm_49, zfn_49, zfm_60, zfn_60, zfm_61, zfn_61, zfm_792, zfn_792, zfm_2989, zfn_2989, Int.zero_add, Int.add_zero, Int.zero_mul, Int.mul_zero, Int.one_mul, Int.mul_one, lk_94 hL, lr_94_0 hL, lk_95 hL, ln_95 hL, lr_94_2 hL, lk_96 hL, ln_96 hL, lr_94_3 hL, lk_97 hL, ln_97 hL, ym_k5 hk2, ym_k6 hk2, ym_n6 hk2, ym_k7 hk2, ym_n7 hk2, ym_k8 hk2, ym_n8 hk2, ym_k9 hk2, ym_n9 hk2, ym_k0 hk2, ym_n0 hk2, ym_r0 hk2, ym_r1 hk2, ym_r2 hk2, ym_r4 hk2, ym_r5 hk2, w1', w2', h1]
        repeat (with_reducible refine And.intro ?_ ?_; · first | omega | (simp only [z32, z64]; omega))
        rw [Nat.add_zero] at el
        refine nxt _ _ _ (zmd_w (zmd_cp hm (fun _ => rfl)) rfl) (by simp [zA_wA]; omega) (fun p hp => ?_)
        rw [zA_wA, if_neg (by omega), zA_cp]
        by_cases ep : p < m
        · rw [if_neg (by omega), g0 p ep]; exact h2 p ep
        · rw [if_pos (by omega), hm.2.2.2 95 _ rfl, (w6 _ (by omega)).1]
          have := g2 (p - m) (by omega)
          rw [show m + 0 + (p - m) = p by omega] at this
          exact this.symm
      · have e0 : i ≠ 0 := by omega
        have es : ysp i = 1 := if_neg e0
        rw [es] at el g2
        have g1 := g1 e0
        repeat (with_reducible refine And.intro ?_ ?_; · first | omega | (simp only [z32, z64]; omega))
        refine zgo_at [7] 4 ?_
        try simp -implicitDefEqProofs only [zgn_0, zgn_s, zct_0, zct_s, Nat.reduceEqDiff, Nat.reduceBEq, Nat.reduceAdd, Nat.reduceSub, Nat.reduceMul, Int.reduceAdd, Int.reduceSub, Int.reduceMul, Int.reduceNeg, Int.reduceLT, Int.reduceLE, Int.reduceEq, Nat.zero_add, true_and, and_true, false_and, and_false, true_imp_iff, false_imp_iff, not_true_eq_false, not_false_eq_true, if_true, if_false, Bool.false_eq_true, ite_true, ite_false, reduceIte, eq_self, Int.toNat_natCast, zst_0, zst_1, zst_2, zst_3, zst_4, true_or, or_true, or_false, false_or, ze_152_0, zB_152_0, ze_152_7, zB_152_7, ze_152_55, zB_152_55, ze_152_105, zB_152_105, zbr_t, zbr_f, zrun_c, zmI_s, zmL_s, zmR_s, zgt_0, zgt_s, zln_0, zln_s, zs1_0, zs1_1i, zs1_1r, zs1_1n, zs1_1l, zs1_s, zs2_0, zs2_1i, zs2_1r, zs2_1n, zs2_1l, zs2_s, zcn_eq, zcn_ne, zcn_lt, zcn_ge, zcn_gt, zcn_le, zpu_0, zpu_1, zpu_2, zx_iconst, zx_lconst, zx_ldc, zx_ldc2, zx_null, zx_iload, zx_lload, zx_aload, zx_istore, zx_lstore, zx_astore, zx_iinc, zx_iadd, zx_isub, zx_imul, zx_idiv, zx_irem, zx_iand, zx_ior, zx_ixor, zx_ishl, zx_ishr, zx_iushr, zx_i2b, zx_i2l, zx_l2i, zx_ladd, zx_lmul, zx_ldiv, zx_lrem, zx_land, zx_lor, zx_lshl, zx_lshr, zx_lcmp, zx_dupi, zx_dupr, zx_dup2l, zx_dup2i, zx_pop, zx_ifc, zx_icmp, zx_ifnullN, zx_ifnullS, zx_ifnonN, zx_ifnonS, zx_goto, zx_gotow, zx_switch, zx_iaload, zx_baload, zx_laload, zx_aaload, zx_iastore, zx_bastore, zx_lastore, zx_aastore, zx_alen, zx_newarray, zx_anewarray, zx_new, zx_getI, zx_getL, zx_getR, zx_putI, zx_putZ, zx_putL, zx_putR, zx_callS, zx_callV, zx_objinit, zx_cpyi, zx_cpyl, zx_mmax, zx_mmin, zx_mminl, zx_ireturn, zx_areturn, zx_lreturn, zx_return, zcs_0, zcs_1, zcv_1, zcs_2, zcv_2, zcs_3, zcv_3, zcs_4, zcv_4, zcs_5, zcv_5, zcs_6, zcv_6, zcs_7, zcv_7, Int.reduceToNat, Nat.reduceDiv, Nat.reduceMod, zJ, zC, zK_wA, zN_wA, zR_wA, zS_wA, zA_wA, zK_wR, zN_wR, zR_wR, zS_wR, zA_wR, zK_cp, zN_cp, zR_cp, zS_cp, zA_cp, zK_mp, zN_mp, zR_mp, zS_mp, zA_mp, zfa, zfmm, zfa_1, zfb_1, zfa_2, zfb_2, zfa_3, zfb_3, zfa_4, zfb_4, zfa_5, zfb_5, zfa_6, zfb_6, zfa_7, zfb_7, zfa_8, zfb_8, zfa_9, zfb_9, zfa_10, zfb_10, zfa_12, zfb_12, zfa_20, zfb_20, zfa_21, zfb_21, zfa_30, zfb_30, zfa_48, zfb_48, zfa_60, zfb_60, zfa_61, zfb_61, zfa_65, zfb_65, zfa_97, zfb_97, zfa_100, zfb_100, zfa_120, zfb_120, zfa_124, zfb_124, zfa_500, zfb_500, zfa_792, zfb_792, zfa_2989, zfb_2989, zfm_2, zfn_2, zfm_3, zfn_3, zfm_4, zfn_4, zfm_6, zfn_6, zfm_7, zfn_7, zfm_8, zfn_8, zfm_12, zfn_12, zfm_49, zfn_49, zfm_60, zfn_60, zfm_61, zfn_61, zfm_792, zfn_792, zfm_2989, zfn_2989, Int.zero_add, Int.add_zero, Int.zero_mul, Int.mul_zero, Int.one_mul, Int.mul_one, lk_94 hL, lr_94_0 hL, lk_95 hL, ln_95 hL, lr_94_2 hL, lk_96 hL, ln_96 hL, lr_94_3 hL, lk_97 hL, ln_97 hL, ym_k5 hk2, ym_k6 hk2, ym_n6 hk2, ym_k7 hk2, ym_n7 hk2, ym_k8 hk2, ym_n8 hk2, ym_k9 hk2, ym_n9 hk2, ym_k0 hk2, ym_n0 hk2, ym_r0 hk2, ym_r1 hk2, ym_r2 hk2, ym_r4 hk2, ym_r5 hk2, w1', w2', h1]
        repeat (with_reducible refine And.intro ?_ ?_; · first | omega | (simp only [z32, z64]; omega))
        refine nxt _ _ _ (zmd_w (zmd_cp (zmd_w (zmd_w hm rfl) rfl) (fun _ => rfl)) rfl) (by simp [zA_wA]; omega) (fun p hp => ?_)
        rw [zA_wA, if_neg (by omega), zA_cp]
        by_cases ep : p < m + 1
        · rw [if_neg (by omega), zA_wA, if_neg (by omega), zA_wA]
          by_cases ep2 : p = m
          · rw [if_pos (by omega), ep2, g1]
          · rw [if_neg (by omega), g0 p (by omega)]; exact h2 p (by omega)
        · rw [if_pos (by omega), zA_wA, if_neg (by omega), zA_wA, if_neg (by omega), hm.2.2.2 95 _ rfl, (w6 _ (by omega)).1]
          have := g2 (p - (m + 1)) (by omega)
          rw [show m + 1 + (p - (m + 1)) = p by omega] at this
          exact this.symm
set_option maxRecDepth 100000 in
set_option maxRecDepth 100000 in
theorem zc_wtx94 {xs : Nat → Int} {L d b1 b2 : Nat} {H0 : zH} {Q : zQ} {t : Nat → Int} {w : Nat × (Nat → Nat × Nat)} {r : List Nat} {s : Nat} (hL0 : zLay H0) (hk : yMk H0) (hw : yWd H0 94 t w) (hs2 : s < 302) (hs : ySl H0 s (some r)) (hv : ∀ a, a ∈ r → a < w.1) (h : ∀ G : zH, zmd (zin [170] [(165, 6)]) H0 G → zA G 165 6 = ((ytp t w r r.length).length : Nat) → (∀ p : Nat, p < (ytp t w r r.length).length → zA G 170 p = (ytp t w r r.length).getD p 0) → Q 0 G) : zEm xs L d b1 b2 152 [zr (some 165), zi s, zr (some 94)] H0 Q := by
  refine zem_152 (zgo_at [7] 4 ?_)
  try simp -implicitDefEqProofs only [zgn_0, zgn_s, zct_0, zct_s, Nat.reduceEqDiff, Nat.reduceBEq, Nat.reduceAdd, Nat.reduceSub, Nat.reduceMul, Int.reduceAdd, Int.reduceSub, Int.reduceMul, Int.reduceNeg, Int.reduceLT, Int.reduceLE, Int.reduceEq, Nat.zero_add, true_and, and_true, false_and, and_false, true_imp_iff, false_imp_iff, not_true_eq_false, not_false_eq_true, if_true, if_false, Bool.false_eq_true, ite_true, ite_false, reduceIte, eq_self, Int.toNat_natCast, zst_0, zst_1, zst_2, zst_3, zst_4, true_or, or_true, or_false, false_or, ze_152_0, zB_152_0, ze_152_7, zB_152_7, ze_152_55, zB_152_55, ze_152_105, zB_152_105, zbr_t, zbr_f, zrun_c, zmI_s, zmL_s, zmR_s, zgt_0, zgt_s, zln_0, zln_s, zs1_0, zs1_1i, zs1_1r, zs1_1n, zs1_1l, zs1_s, zs2_0, zs2_1i, zs2_1r, zs2_1n, zs2_1l, zs2_s, zcn_eq, zcn_ne, zcn_lt, zcn_ge, zcn_gt, zcn_le, zpu_0, zpu_1, zpu_2, zx_iconst, zx_lconst, zx_ldc, zx_ldc2, zx_null, zx_iload, zx_lload, zx_aload, zx_istore, zx_lstore, zx_astore, zx_iinc, zx_iadd, zx_isub, zx_imul, zx_idiv, zx_irem, zx_iand, zx_ior, zx_ixor, zx_ishl, zx_ishr, zx_iushr, zx_i2b, zx_i2l, zx_l2i, zx_ladd, zx_lmul, zx_ldiv, zx_lrem, zx_land, zx_lor, zx_lshl, zx_lshr, zx_lcmp, zx_dupi, zx_dupr, zx_dup2l, zx_dup2i, zx_pop, zx_ifc, zx_icmp, zx_ifnullN, zx_ifnullS, zx_ifnonN, zx_ifnonS, zx_goto, zx_gotow, zx_switch, zx_iaload, zx_baload, zx_laload, zx_aaload, zx_iastore, zx_bastore, zx_lastore, zx_aastore, zx_alen, zx_newarray, zx_anewarray, zx_new, zx_getI, zx_getL, zx_getR, zx_putI, zx_putZ, zx_putL, zx_putR, zx_callS, zx_callV, zx_objinit, zx_cpyi, zx_cpyl, zx_mmax, zx_mmin, zx_mminl, zx_ireturn, zx_areturn, zx_lreturn, zx_return, zcs_0, zcs_1, zcv_1, zcs_2, zcv_2, zcs_3, zcv_3, zcs_4, zcv_4, zcs_5, zcv_5, zcs_6, zcv_6, zcs_7, zcv_7, Int.reduceToNat, Nat.reduceDiv, Nat.reduceMod, zJ, zC, zK_wA, zN_wA, zR_wA, zS_wA, zA_wA, zK_wR, zN_wR, zR_wR, zS_wR, zA_wR, zK_cp, zN_cp, zR_cp, zS_cp, zA_cp, zK_mp, zN_mp, zR_mp, zS_mp, zA_mp, zfa, zfmm, zfa_1, zfb_1, zfa_2, zfb_2, zfa_3, zfb_3, zfa_4, zfb_4, zfa_5, zfb_5, zfa_6, zfb_6, zfa_7, zfb_7, zfa_8, zfb_8, zfa_9, zfb_9, zfa_10, zfb_10, zfa_12, zfb_12, zfa_20, zfb_20, zfa_21, zfb_21, zfa_30, zfb_30, zfa_48, zfb_48, zfa_60, zfb_60, zfa_61, zfb_61, zfa_65, zfb_65, zfa_97, zfb_97, zfa_100, zfb_100, zfa_120, zfb_120, zfa_124, zfb_124, zfa_500, zfb_500, zfa_792, zfb_792, zfa_2989, zfb_2989, zfm_2, zfn_2, zfm_3, zfn_3, zfm_4, zfn_4, zfm_6, zfn_6, zfm_7, zfn_7, zfm_8, zfn_8, zfm_12, zfn_12, zfm_49, zfn_49, zfm_60, zfn_60, zfm_61, zfn_61, zfm_792, zfn_792, zfm_2989, zfn_2989, Int.zero_add, Int.add_zero, Int.zero_mul, Int.mul_zero, Int.one_mul, Int.mul_one, ym_k5 hk, ym_k6 hk, ym_n6 hk, ym_k7 hk, ym_n7 hk, ym_k8 hk, ym_n8 hk, ym_k9 hk, ym_n9 hk, ym_k0 hk, ym_n0 hk, ym_r0 hk, ym_r1 hk, ym_r2 hk, ym_r4 hk, ym_r5 hk]
  repeat (with_reducible refine And.intro ?_ ?_; · first | omega | (simp only [z32, z64]; omega))
  exact zl_wtx94 hL0 hk hw hs2 hs hv h _ 0 _ _ _ rfl (by omega) (zmd_w (zmd_rf _ _) rfl) (by simp [zA_wA]; rfl) (fun p hp => absurd hp (Nat.not_lt_zero _))
set_option maxRecDepth 100000 in
theorem zl_wtx100 {xs : Nat → Int} {L d b1 b2 : Nat} {H0 : zH} {Q : zQ} {t : Nat → Int} {w : Nat × (Nat → Nat × Nat)} {r : List Nat} {s : Nat} (hL0 : zLay H0) (hk : yMk H0) (hw : yWd H0 100 t w) (hs2 : s < 302) (hs : ySl H0 s (some r)) (hv : ∀ a, a ∈ r → a < w.1) (h : ∀ G : zH, zmd (zin [170] [(165, 6)]) H0 G → zA G 165 6 = ((ytp t w r r.length).length : Nat) → (∀ p : Nat, p < (ytp t w r r.length).length → zA G 170 p = (ytp t w r r.length).getD p 0) → Q 0 G) : ∀ (kk : Nat) (i : Nat) (H : zH) (l4 : Option zV) (l5 : Option zV), r.length - i = kk → (i ≤ r.length) → (zmd (zin [170] [(165, 6)]) H0 H) → (zA H 165 6 = ((ytp t w r i).length : Nat)) → (∀ p : Nat, p < (ytp t w r i).length → zA H 170 p = (ytp t w r i).getD p 0) → zEt xs L d b1 b2 false 152 7 [some (zr (some 165)), some (zi s), some (zr (some 100)), some (zi (i : Nat)), l4, l5] [] H Q := by
  intro kk
  induction kk using Nat.strongRecOn with
  | ind kk ih =>
    intro i H l4 l5 hkk hi hm h1 h2
    have hL := zmd_lay hm hL0
    have hk2 := yMk_d hm hk
    have sz : zA H 167 s = (r.length : Nat) := by rw [hm.2.2.2 167 s rfl]; exact hs.1
    refine zgo_at [7, 55] 8 ?_
    try simp -implicitDefEqProofs only [zgn_0, zgn_s, zct_0, zct_s, Nat.reduceEqDiff, Nat.reduceBEq, Nat.reduceAdd, Nat.reduceSub, Nat.reduceMul, Int.reduceAdd, Int.reduceSub, Int.reduceMul, Int.reduceNeg, Int.reduceLT, Int.reduceLE, Int.reduceEq, Nat.zero_add, true_and, and_true, false_and, and_false, true_imp_iff, false_imp_iff, not_true_eq_false, not_false_eq_true, if_true, if_false, Bool.false_eq_true, ite_true, ite_false, reduceIte, eq_self, Int.toNat_natCast, zst_0, zst_1, zst_2, zst_3, zst_4, true_or, or_true, or_false, false_or, ze_152_0, zB_152_0, ze_152_7, zB_152_7, ze_152_55, zB_152_55, ze_152_105, zB_152_105, zbr_t, zbr_f, zrun_c, zmI_s, zmL_s, zmR_s, zgt_0, zgt_s, zln_0, zln_s, zs1_0, zs1_1i, zs1_1r, zs1_1n, zs1_1l, zs1_s, zs2_0, zs2_1i, zs2_1r, zs2_1n, zs2_1l, zs2_s, zcn_eq, zcn_ne, zcn_lt, zcn_ge, zcn_gt, zcn_le, zpu_0, zpu_1, zpu_2, zx_iconst, zx_lconst, zx_ldc, zx_ldc2, zx_null, zx_iload, zx_lload, zx_aload, zx_istore, zx_lstore, zx_astore, zx_iinc, zx_iadd, zx_isub, zx_imul, zx_idiv, zx_irem, zx_iand, zx_ior, zx_ixor, zx_ishl, zx_ishr, zx_iushr, zx_i2b, zx_i2l, zx_l2i, zx_ladd, zx_lmul, zx_ldiv, zx_lrem, zx_land, zx_lor, zx_lshl, zx_lshr, zx_lcmp, zx_dupi, zx_dupr, zx_dup2l, zx_dup2i, zx_pop, zx_ifc, zx_icmp, zx_ifnullN, zx_ifnullS, zx_ifnonN, zx_ifnonS, zx_goto, zx_gotow, zx_switch, zx_iaload, zx_baload, zx_laload, zx_aaload, zx_iastore, zx_bastore, zx_lastore, zx_aastore, zx_alen, zx_newarray, zx_anewarray, zx_new, zx_getI, zx_getL, zx_getR, zx_putI, zx_putZ, zx_putL, zx_putR, zx_callS, zx_callV, zx_objinit, zx_cpyi, zx_cpyl, zx_mmax, zx_mmin, zx_mminl, zx_ireturn, zx_areturn, zx_lreturn, zx_return, zcs_0, zcs_1, zcv_1, zcs_2, zcv_2, zcs_3, zcv_3, zcs_4, zcv_4, zcs_5, zcv_5, zcs_6, zcv_6, zcs_7, zcv_7, Int.reduceToNat, Nat.reduceDiv, Nat.reduceMod, zJ, zC, zK_wA, zN_wA, zR_wA, zS_wA, zA_wA, zK_wR, zN_wR, zR_wR, zS_wR, zA_wR, zK_cp, zN_cp, zR_cp, zS_cp, zA_cp, zK_mp, zN_mp, zR_mp, zS_mp, zA_mp, zfa, zfmm, zfa_1, zfb_1, zfa_2, zfb_2, zfa_3, zfb_3, zfa_4, zfb_4, zfa_5, zfb_5, zfa_6, zfb_6, zfa_7, zfb_7, zfa_8, zfb_8, zfa_9, zfb_9, zfa_10, zfb_10, zfa_12, zfb_12, zfa_20, zfb_20, zfa_21, zfb_21, zfa_30, zfb_30, zfa_48, zfb_48, zfa_60, zfb_60, zfa_61, zfb_61, zfa_65, zfb_65, zfa_97, zfb_97, zfa_100, zfb_100, zfa_120, zfb_120, zfa_124, zfb_124, zfa_500, zfb_500, zfa_792, zfb_792, zfa_2989, zfb_2989, zfm_2, zfn_2, zfm_3, zfn_3, zfm_4, zfn_4, zfm_6, zfn_6, zfm_7, zfn_7, zfm_8, zfn_8, zfm_12, zfn_12, zfm_49, zfn_49, zfm_60, zfn_60, zfm_61, zfn_61, zfm_792, zfn_792, zfm_2989, zfn_2989, Int.zero_add, Int.add_zero, Int.zero_mul, Int.mul_zero, Int.one_mul, Int.mul_one, ym_k5 hk2, ym_k6 hk2, ym_n6 hk2, ym_k7 hk2, ym_n7 hk2, ym_k8 hk2, ym_n8 hk2, ym_k9 hk2, ym_n9 hk2, ym_k0 hk2, ym_n0 hk2, ym_r0 hk2, ym_r1 hk2, ym_r2 hk2, ym_r4 hk2, ym_r5 hk2, sz, h1]
    repeat (with_reducible refine And.intro ?_ ?_; · first | omega | (simp only [z32, z64]; omega))
    refine zbr_i (fun q => ?_) (fun q => ?_)
    · have e : i = r.length := by omega
      subst e
      have fin := h H hm h1 h2
      first | exact fin | (simp only [zx_return]; exact fin)
    · have hl6 := hs.2.1
      have c1 : zA H 166 (s * 60 + i) = (r.getD i 0 : Nat) := by rw [hm.2.2.2 166 _ rfl]; exact hs.2.2 i (by omega)
      have hb := ytp_b (t := t) (fun x hx => (hw.2.2 x hx).2.2.2.2.1) hv i (by omega)
      have hx := hv _ (ymem_gd r i (by omega))
      obtain ⟨w1, w2, w3, w4, w5, w6⟩ := hw.2.2 _ hx
      have w0 := hw.1
      have el := ytp_l (t := t) (w := w) (r := r) i
      have g0 := fun p hp => ytp_g0 (t := t) (w := w) (r := r) (i := i) (p := p) hp
      have g1 := ytp_g1 (t := t) (w := w) (r := r) (i := i)
      have g2 := fun j hj => ytp_g2 (t := t) (w := w) (r := r) (i := i) (j := j) hj
      have nxt : ∀ (G : zH) (l4 l5 : Option zV), zmd (zin [170] [(165, 6)]) H0 G → zA G 165 6 = ((ytp t w r (i + 1)).length : Nat) → (∀ p : Nat, p < (ytp t w r (i + 1)).length → zA G 170 p = (ytp t w r (i + 1)).getD p 0) → zEt xs L d b1 b2 false 152 7 [some (zr (some 165)), some (zi s), some (zr (some 100)), some (zi (i + 1 : Nat)), l4, l5] [] G Q := fun G l4 l5 mG e1 e2 => ih _ (by omega) (i + 1) G l4 l5 rfl (by omega) mG e1 e2
      clear ih h
      generalize (ytp t w r (i + 1)).length = m' at *
      generalize (ytp t w r i).length = m at *
      generalize hxx : r.getD i 0 = x at *
      have w1' : zA H 102 x = ((w.2 x).1 : Nat) := by rw [hm.2.2.2 102 x rfl]; exact w1
      have w2' : zA H 103 x = ((w.2 x).2 : Nat) := by rw [hm.2.2.2 103 x rfl]; exact w2
      repeat (with_reducible refine And.intro ?_ ?_; · first | omega | (simp only [z32, z64]; omega))
      rw [c1]
      refine zbr_i (fun q1 => ?_) (fun q1 => ?_)
      · have e0 : i = 0 := by omega
        have es : ysp i = 0 := if_pos e0
        rw [es] at el g2
        repeat (with_reducible refine And.intro ?_ ?_; · first | omega | (simp only [z32, z64]; omega))
        refine zgo_at [7] 4 ?_
        try simp -implicitDefEqProofs only [zgn_0, zgn_s, zct_0, zct_s, Nat.reduceEqDiff, Nat.reduceBEq, Nat.reduceAdd, Nat.reduceSub, Nat.reduceMul, Int.reduceAdd, Int.reduceSub, Int.reduceMul, Int.reduceNeg, Int.reduceLT, Int.reduceLE, Int.reduceEq, Nat.zero_add, true_and, and_true, false_and, and_false, true_imp_iff, false_imp_iff, not_true_eq_false, not_false_eq_true, if_true, if_false, Bool.false_eq_true, ite_true, ite_false, reduceIte, eq_self, Int.toNat_natCast, zst_0, zst_1, zst_2, zst_3, zst_4, true_or, or_true, or_false, false_or, ze_152_0, zB_152_0, ze_152_7, zB_152_7, ze_152_55, zB_152_55, ze_152_105, zB_152_105, zbr_t, zbr_f, zrun_c, zmI_s, zmL_s, zmR_s, zgt_0, zgt_s, zln_0, zln_s, zs1_0, zs1_1i, zs1_1r, zs1_1n, zs1_1l, zs1_s, zs2_0, zs2_1i, zs2_1r, zs2_1n, zs2_1l, zs2_s, zcn_eq, zcn_ne, zcn_lt, zcn_ge, zcn_gt, zcn_le, zpu_0, zpu_1, zpu_2, zx_iconst, zx_lconst, zx_ldc, zx_ldc2, zx_null, zx_iload, zx_lload, zx_aload, zx_istore, zx_lstore, zx_astore, zx_iinc, zx_iadd, zx_isub, zx_imul, zx_idiv, zx_irem, zx_iand, zx_ior, zx_ixor, zx_ishl, zx_ishr, zx_iushr, zx_i2b, zx_i2l, zx_l2i, zx_ladd, zx_lmul, zx_ldiv, zx_lrem, zx_land, zx_lor, zx_lshl, zx_lshr, zx_lcmp, zx_dupi, zx_dupr, zx_dup2l, zx_dup2i, zx_pop, zx_ifc, zx_icmp, zx_ifnullN, zx_ifnullS, zx_ifnonN, zx_ifnonS, zx_goto, zx_gotow, zx_switch, zx_iaload, zx_baload, zx_laload, zx_aaload, zx_iastore, zx_bastore, zx_lastore, zx_aastore, zx_alen, zx_newarray, zx_anewarray, zx_new, zx_getI, zx_getL, zx_getR, zx_putI, zx_putZ, zx_putL, zx_putR, zx_callS, zx_callV, zx_objinit, zx_cpyi, zx_cpyl, zx_mmax, zx_mmin, zx_mminl, zx_ireturn, zx_areturn, zx_lreturn, zx_return, zcs_0, zcs_1, zcv_1, zcs_2, zcv_2, zcs_3, zcv_3, zcs_4, zcv_4, zcs_5, zcv_5, zcs_6, zcv_6, zcs_7, zcv_7, Int.reduceToNat, Nat.reduceDiv, Nat.reduceMod, zJ, zC, zK_wA, zN_wA, zR_wA, zS_wA, zA_wA, zK_wR, zN_wR, zR_wR, zS_wR, zA_wR, zK_cp, zN_cp, zR_cp, zS_cp, zA_cp, zK_mp, zN_mp, zR_mp, zS_mp, zA_mp, zfa, zfmm, zfa_1, zfb_1, zfa_2, zfb_2, zfa_3, zfb_3, zfa_4, zfb_4, zfa_5, zfb_5, zfa_6, zfb_6, zfa_7, zfb_7, zfa_8, zfb_8, zfa_9, zfb_9, zfa_10, zfb_10, zfa_12, zfb_12, zfa_20, zfb_20, zfa_21, zfb_21, zfa_30, zfb_30, zfa_48, zfb_48, zfa_60, zfb_60, zfa_61, zfb_61, zfa_65, zfb_65, zfa_97, zfb_97, zfa_100, zfb_100, zfa_120, zfb_120, zfa_124, zfb_124, zfa_500, zfb_500, zfa_792, zfb_792, zfa_2989, zfb_2989, zfm_2, zfn_2, zfm_3, zfn_3, zfm_4, zfn_4, zfm_6, zfn_6, zfm_7, zfn_7, zfm_8, zfn_8, zfm_12, zfn_12, zfm_49, zfn_49, zfm_60, zfn_60, zfm_61, zfn_61, zfm_792, zfn_792, zfm_2989, zfn_2989, Int.zero_add, Int.add_zero, Int.zero_mul, Int.mul_zero, Int.one_mul, Int.mul_one, lk_100 hL, lr_100_0 hL, lk_101 hL, ln_101 hL, lr_100_2 hL, lk_102 hL, ln_102 hL, lr_100_3 hL, lk_103 hL, ln_103 hL, ym_k5 hk2, ym_k6 hk2, ym_n6 hk2, ym_k7 hk2, ym_n7 hk2, ym_k8 hk2, ym_n8 hk2, ym_k9 hk2, ym_n9 hk2, ym_k0 hk2, ym_n0 hk2, ym_r0 hk2, ym_r1 hk2, ym_r2 hk2, ym_r4 hk2, ym_r5 hk2, w1', w2', h1]
        repeat (with_reducible refine And.intro ?_ ?_; · first | omega | (simp only [z32, z64]; omega))
        rw [Nat.add_zero] at el
        refine nxt _ _ _ (zmd_w (zmd_cp hm (fun _ => rfl)) rfl) (by simp [zA_wA]; omega) (fun p hp => ?_)
        rw [zA_wA, if_neg (by omega), zA_cp]
        by_cases ep : p < m
        · rw [if_neg (by omega), g0 p ep]; exact h2 p ep
        · rw [if_pos (by omega), hm.2.2.2 101 _ rfl, (w6 _ (by omega)).1]
          have := g2 (p - m) (by omega)
          rw [show m + 0 + (p - m) = p by omega] at this
          exact this.symm
      · have e0 : i ≠ 0 := by omega
        have es : ysp i = 1 := if_neg e0
        rw [es] at el g2
        have g1 := g1 e0
        repeat (with_reducible refine And.intro ?_ ?_; · first | omega | (simp only [z32, z64]; omega))
        refine zgo_at [7] 4 ?_
        try simp -implicitDefEqProofs only [zgn_0, zgn_s, zct_0, zct_s, Nat.reduceEqDiff, Nat.reduceBEq, Nat.reduceAdd, Nat.reduceSub, Nat.reduceMul, Int.reduceAdd, Int.reduceSub, Int.reduceMul, Int.reduceNeg, Int.reduceLT, Int.reduceLE, Int.reduceEq, Nat.zero_add, true_and, and_true, false_and, and_false, true_imp_iff, false_imp_iff, not_true_eq_false, not_false_eq_true, if_true, if_false, Bool.false_eq_true, ite_true, ite_false, reduceIte, eq_self, Int.toNat_natCast, zst_0, zst_1, zst_2, zst_3, zst_4, true_or, or_true, or_false, false_or, ze_152_0, zB_152_0, ze_152_7, zB_152_7, ze_152_55, zB_152_55, ze_152_105, zB_152_105, zbr_t, zbr_f, zrun_c, zmI_s, zmL_s, zmR_s, zgt_0, zgt_s, zln_0, zln_s, zs1_0, zs1_1i, zs1_1r, zs1_1n, zs1_1l, zs1_s, zs2_0, zs2_1i, zs2_1r, zs2_1n, zs2_1l, zs2_s, zcn_eq, zcn_ne, zcn_lt, zcn_ge, zcn_gt, zcn_le, zpu_0, zpu_1, zpu_2, zx_iconst, zx_lconst, zx_ldc, zx_ldc2, zx_null, zx_iload, zx_lload, zx_aload, zx_istore, zx_lstore, zx_astore, zx_iinc, zx_iadd, zx_isub, zx_imul, zx_idiv, zx_irem, zx_iand, zx_ior, zx_ixor, zx_ishl, zx_ishr, zx_iushr, zx_i2b, zx_i2l, zx_l2i, zx_ladd, zx_lmul, zx_ldiv, zx_lrem, zx_land, zx_lor, zx_lshl, zx_lshr, zx_lcmp, zx_dupi, zx_dupr, zx_dup2l, zx_dup2i, zx_pop, zx_ifc, zx_icmp, zx_ifnullN, zx_ifnullS, zx_ifnonN, zx_ifnonS, zx_goto, zx_gotow, zx_switch, zx_iaload, zx_baload, zx_laload, zx_aaload, zx_iastore, zx_bastore, zx_lastore, zx_aastore, zx_alen, zx_newarray, zx_anewarray, zx_new, zx_getI, zx_getL, zx_getR, zx_putI, zx_putZ, zx_putL, zx_putR, zx_callS, zx_callV, zx_objinit, zx_cpyi, zx_cpyl, zx_mmax, zx_mmin, zx_mminl, zx_ireturn, zx_areturn, zx_lreturn, zx_return, zcs_0, zcs_1, zcv_1, zcs_2, zcv_2, zcs_3, zcv_3, zcs_4, zcv_4, zcs_5, zcv_5, zcs_6, zcv_6, zcs_7, zcv_7, Int.reduceToNat, Nat.reduceDiv, Nat.reduceMod, zJ, zC, zK_wA, zN_wA, zR_wA, zS_wA, zA_wA, zK_wR, zN_wR, zR_wR, zS_wR, zA_wR, zK_cp, zN_cp, zR_cp, zS_cp, zA_cp, zK_mp, zN_mp, zR_mp, zS_mp, zA_mp, zfa, zfmm, zfa_1, zfb_1, zfa_2, zfb_2, zfa_3, zfb_3, zfa_4, zfb_4, zfa_5, zfb_5, zfa_6, zfb_6, zfa_7, zfb_7, zfa_8, zfb_8, zfa_9, zfb_9, zfa_10, zfb_10, zfa_12, zfb_12, zfa_20, zfb_20, zfa_21, zfb_21, zfa_30, zfb_30, zfa_48, zfb_48, zfa_60, zfb_60, zfa_61, zfb_61, zfa_65, zfb_65, zfa_97, zfb_97, zfa_100, zfb_100, zfa_120, zfb_120, zfa_124, zfb_124, zfa_500, zfb_500, zfa_792, zfb_792, zfa_2989, zfb_2989, zfm_2, zfn_2, zfm_3, zfn_3, zfm_4, zfn_4, zfm_6, zfn_6, zfm_7, zfn_7, zfm_8, zfn_8, zfm_12, zfn_12, zfm_49, zfn_49, zfm_60, zfn_60, zfm_61, zfn_61, zfm_792, zfn_792, zfm_2989, zfn_2989, Int.zero_add, Int.add_zero, Int.zero_mul, Int.mul_zero, Int.one_mul, Int.mul_one, lk_100 hL, lr_100_0 hL, lk_101 hL, ln_101 hL, lr_100_2 hL, lk_102 hL, ln_102 hL, lr_100_3 hL, lk_103 hL, ln_103 hL, ym_k5 hk2, ym_k6 hk2, ym_n6 hk2, ym_k7 hk2, ym_n7 hk2, ym_k8 hk2, ym_n8 hk2, ym_k9 hk2, ym_n9 hk2, ym_k0 hk2, ym_n0 hk2, ym_r0 hk2, ym_r1 hk2, ym_r2 hk2, ym_r4 hk2, ym_r5 hk2, w1', w2', h1]
        repeat (with_reducible refine And.intro ?_ ?_; · first | omega | (simp only [z32, z64]; omega))
        refine nxt _ _ _ (zmd_w (zmd_cp (zmd_w (zmd_w hm rfl) rfl) (fun _ => rfl)) rfl) (by simp [zA_wA]; omega) (fun p hp => ?_)
        rw [zA_wA, if_neg (by omega), zA_cp]
        by_cases ep : p < m + 1
        · rw [if_neg (by omega), zA_wA, if_neg (by omega), zA_wA]
          by_cases ep2 : p = m
          · rw [if_pos (by omega), ep2, g1]
          · rw [if_neg (by omega), g0 p (by omega)]; exact h2 p (by omega)
        · rw [if_pos (by omega), zA_wA, if_neg (by omega), zA_wA, if_neg (by omega), hm.2.2.2 101 _ rfl, (w6 _ (by omega)).1]
          have := g2 (p - (m + 1)) (by omega)
          rw [show m + 1 + (p - (m + 1)) = p by omega] at this
          exact this.symm
set_option maxRecDepth 100000 in
set_option maxRecDepth 100000 in
theorem zc_wtx100 {xs : Nat → Int} {L d b1 b2 : Nat} {H0 : zH} {Q : zQ} {t : Nat → Int} {w : Nat × (Nat → Nat × Nat)} {r : List Nat} {s : Nat} (hL0 : zLay H0) (hk : yMk H0) (hw : yWd H0 100 t w) (hs2 : s < 302) (hs : ySl H0 s (some r)) (hv : ∀ a, a ∈ r → a < w.1) (h : ∀ G : zH, zmd (zin [170] [(165, 6)]) H0 G → zA G 165 6 = ((ytp t w r r.length).length : Nat) → (∀ p : Nat, p < (ytp t w r r.length).length → zA G 170 p = (ytp t w r r.length).getD p 0) → Q 0 G) : zEm xs L d b1 b2 152 [zr (some 165), zi s, zr (some 100)] H0 Q := by
  refine zem_152 (zgo_at [7] 4 ?_)
  try simp -implicitDefEqProofs only [zgn_0, zgn_s, zct_0, zct_s, Nat.reduceEqDiff, Nat.reduceBEq, Nat.reduceAdd, Nat.reduceSub, Nat.reduceMul, Int.reduceAdd, Int.reduceSub, Int.reduceMul, Int.reduceNeg, Int.reduceLT, Int.reduceLE, Int.reduceEq, Nat.zero_add, true_and, and_true, false_and, and_false, true_imp_iff, false_imp_iff, not_true_eq_false, not_false_eq_true, if_true, if_false, Bool.false_eq_true, ite_true, ite_false, reduceIte, eq_self, Int.toNat_natCast, zst_0, zst_1, zst_2, zst_3, zst_4, true_or, or_true, or_false, false_or, ze_152_0, zB_152_0, ze_152_7, zB_152_7, ze_152_55, zB_152_55, ze_152_105, zB_152_105, zbr_t, zbr_f, zrun_c, zmI_s, zmL_s, zmR_s, zgt_0, zgt_s, zln_0, zln_s, zs1_0, zs1_1i, zs1_1r, zs1_1n, zs1_1l, zs1_s, zs2_0, zs2_1i, zs2_1r, zs2_1n, zs2_1l, zs2_s, zcn_eq, zcn_ne, zcn_lt, zcn_ge, zcn_gt, zcn_le, zpu_0, zpu_1, zpu_2, zx_iconst, zx_lconst, zx_ldc, zx_ldc2, zx_null, zx_iload, zx_lload, zx_aload, zx_istore, zx_lstore, zx_astore, zx_iinc, zx_iadd, zx_isub, zx_imul, zx_idiv, zx_irem, zx_iand, zx_ior, zx_ixor, zx_ishl, zx_ishr, zx_iushr, zx_i2b, zx_i2l, zx_l2i, zx_ladd, zx_lmul, zx_ldiv, zx_lrem, zx_land, zx_lor, zx_lshl, zx_lshr, zx_lcmp, zx_dupi, zx_dupr, zx_dup2l, zx_dup2i, zx_pop, zx_ifc, zx_icmp, zx_ifnullN, zx_ifnullS, zx_ifnonN, zx_ifnonS, zx_goto, zx_gotow, zx_switch, zx_iaload, zx_baload, zx_laload, zx_aaload, zx_iastore, zx_bastore, zx_lastore, zx_aastore, zx_alen, zx_newarray, zx_anewarray, zx_new, zx_getI, zx_getL, zx_getR, zx_putI, zx_putZ, zx_putL, zx_putR, zx_callS, zx_callV, zx_objinit, zx_cpyi, zx_cpyl, zx_mmax, zx_mmin, zx_mminl, zx_ireturn, zx_areturn, zx_lreturn, zx_return, zcs_0, zcs_1, zcv_1, zcs_2, zcv_2, zcs_3, zcv_3, zcs_4, zcv_4, zcs_5, zcv_5, zcs_6, zcv_6, zcs_7, zcv_7, Int.reduceToNat, Nat.reduceDiv, Nat.reduceMod, zJ, zC, zK_wA, zN_wA, zR_wA, zS_wA, zA_wA, zK_wR, zN_wR, zR_wR, zS_wR, zA_wR, zK_cp, zN_cp, zR_cp, zS_cp, zA_cp, zK_mp, zN_mp, zR_mp, zS_mp, zA_mp, zfa, zfmm, zfa_1, zfb_1, zfa_2, zfb_2, zfa_3, zfb_3, zfa_4, zfb_4, zfa_5, zfb_5, zfa_6, zfb_6, zfa_7, zfb_7, zfa_8, zfb_8, zfa_9, zfb_9, zfa_10, zfb_10, zfa_12, zfb_12, zfa_20, zfb_20, zfa_21, zfb_21, zfa_30, zfb_30, zfa_48, zfb_48, zfa_60, zfb_60, zfa_61, zfb_61, zfa_65, zfb_65, zfa_97, zfb_97, zfa_100, zfb_100, zfa_120, zfb_120, zfa_124, zfb_124, zfa_500, zfb_500, zfa_792, zfb_792, zfa_2989, zfb_2989, zfm_2, zfn_2, zfm_3, zfn_3, zfm_4, zfn_4, zfm_6, zfn_6, zfm_7, zfn_7, zfm_8, zfn_8, zfm_12, zfn_12, zfm_49, zfn_49, zfm_60, zfn_60, zfm_61, zfn_61, zfm_792, zfn_792, zfm_2989, zfn_2989, Int.zero_add, Int.add_zero, Int.zero_mul, Int.mul_zero, Int.one_mul, Int.mul_one, ym_k5 hk, ym_k6 hk, ym_n6 hk, ym_k7 hk, ym_n7 hk, ym_k8 hk, ym_n8 hk, ym_k9 hk, ym_n9 hk, ym_k0 hk, ym_n0 hk, ym_r0 hk, ym_r1 hk, ym_r2 hk, ym_r4 hk, ym_r5 hk]
  repeat (with_reducible refine And.intro ?_ ?_; · first | omega | (simp only [z32, z64]; omega))
  exact zl_wtx100 hL0 hk hw hs2 hs hv h _ 0 _ _ _ rfl (by omega) (zmd_w (zmd_rf _ _) rfl) (by simp [zA_wA]; rfl) (fun p hp => absurd hp (Nat.not_lt_zero _))
