/-- at the loop's head with these levels it goes well -/
def zef100 (xs : Nat → Int) (L d : Nat) (Q : zQ) (H0 : zH) (n pl : Nat) (nm sr : Int) (i l : Nat) (h dd : Nat → Nat) : Prop := (∀ m : Nat, m ≤ l → h m < 2 ^ (n + 1) ∧ dd m < 2 ^ (n + 1)) → ∀ (G : zH) (v7 : Option zV), zmd (zin [85, 86] []) H0 G → (∀ m : Nat, m ≤ l → zA G 85 m = (h m : Nat) ∧ zA G 86 m = (dd m : Nat)) → zEt xs L d 0 0 false 125 38 [some (zr (some 78)), some (zr (some 100)), some (zi nm), some (zi (pl : Nat)), some (zi sr), some (zi (l : Nat)), some (zi (i : Nat)), v7] [] G Q
set_option maxHeartbeats 4000000 in
set_option maxRecDepth 100000 in
theorem zef100_s {xs : Nat → Int} {L d : Nat} {Q : zQ} {H0 : zH} {n pl : Nat} {nm sr : Int} {tk : List Nat} {wp : Nat → Nat} {wb : Nat → Nat → Bool} {e : Nat → Nat → Nat} (hd : 1 ≤ d) (hL0 : zLay H0) (hn : n ≤ 60) (hpl : pl ≤ n) (h6 : zA H0 100 6 = (tk.length : Nat)) (hlen : tk.length ≤ 400) (htk : ∀ i : Nat, i < tk.length → zA H0 104 i = (tk.getD i 0 : Nat)) (hwp : ∀ x : Nat, x < 120 → zA H0 83 x = (wp x : Nat) ∧ wp x < 2 ^ (n + 1) ∧ ∀ p : Nat, (wp x).testBit p = (decide (p < n) && wb x p)) (hE : ∀ c : Nat, c < 8 → ∀ i : Nat, i < 61 → zA H0 84 (c * 61 + i) = (e c i : Nat) ∧ e c i < 2 ^ (n + 1)) : zStep (zmT n wb e) zmJ (2 ^ pl) (fun i => tk.getD i 999) (zef100 xs L d Q H0 n pl nm sr) := by
  have hin : 2 ^ pl < 2 ^ (n + 1) := Nat.pow_lt_pow_right (by omega) (by omega)
  refine ⟨fun i l h dd hl hx hZ => ?_, fun i l h dd hl hx hZ => ?_, fun i l h dd hl hx hZ => ?_, fun i l h dd hl hx hZ => ?_⟩
  · intro hbd G v7 hm hc
    have hx : zlf (tk.getD i 999) := hx
    have hZ : zef100 xs L d Q H0 n pl nm sr (i + 1) l (zuq h l (zmT n wb e (tk.getD i 999) (h l))) dd := hZ
    have hLG := zmd_lay hm hL0
    have hp63 : ∀ a : Nat, a < 2 ^ (n + 1) → a < 9223372036854775808 := fun a ha => zp61 (zp60 hn ha)
    have t6 : zA G 100 6 = (tk.length : Nat) := by rw [hm.2.2.2 100 6 rfl]; exact h6
    have hil : i < tk.length := by
      apply Classical.byContradiction
      intro r
      have := zgd_o (D := 999) r
      unfold zlf at *
      omega
    have tkc : zA G 104 i = (tk.getD i 999 : Nat) := by rw [hm.2.2.2 104 i rfl, htk i hil, zgd_D (D' := 999) hil]
    obtain ⟨c85, c86⟩ := hc l (Nat.le_refl _)
    obtain ⟨b85, b86⟩ := hbd l (Nat.le_refl _)
    have hx2 := hx
    unfold zlf at hx2
    have fin : ∀ v7 : Option zV, zEt xs L d 0 0 false 125 38 [some (zr (some 78)), some (zr (some 100)), some (zi nm), some (zi (pl : Nat)), some (zi sr), some (zi (l : Nat)), some (zi (i + 1 : Nat)), v7] [] (zwA G 85 l (zmT n wb e (tk.getD i 999) (h l) : Nat)) Q := fun v7 => hZ (fun m hm2 => by
        by_cases q : m = l
        · rw [q, zuq_e]; exact ⟨zmT_b (fun c hc i hi => (hE c hc i (by omega)).2) hx, b86⟩
        · rw [zuq_n q]; exact hbd m hm2) _ v7 (zmd_w hm rfl) (fun m hm2 => by
        by_cases q : m = l
        · rw [q, zuq_e, zA_wA, if_pos ⟨rfl, rfl⟩, zA_wA, if_neg (by omega)]; exact ⟨rfl, c86⟩
        · rw [zuq_n q, zA_wA, if_neg (by omega), zA_wA, if_neg (by omega)]; exact hc m hm2)
    clear hZ
    generalize hxx : tk.getD i 999 = x at *
    refine zgo_at [38] 12 ?_
    try simp -implicitDefEqProofs only [zgn_0, zgn_s, zct_0, zct_s, Nat.reduceEqDiff, Nat.reduceBEq, Nat.reduceAdd, Nat.reduceSub, Nat.reduceMul, Int.reduceAdd, Int.reduceSub, Int.reduceMul, Int.reduceNeg, Int.reduceLT, Int.reduceLE, Int.reduceEq, Nat.zero_add, true_and, and_true, false_and, and_false, true_imp_iff, false_imp_iff, not_true_eq_false, not_false_eq_true, if_true, if_false, Bool.false_eq_true, ite_true, ite_false, reduceIte, eq_self, Int.toNat_natCast, zst_0, zst_1, zst_2, zst_3, zst_4, true_or, or_true, or_false, false_or, ze_125_0, zB_125_0, ze_125_15, zB_125_15, ze_125_38, zB_125_38, ze_125_90, zB_125_90, ze_125_123, zB_125_123, ze_125_172, zB_125_172, ze_125_199, zB_125_199, ze_125_229, zB_125_229, ze_125_232, zB_125_232, ze_125_236, zB_125_236, ze_125_267, zB_125_267, ze_125_273, zB_125_273, zbr_t, zbr_f, zrun_c, zmI_s, zmL_s, zmR_s, zgt_0, zgt_s, zln_0, zln_s, zs1_0, zs1_1i, zs1_1r, zs1_1n, zs1_1l, zs1_s, zs2_0, zs2_1i, zs2_1r, zs2_1n, zs2_1l, zs2_s, zcn_eq, zcn_ne, zcn_lt, zcn_ge, zcn_gt, zcn_le, zpu_0, zpu_1, zpu_2, zx_iconst, zx_lconst, zx_ldc, zx_ldc2, zx_null, zx_iload, zx_lload, zx_aload, zx_istore, zx_lstore, zx_astore, zx_iinc, zx_iadd, zx_isub, zx_imul, zx_idiv, zx_irem, zx_iand, zx_ior, zx_ixor, zx_ishl, zx_ishr, zx_iushr, zx_i2b, zx_i2l, zx_l2i, zx_ladd, zx_lmul, zx_ldiv, zx_lrem, zx_land, zx_lor, zx_lshl, zx_lshr, zx_lcmp, zx_dupi, zx_dupr, zx_dup2l, zx_dup2i, zx_pop, zx_ifc, zx_icmp, zx_ifnullN, zx_ifnullS, zx_ifnonN, zx_ifnonS, zx_goto, zx_gotow, zx_switch, zx_iaload, zx_baload, zx_laload, zx_aaload, zx_iastore, zx_bastore, zx_lastore, zx_aastore, zx_alen, zx_newarray, zx_anewarray, zx_new, zx_getI, zx_getL, zx_getR, zx_putI, zx_putZ, zx_putL, zx_putR, zx_callS, zx_callV, zx_objinit, zx_cpyi, zx_cpyl, zx_mmax, zx_mmin, zx_mminl, zx_ireturn, zx_areturn, zx_lreturn, zx_return, zcs_0, zcs_1, zcv_1, zcs_2, zcv_2, zcs_3, zcv_3, zcs_4, zcv_4, zcs_5, zcv_5, zcs_6, zcv_6, zcs_7, zcv_7, Int.reduceToNat, Nat.reduceDiv, Nat.reduceMod, zJ, zC, zK_wA, zN_wA, zR_wA, zS_wA, zA_wA, zK_wR, zN_wR, zR_wR, zS_wR, zA_wR, zK_cp, zN_cp, zR_cp, zS_cp, zA_cp, zK_mp, zN_mp, zR_mp, zS_mp, zA_mp, zfa, zfmm, zfa_1, zfb_1, zfa_2, zfb_2, zfa_3, zfb_3, zfa_4, zfb_4, zfa_5, zfb_5, zfa_6, zfb_6, zfa_7, zfb_7, zfa_8, zfb_8, zfa_9, zfb_9, zfa_10, zfb_10, zfa_12, zfb_12, zfa_20, zfb_20, zfa_21, zfb_21, zfa_30, zfb_30, zfa_48, zfb_48, zfa_60, zfb_60, zfa_61, zfb_61, zfa_65, zfb_65, zfa_97, zfb_97, zfa_100, zfb_100, zfa_120, zfb_120, zfa_124, zfb_124, zfa_500, zfb_500, zfa_792, zfb_792, zfa_2989, zfb_2989, zfm_2, zfn_2, zfm_3, zfn_3, zfm_4, zfn_4, zfm_6, zfn_6, zfm_7, zfn_7, zfm_8, zfn_8, zfm_12, zfn_12, zfm_49, zfn_49, zfm_60, zfn_60, zfm_61, zfn_61, zfm_792, zfn_792, zfm_2989, zfn_2989, Int.zero_add, Int.add_zero, Int.zero_mul, Int.mul_zero, Int.one_mul, Int.mul_one, lk_78 hLG, lr_78_5 hLG, lk_83 hLG, ln_83 hLG, lr_78_6 hLG, lk_84 hLG, ln_84 hLG, lr_78_7 hLG, lk_85 hLG, ln_85 hLG, lr_78_8 hLG, lk_86 hLG, ln_86 hLG, lk_100 hLG, lr_100_5 hLG, lk_104 hLG, ln_104 hLG, t6, tkc, c85, c86]
    refine zbr_i (fun q => by omega) (fun q => ?_)
    repeat (with_reducible refine And.intro ?_ ?_; · first | omega | (simp only [z32, z64]; omega))
    refine zbr_i (fun q1 => ?_) (fun q1 => ?_)
    · refine zbr_i (fun q2 => by omega) (fun q2 => ?_)
      repeat (with_reducible refine And.intro ?_ ?_; · first | omega | (simp only [z32, z64]; omega))
      have ex : ((x : Int) - 124) = ((x - 124 : Nat) : Int) := by omega
      rw [ex]
      refine zc_eop (E := e (x - 124)) hLG (by omega) (zp60 hn b85) (fun j hj => ⟨by rw [hm.2.2.2 84 _ rfl]; exact (hE _ (by omega) j hj).1, zp60 hn (hE _ (by omega) j hj).2⟩) ?_
      have e1 : zmP (e (x - 124)) (h l) 61 = zmT n wb e x (h l) := by
        unfold zmT
        rw [zmP_c (E' := e (x - 124)) (n + 1) (fun i hi => by unfold zmEl; rw [if_neg (by omega)])]
        have := zmP_l (E := e (x - 124)) (s := h l) (k := n + 1) (ztb_h b85) (61 - (n + 1))
        rw [show n + 1 + (61 - (n + 1)) = 61 by omega] at this
        exact this
      rw [e1]
      try simp -implicitDefEqProofs only [zgn_0, zgn_s, zct_0, zct_s, Nat.reduceEqDiff, Nat.reduceBEq, Nat.reduceAdd, Nat.reduceSub, Nat.reduceMul, Int.reduceAdd, Int.reduceSub, Int.reduceMul, Int.reduceNeg, Int.reduceLT, Int.reduceLE, Int.reduceEq, Nat.zero_add, true_and, and_true, false_and, and_false, true_imp_iff, false_imp_iff, not_true_eq_false, not_false_eq_true, if_true, if_false, Bool.false_eq_true, ite_true, ite_false, reduceIte, eq_self, Int.toNat_natCast, zst_0, zst_1, zst_2, zst_3, zst_4, true_or, or_true, or_false, false_or, ze_125_0, zB_125_0, ze_125_15, zB_125_15, ze_125_38, zB_125_38, ze_125_90, zB_125_90, ze_125_123, zB_125_123, ze_125_172, zB_125_172, ze_125_199, zB_125_199, ze_125_229, zB_125_229, ze_125_232, zB_125_232, ze_125_236, zB_125_236, ze_125_267, zB_125_267, ze_125_273, zB_125_273, zbr_t, zbr_f, zrun_c, zmI_s, zmL_s, zmR_s, zgt_0, zgt_s, zln_0, zln_s, zs1_0, zs1_1i, zs1_1r, zs1_1n, zs1_1l, zs1_s, zs2_0, zs2_1i, zs2_1r, zs2_1n, zs2_1l, zs2_s, zcn_eq, zcn_ne, zcn_lt, zcn_ge, zcn_gt, zcn_le, zpu_0, zpu_1, zpu_2, zx_iconst, zx_lconst, zx_ldc, zx_ldc2, zx_null, zx_iload, zx_lload, zx_aload, zx_istore, zx_lstore, zx_astore, zx_iinc, zx_iadd, zx_isub, zx_imul, zx_idiv, zx_irem, zx_iand, zx_ior, zx_ixor, zx_ishl, zx_ishr, zx_iushr, zx_i2b, zx_i2l, zx_l2i, zx_ladd, zx_lmul, zx_ldiv, zx_lrem, zx_land, zx_lor, zx_lshl, zx_lshr, zx_lcmp, zx_dupi, zx_dupr, zx_dup2l, zx_dup2i, zx_pop, zx_ifc, zx_icmp, zx_ifnullN, zx_ifnullS, zx_ifnonN, zx_ifnonS, zx_goto, zx_gotow, zx_switch, zx_iaload, zx_baload, zx_laload, zx_aaload, zx_iastore, zx_bastore, zx_lastore, zx_aastore, zx_alen, zx_newarray, zx_anewarray, zx_new, zx_getI, zx_getL, zx_getR, zx_putI, zx_putZ, zx_putL, zx_putR, zx_callS, zx_callV, zx_objinit, zx_cpyi, zx_cpyl, zx_mmax, zx_mmin, zx_mminl, zx_ireturn, zx_areturn, zx_lreturn, zx_return, zcs_0, zcs_1, zcv_1, zcs_2, zcv_2, zcs_3, zcv_3, zcs_4, zcv_4, zcs_5, zcv_5, zcs_6, zcv_6, zcs_7, zcv_7, Int.reduceToNat, Nat.reduceDiv, Nat.reduceMod, zJ, zC, zK_wA, zN_wA, zR_wA, zS_wA, zA_wA, zK_wR, zN_wR, zR_wR, zS_wR, zA_wR, zK_cp, zN_cp, zR_cp, zS_cp, zA_cp, zK_mp, zN_mp, zR_mp, zS_mp, zA_mp, zfa, zfmm, zfa_1, zfb_1, zfa_2, zfb_2, zfa_3, zfb_3, zfa_4, zfb_4, zfa_5, zfb_5, zfa_6, zfb_6, zfa_7, zfb_7, zfa_8, zfb_8, zfa_9, zfb_9, zfa_10, zfb_10, zfa_12, zfb_12, zfa_20, zfb_20, zfa_21, zfb_21, zfa_30, zfb_30, zfa_48, zfb_48, zfa_60, zfb_60, zfa_61, zfb_61, zfa_65, zfb_65, zfa_97, zfb_97, zfa_100, zfb_100, zfa_120, zfb_120, zfa_124, zfb_124, zfa_500, zfb_500, zfa_792, zfb_792, zfa_2989, zfb_2989, zfm_2, zfn_2, zfm_3, zfn_3, zfm_4, zfn_4, zfm_6, zfn_6, zfm_7, zfn_7, zfm_8, zfn_8, zfm_12, zfn_12, zfm_49, zfn_49, zfm_60, zfn_60, zfm_61, zfn_61, zfm_792, zfn_792, zfm_2989, zfn_2989, Int.zero_add, Int.add_zero, Int.zero_mul, Int.mul_zero, Int.one_mul, Int.mul_one, lk_78 hLG, lr_78_5 hLG, lk_83 hLG, ln_83 hLG, lr_78_6 hLG, lk_84 hLG, ln_84 hLG, lr_78_7 hLG, lk_85 hLG, ln_85 hLG, lr_78_8 hLG, lk_86 hLG, ln_86 hLG, lk_100 hLG, lr_100_5 hLG, lk_104 hLG, ln_104 hLG, t6, tkc, c85, c86]
      repeat (with_reducible refine And.intro ?_ ?_; · first | omega | (simp only [z32, z64]; omega))
      exact fin _
    · obtain ⟨w1, w2, w3⟩ := hwp x (by omega)
      have w1' : zA G 83 x = (wp x : Nat) := by rw [hm.2.2.2 83 x rfl]; exact w1
      rw [w1', zland_n (hp63 _ b85) (hp63 _ w2)]
      have e1 := zmT_w (n := n) (wb := wb) (e := e) (x := x) (s := h l) (wp := wp x) (by omega) w3
      have e2 : zlshl ((h l &&& wp x : Nat) : Int) 1 = (zmT n wb e x (h l) : Nat) := by
        have b2 := zmT_b (wb := wb) (s := h l) (fun c hc i hi => (hE c hc i (by omega)).2) hx
        have := zlshl_n (a := h l &&& wp x) (k := 1) (by omega) (by rw [show (2 : Nat) ^ 1 = 2 from rfl, e1]; exact hp63 _ b2)
        rw [show (2 : Nat) ^ 1 = 2 from rfl, e1] at this
        exact this
      rw [e2]
      repeat (with_reducible refine And.intro ?_ ?_; · first | omega | (simp only [z32, z64]; omega))
      exact fin _
  · intro hbd G v7 hm hc
    have hx : tk.getD i 999 = 120 := hx
    have hLG := zmd_lay hm hL0
    have hp63 : ∀ a : Nat, a < 2 ^ (n + 1) → a < 9223372036854775808 := fun a ha => zp61 (zp60 hn ha)
    have t6 : zA G 100 6 = (tk.length : Nat) := by rw [hm.2.2.2 100 6 rfl]; exact h6
    have hil : i < tk.length := by
      apply Classical.byContradiction
      intro r
      have := zgd_o (D := 999) r
      unfold zlf at *
      omega
    have tkc : zA G 104 i = (tk.getD i 999 : Nat) := by rw [hm.2.2.2 104 i rfl, htk i hil, zgd_D (D' := 999) hil]
    obtain ⟨c85, c86⟩ := hc l (Nat.le_refl _)
    obtain ⟨b85, b86⟩ := hbd l (Nat.le_refl _)
    have fin : ∀ v7 : Option zV, zEt xs L d 0 0 false 125 38 [some (zr (some 78)), some (zr (some 100)), some (zi nm), some (zi (pl : Nat)), some (zi sr), some (zi (l + 1 : Nat)), some (zi (i + 1 : Nat)), v7] [] (zwA (zwA G 85 (l + 1) (h l : Nat)) 86 (l + 1) (h l : Nat)) Q := fun v7 => hZ (fun m hm2 => by
        by_cases q : m = l + 1
        · rw [q, zuq_e, zuq_e]; exact ⟨b85, b85⟩
        · rw [zuq_n q, zuq_n q]; exact hbd m (by omega)) _ v7 (zmd_w (zmd_w hm rfl) rfl) (fun m hm2 => by
        by_cases q : m = l + 1
        · rw [q, zuq_e, zuq_e]; exact ⟨by simp [zA_wA], by simp [zA_wA]⟩
        · rw [zuq_n q, zuq_n q, zA_wA, if_neg (by omega), zA_wA, if_neg (by omega), zA_wA, if_neg (by omega), zA_wA, if_neg (by omega)]; exact hc m (by omega))
    clear hZ
    have tkc : zA G 104 i = 120 := by rw [tkc, hx]; rfl
    refine zgo_at [38] 12 ?_
    try simp -implicitDefEqProofs only [zgn_0, zgn_s, zct_0, zct_s, Nat.reduceEqDiff, Nat.reduceBEq, Nat.reduceAdd, Nat.reduceSub, Nat.reduceMul, Int.reduceAdd, Int.reduceSub, Int.reduceMul, Int.reduceNeg, Int.reduceLT, Int.reduceLE, Int.reduceEq, Nat.zero_add, true_and, and_true, false_and, and_false, true_imp_iff, false_imp_iff, not_true_eq_false, not_false_eq_true, if_true, if_false, Bool.false_eq_true, ite_true, ite_false, reduceIte, eq_self, Int.toNat_natCast, zst_0, zst_1, zst_2, zst_3, zst_4, true_or, or_true, or_false, false_or, ze_125_0, zB_125_0, ze_125_15, zB_125_15, ze_125_38, zB_125_38, ze_125_90, zB_125_90, ze_125_123, zB_125_123, ze_125_172, zB_125_172, ze_125_199, zB_125_199, ze_125_229, zB_125_229, ze_125_232, zB_125_232, ze_125_236, zB_125_236, ze_125_267, zB_125_267, ze_125_273, zB_125_273, zbr_t, zbr_f, zrun_c, zmI_s, zmL_s, zmR_s, zgt_0, zgt_s, zln_0, zln_s, zs1_0, zs1_1i, zs1_1r, zs1_1n, zs1_1l, zs1_s, zs2_0, zs2_1i, zs2_1r, zs2_1n, zs2_1l, zs2_s, zcn_eq, zcn_ne, zcn_lt, zcn_ge, zcn_gt, zcn_le, zpu_0, zpu_1, zpu_2, zx_iconst, zx_lconst, zx_ldc, zx_ldc2, zx_null, zx_iload, zx_lload, zx_aload, zx_istore, zx_lstore, zx_astore, zx_iinc, zx_iadd, zx_isub, zx_imul, zx_idiv, zx_irem, zx_iand, zx_ior, zx_ixor, zx_ishl, zx_ishr, zx_iushr, zx_i2b, zx_i2l, zx_l2i, zx_ladd, zx_lmul, zx_ldiv, zx_lrem, zx_land, zx_lor, zx_lshl, zx_lshr, zx_lcmp, zx_dupi, zx_dupr, zx_dup2l, zx_dup2i, zx_pop, zx_ifc, zx_icmp, zx_ifnullN, zx_ifnullS, zx_ifnonN, zx_ifnonS, zx_goto, zx_gotow, zx_switch, zx_iaload, zx_baload, zx_laload, zx_aaload, zx_iastore, zx_bastore, zx_lastore, zx_aastore, zx_alen, zx_newarray, zx_anewarray, zx_new, zx_getI, zx_getL, zx_getR, zx_putI, zx_putZ, zx_putL, zx_putR, zx_callS, zx_callV, zx_objinit, zx_cpyi, zx_cpyl, zx_mmax, zx_mmin, zx_mminl, zx_ireturn, zx_areturn, zx_lreturn, zx_return, zcs_0, zcs_1, zcv_1, zcs_2, zcv_2, zcs_3, zcv_3, zcs_4, zcv_4, zcs_5, zcv_5, zcs_6, zcv_6, zcs_7, zcv_7, Int.reduceToNat, Nat.reduceDiv, Nat.reduceMod, zJ, zC, zK_wA, zN_wA, zR_wA, zS_wA, zA_wA, zK_wR, zN_wR, zR_wR, zS_wR, zA_wR, zK_cp, zN_cp, zR_cp, zS_cp, zA_cp, zK_mp, zN_mp, zR_mp, zS_mp, zA_mp, zfa, zfmm, zfa_1, zfb_1, zfa_2, zfb_2, zfa_3, zfb_3, zfa_4, zfb_4, zfa_5, zfb_5, zfa_6, zfb_6, zfa_7, zfb_7, zfa_8, zfb_8, zfa_9, zfb_9, zfa_10, zfb_10, zfa_12, zfb_12, zfa_20, zfb_20, zfa_21, zfb_21, zfa_30, zfb_30, zfa_48, zfb_48, zfa_60, zfb_60, zfa_61, zfb_61, zfa_65, zfb_65, zfa_97, zfb_97, zfa_100, zfb_100, zfa_120, zfb_120, zfa_124, zfb_124, zfa_500, zfb_500, zfa_792, zfb_792, zfa_2989, zfb_2989, zfm_2, zfn_2, zfm_3, zfn_3, zfm_4, zfn_4, zfm_6, zfn_6, zfm_7, zfn_7, zfm_8, zfn_8, zfm_12, zfn_12, zfm_49, zfn_49, zfm_60, zfn_60, zfm_61, zfn_61, zfm_792, zfn_792, zfm_2989, zfn_2989, Int.zero_add, Int.add_zero, Int.zero_mul, Int.mul_zero, Int.one_mul, Int.mul_one, lk_78 hLG, lr_78_5 hLG, lk_83 hLG, ln_83 hLG, lr_78_6 hLG, lk_84 hLG, ln_84 hLG, lr_78_7 hLG, lk_85 hLG, ln_85 hLG, lr_78_8 hLG, lk_86 hLG, ln_86 hLG, lk_100 hLG, lr_100_5 hLG, lk_104 hLG, ln_104 hLG, t6, tkc, c85, c86]
    refine zbr_i (fun q => by omega) (fun q => ?_)
    repeat (with_reducible refine And.intro ?_ ?_; · first | omega | (simp only [z32, z64]; omega))
    refine zbr_i (fun q => by omega) (fun q => ?_)
    (try rw [show ((l + 1 : Nat) : Int) - 1 = (l : Nat) by omega])
    (try simp only [Int.toNat_natCast])
    repeat (with_reducible refine And.intro ?_ ?_; · first | omega | (simp only [z32, z64]; omega))
    rw [c85]
    repeat (with_reducible refine And.intro ?_ ?_; · first | omega | (simp only [z32, z64]; omega))
    exact fin _
  · intro hbd G v7 hm hc
    have hx : tk.getD i 999 = 121 := hx
    have hLG := zmd_lay hm hL0
    have hp63 : ∀ a : Nat, a < 2 ^ (n + 1) → a < 9223372036854775808 := fun a ha => zp61 (zp60 hn ha)
    have t6 : zA G 100 6 = (tk.length : Nat) := by rw [hm.2.2.2 100 6 rfl]; exact h6
    have hil : i < tk.length := by
      apply Classical.byContradiction
      intro r
      have := zgd_o (D := 999) r
      unfold zlf at *
      omega
    have tkc : zA G 104 i = (tk.getD i 999 : Nat) := by rw [hm.2.2.2 104 i rfl, htk i hil, zgd_D (D' := 999) hil]
    obtain ⟨c85, c86⟩ := hc l (Nat.le_refl _)
    obtain ⟨b85, b86⟩ := hbd l (Nat.le_refl _)
    have fin : ∀ (v7 : Option zV) (y : Nat), y = (if l = 0 then 2 ^ pl else h (l - 1)) → zEt xs L d 0 0 false 125 38 [some (zr (some 78)), some (zr (some 100)), some (zi nm), some (zi (pl : Nat)), some (zi sr), some (zi (l : Nat)), some (zi (i + 1 : Nat)), v7] [] (zwA (zwA G 86 l (dd l ||| h l : Nat)) 85 l (y : Nat)) Q := fun v7 y hy => hZ (fun m hm2 => by
        by_cases q : m = l
        · rw [q, zuq_e, zuq_e]
          refine ⟨?_, zmor b86 b85⟩
          by_cases q0 : l = 0
          · rw [if_pos q0]; exact hin
          · rw [if_neg q0]; exact (hbd (l - 1) (by omega)).1
        · rw [zuq_n q, zuq_n q]; exact hbd m (by omega)) _ v7 (zmd_w (zmd_w hm rfl) rfl) (fun m hm2 => by
        by_cases q : m = l
        · rw [q, zuq_e, zuq_e, ← hy]; exact ⟨by simp [zA_wA], by simp [zA_wA]; rfl⟩
        · rw [zuq_n q, zuq_n q, zA_wA, if_neg (by omega), zA_wA, if_neg (by omega), zA_wA, if_neg (by omega), zA_wA, if_neg (by omega)]; exact hc m (by omega))
    clear hZ
    have tkc : zA G 104 i = 121 := by rw [tkc, hx]; rfl
    refine zgo_at [38] 12 ?_
    try simp -implicitDefEqProofs only [zgn_0, zgn_s, zct_0, zct_s, Nat.reduceEqDiff, Nat.reduceBEq, Nat.reduceAdd, Nat.reduceSub, Nat.reduceMul, Int.reduceAdd, Int.reduceSub, Int.reduceMul, Int.reduceNeg, Int.reduceLT, Int.reduceLE, Int.reduceEq, Nat.zero_add, true_and, and_true, false_and, and_false, true_imp_iff, false_imp_iff, not_true_eq_false, not_false_eq_true, if_true, if_false, Bool.false_eq_true, ite_true, ite_false, reduceIte, eq_self, Int.toNat_natCast, zst_0, zst_1, zst_2, zst_3, zst_4, true_or, or_true, or_false, false_or, ze_125_0, zB_125_0, ze_125_15, zB_125_15, ze_125_38, zB_125_38, ze_125_90, zB_125_90, ze_125_123, zB_125_123, ze_125_172, zB_125_172, ze_125_199, zB_125_199, ze_125_229, zB_125_229, ze_125_232, zB_125_232, ze_125_236, zB_125_236, ze_125_267, zB_125_267, ze_125_273, zB_125_273, zbr_t, zbr_f, zrun_c, zmI_s, zmL_s, zmR_s, zgt_0, zgt_s, zln_0, zln_s, zs1_0, zs1_1i, zs1_1r, zs1_1n, zs1_1l, zs1_s, zs2_0, zs2_1i, zs2_1r, zs2_1n, zs2_1l, zs2_s, zcn_eq, zcn_ne, zcn_lt, zcn_ge, zcn_gt, zcn_le, zpu_0, zpu_1, zpu_2, zx_iconst, zx_lconst, zx_ldc, zx_ldc2, zx_null, zx_iload, zx_lload, zx_aload, zx_istore, zx_lstore, zx_astore, zx_iinc, zx_iadd, zx_isub, zx_imul, zx_idiv, zx_irem, zx_iand, zx_ior, zx_ixor, zx_ishl, zx_ishr, zx_iushr, zx_i2b, zx_i2l, zx_l2i, zx_ladd, zx_lmul, zx_ldiv, zx_lrem, zx_land, zx_lor, zx_lshl, zx_lshr, zx_lcmp, zx_dupi, zx_dupr, zx_dup2l, zx_dup2i, zx_pop, zx_ifc, zx_icmp, zx_ifnullN, zx_ifnullS, zx_ifnonN, zx_ifnonS, zx_goto, zx_gotow, zx_switch, zx_iaload, zx_baload, zx_laload, zx_aaload, zx_iastore, zx_bastore, zx_lastore, zx_aastore, zx_alen, zx_newarray, zx_anewarray, zx_new, zx_getI, zx_getL, zx_getR, zx_putI, zx_putZ, zx_putL, zx_putR, zx_callS, zx_callV, zx_objinit, zx_cpyi, zx_cpyl, zx_mmax, zx_mmin, zx_mminl, zx_ireturn, zx_areturn, zx_lreturn, zx_return, zcs_0, zcs_1, zcv_1, zcs_2, zcv_2, zcs_3, zcv_3, zcs_4, zcv_4, zcs_5, zcv_5, zcs_6, zcv_6, zcs_7, zcv_7, Int.reduceToNat, Nat.reduceDiv, Nat.reduceMod, zJ, zC, zK_wA, zN_wA, zR_wA, zS_wA, zA_wA, zK_wR, zN_wR, zR_wR, zS_wR, zA_wR, zK_cp, zN_cp, zR_cp, zS_cp, zA_cp, zK_mp, zN_mp, zR_mp, zS_mp, zA_mp, zfa, zfmm, zfa_1, zfb_1, zfa_2, zfb_2, zfa_3, zfb_3, zfa_4, zfb_4, zfa_5, zfb_5, zfa_6, zfb_6, zfa_7, zfb_7, zfa_8, zfb_8, zfa_9, zfb_9, zfa_10, zfb_10, zfa_12, zfb_12, zfa_20, zfb_20, zfa_21, zfb_21, zfa_30, zfb_30, zfa_48, zfb_48, zfa_60, zfb_60, zfa_61, zfb_61, zfa_65, zfb_65, zfa_97, zfb_97, zfa_100, zfb_100, zfa_120, zfb_120, zfa_124, zfb_124, zfa_500, zfb_500, zfa_792, zfb_792, zfa_2989, zfb_2989, zfm_2, zfn_2, zfm_3, zfn_3, zfm_4, zfn_4, zfm_6, zfn_6, zfm_7, zfn_7, zfm_8, zfn_8, zfm_12, zfn_12, zfm_49, zfn_49, zfm_60, zfn_60, zfm_61, zfn_61, zfm_792, zfn_792, zfm_2989, zfn_2989, Int.zero_add, Int.add_zero, Int.zero_mul, Int.mul_zero, Int.one_mul, Int.mul_one, lk_78 hLG, lr_78_5 hLG, lk_83 hLG, ln_83 hLG, lr_78_6 hLG, lk_84 hLG, ln_84 hLG, lr_78_7 hLG, lk_85 hLG, ln_85 hLG, lr_78_8 hLG, lk_86 hLG, ln_86 hLG, lk_100 hLG, lr_100_5 hLG, lk_104 hLG, ln_104 hLG, t6, tkc, c85, c86]
    refine zbr_i (fun q => by omega) (fun q => ?_)
    rw [zlor_n (hp63 _ b86) (hp63 _ b85)]
    repeat (with_reducible refine And.intro ?_ ?_; · first | omega | (simp only [z32, z64]; omega))
    refine zbr_i (fun q => ?_) (fun q => ?_)
    · have e0 : l = 0 := by omega
      have e2 : zlshl 1 (pl : Int) = ((2 ^ pl : Nat) : Int) := by
        have := zlshl_n (a := 1) (k := pl) (by omega) (by rw [Nat.one_mul]; exact hp63 _ hin)
        rw [Nat.one_mul] at this
        exact this
      rw [e2]
      repeat (with_reducible refine And.intro ?_ ?_; · first | omega | (simp only [z32, z64]; omega))
      exact fin _ _ (by rw [if_pos e0])
    · have e0 : l ≠ 0 := by omega
      obtain ⟨c85', _⟩ := hc (l - 1) (by omega)
      (try rw [show ((l : Nat) : Int) - 1 = (l - 1 : Nat) by omega])
      (try simp only [Int.toNat_natCast])
      repeat (with_reducible refine And.intro ?_ ?_; · first | omega | (simp only [z32, z64]; omega))
      rw [c85']
      repeat (with_reducible refine And.intro ?_ ?_; · first | omega | (simp only [z32, z64]; omega))
      exact fin _ _ (by rw [if_neg e0])
  · intro hbd G v7 hm hc
    have hx : tk.getD i 999 = 122 := hx
    have hc2 := hc l (by omega)
    generalize hl1 : l + 1 = l1 at *
    have hLG := zmd_lay hm hL0
    have hp63 : ∀ a : Nat, a < 2 ^ (n + 1) → a < 9223372036854775808 := fun a ha => zp61 (zp60 hn ha)
    have t6 : zA G 100 6 = (tk.length : Nat) := by rw [hm.2.2.2 100 6 rfl]; exact h6
    have hil : i < tk.length := by
      apply Classical.byContradiction
      intro r
      have := zgd_o (D := 999) r
      unfold zlf at *
      omega
    have tkc : zA G 104 i = (tk.getD i 999 : Nat) := by rw [hm.2.2.2 104 i rfl, htk i hil, zgd_D (D' := 999) hil]
    obtain ⟨c85, c86⟩ := hc l1 (Nat.le_refl _)
    obtain ⟨b85, b86⟩ := hbd l1 (Nat.le_refl _)
    have fin : ∀ v7 : Option zV, zEt xs L d 0 0 false 125 38 [some (zr (some 78)), some (zr (some 100)), some (zi nm), some (zi (pl : Nat)), some (zi sr), some (zi (l : Nat)), some (zi (i + 1 : Nat)), v7] [] (zwA (zwA G 86 l1 (dd l1 ||| h l1 : Nat)) 85 l (dd l1 ||| h l1 : Nat)) Q := fun v7 => hZ (fun m hm2 => by
        rw [zuq_n (show m ≠ l1 by omega)]
        by_cases q : m = l
        · rw [q, zuq_e]; exact ⟨zmor b86 b85, (hbd l (by omega)).2⟩
        · rw [zuq_n q]; exact hbd m (by omega)) _ v7 (zmd_w (zmd_w hm rfl) rfl) (fun m hm2 => by
        rw [zuq_n (show m ≠ l1 by omega)]
        by_cases q : m = l
        · rw [q, zuq_e, zA_wA, if_pos ⟨rfl, rfl⟩, zA_wA, if_neg (by omega), zA_wA, if_neg (by omega)]; exact ⟨rfl, hc2.2⟩
        · rw [zuq_n q, zA_wA, if_neg (by omega), zA_wA, if_neg (by omega), zA_wA, if_neg (by omega), zA_wA, if_neg (by omega)]; exact hc m (by omega))
    clear hZ
    have tkc : zA G 104 i = 122 := by rw [tkc, hx]; rfl
    refine zgo_at [38] 12 ?_
    try simp -implicitDefEqProofs only [zgn_0, zgn_s, zct_0, zct_s, Nat.reduceEqDiff, Nat.reduceBEq, Nat.reduceAdd, Nat.reduceSub, Nat.reduceMul, Int.reduceAdd, Int.reduceSub, Int.reduceMul, Int.reduceNeg, Int.reduceLT, Int.reduceLE, Int.reduceEq, Nat.zero_add, true_and, and_true, false_and, and_false, true_imp_iff, false_imp_iff, not_true_eq_false, not_false_eq_true, if_true, if_false, Bool.false_eq_true, ite_true, ite_false, reduceIte, eq_self, Int.toNat_natCast, zst_0, zst_1, zst_2, zst_3, zst_4, true_or, or_true, or_false, false_or, ze_125_0, zB_125_0, ze_125_15, zB_125_15, ze_125_38, zB_125_38, ze_125_90, zB_125_90, ze_125_123, zB_125_123, ze_125_172, zB_125_172, ze_125_199, zB_125_199, ze_125_229, zB_125_229, ze_125_232, zB_125_232, ze_125_236, zB_125_236, ze_125_267, zB_125_267, ze_125_273, zB_125_273, zbr_t, zbr_f, zrun_c, zmI_s, zmL_s, zmR_s, zgt_0, zgt_s, zln_0, zln_s, zs1_0, zs1_1i, zs1_1r, zs1_1n, zs1_1l, zs1_s, zs2_0, zs2_1i, zs2_1r, zs2_1n, zs2_1l, zs2_s, zcn_eq, zcn_ne, zcn_lt, zcn_ge, zcn_gt, zcn_le, zpu_0, zpu_1, zpu_2, zx_iconst, zx_lconst, zx_ldc, zx_ldc2, zx_null, zx_iload, zx_lload, zx_aload, zx_istore, zx_lstore, zx_astore, zx_iinc, zx_iadd, zx_isub, zx_imul, zx_idiv, zx_irem, zx_iand, zx_ior, zx_ixor, zx_ishl, zx_ishr, zx_iushr, zx_i2b, zx_i2l, zx_l2i, zx_ladd, zx_lmul, zx_ldiv, zx_lrem, zx_land, zx_lor, zx_lshl, zx_lshr, zx_lcmp, zx_dupi, zx_dupr, zx_dup2l, zx_dup2i, zx_pop, zx_ifc, zx_icmp, zx_ifnullN, zx_ifnullS, zx_ifnonN, zx_ifnonS, zx_goto, zx_gotow, zx_switch, zx_iaload, zx_baload, zx_laload, zx_aaload, zx_iastore, zx_bastore, zx_lastore, zx_aastore, zx_alen, zx_newarray, zx_anewarray, zx_new, zx_getI, zx_getL, zx_getR, zx_putI, zx_putZ, zx_putL, zx_putR, zx_callS, zx_callV, zx_objinit, zx_cpyi, zx_cpyl, zx_mmax, zx_mmin, zx_mminl, zx_ireturn, zx_areturn, zx_lreturn, zx_return, zcs_0, zcs_1, zcv_1, zcs_2, zcv_2, zcs_3, zcv_3, zcs_4, zcv_4, zcs_5, zcv_5, zcs_6, zcv_6, zcs_7, zcv_7, Int.reduceToNat, Nat.reduceDiv, Nat.reduceMod, zJ, zC, zK_wA, zN_wA, zR_wA, zS_wA, zA_wA, zK_wR, zN_wR, zR_wR, zS_wR, zA_wR, zK_cp, zN_cp, zR_cp, zS_cp, zA_cp, zK_mp, zN_mp, zR_mp, zS_mp, zA_mp, zfa, zfmm, zfa_1, zfb_1, zfa_2, zfb_2, zfa_3, zfb_3, zfa_4, zfb_4, zfa_5, zfb_5, zfa_6, zfb_6, zfa_7, zfb_7, zfa_8, zfb_8, zfa_9, zfb_9, zfa_10, zfb_10, zfa_12, zfb_12, zfa_20, zfb_20, zfa_21, zfb_21, zfa_30, zfb_30, zfa_48, zfb_48, zfa_60, zfb_60, zfa_61, zfb_61, zfa_65, zfb_65, zfa_97, zfb_97, zfa_100, zfb_100, zfa_120, zfb_120, zfa_124, zfb_124, zfa_500, zfb_500, zfa_792, zfb_792, zfa_2989, zfb_2989, zfm_2, zfn_2, zfm_3, zfn_3, zfm_4, zfn_4, zfm_6, zfn_6, zfm_7, zfn_7, zfm_8, zfn_8, zfm_12, zfn_12, zfm_49, zfn_49, zfm_60, zfn_60, zfm_61, zfn_61, zfm_792, zfn_792, zfm_2989, zfn_2989, Int.zero_add, Int.add_zero, Int.zero_mul, Int.mul_zero, Int.one_mul, Int.mul_one, lk_78 hLG, lr_78_5 hLG, lk_83 hLG, ln_83 hLG, lr_78_6 hLG, lk_84 hLG, ln_84 hLG, lr_78_7 hLG, lk_85 hLG, ln_85 hLG, lr_78_8 hLG, lk_86 hLG, ln_86 hLG, lk_100 hLG, lr_100_5 hLG, lk_104 hLG, ln_104 hLG, t6, tkc, c85, c86]
    refine zbr_i (fun q => by omega) (fun q => ?_)
    rw [zlor_n (hp63 _ b86) (hp63 _ b85)]
    repeat (with_reducible refine And.intro ?_ ?_; · first | omega | (simp only [z32, z64]; omega))
    refine zbr_i (fun q => by omega) (fun q => ?_)
    have e5 : (l1 : Int) + -1 = (l : Nat) := by omega
    (try simp only [e5, Int.toNat_natCast])
    have e6 : (l : Int) + 1 = (l1 : Nat) := by omega
    (try simp only [e6, Int.toNat_natCast])
    repeat (with_reducible refine And.intro ?_ ?_; · first | omega | (simp only [z32, z64]; omega))
    first
      | trivial
      | exact fin _
      | (rw [if_pos (by omega)]; exact fin _)
