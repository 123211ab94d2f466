set_option maxRecDepth 100000 in
theorem zc_endsFrom94 {xs : Nat → Int} {L d : Nat} {Q : zQ} {H0 : zH} {n pl nm wc : Nat} {rs : Int} {tk u v : List Nat} {rows : List (List (zIt 4))} {wp : Nat → Nat} {wb : Nat → Nat → Bool} {e : Nat → Nat → Nat} (hd : 1 ≤ d) (hL0 : zLay H0) (hn : n ≤ 60) (hpl : pl ≤ n) (hnm : nm < 8) (h6 : zA H0 94 6 = (tk.length : Nat)) (hlen : tk.length ≤ 400) (htk : ∀ i : Nat, i < tk.length → zA H0 98 i = (tk.getD i 0 : Nat)) (hwp : ∀ x : Nat, x < 120 → zA H0 83 x = (wp x : Nat) ∧ wp x < 2 ^ (n + 1) ∧ ∀ p : Nat, (wp x).testBit p = (decide (p < n) && wb x p)) (hE : ∀ c : Nat, c < 8 → ∀ i : Nat, i < 61 → zA H0 84 (c * 61 + i) = (e c i : Nat) ∧ e c i < 2 ^ (n + 1)) (hrs : zA H0 99 nm = rs) (hru : 0 ≤ rs → tk = u ++ (zfRs (zfI 4) rows ++ [123]) ++ v ∧ rs = (u.length : Nat) ∧ zokRs (zokI (zlfP wc nm) 4) rows)
  (h0 : rs < 0 → Q 0 H0) (h1 : 0 ≤ rs → ∀ G : zH, zmd (zin [85, 86] []) H0 G → Q (zsRs zmJ (zsI (zmT n wb e) zmJ 4) rows (2 ^ pl) 0 : Nat) G) : zEm xs L d 0 0 125 [zr (some 78), zr (some 94), zi nm, zi pl] H0 Q := by
  have hin : 2 ^ pl < 2 ^ (n + 1) := Nat.pow_lt_pow_right (by omega) (by omega)
  refine zem_125 (zgo_at [38] 4 ?_)
  try simp -implicitDefEqProofs only [zgn_0, zgn_s, zct_0, zct_s, Nat.reduceEqDiff, Nat.reduceBEq, Nat.reduceAdd, Nat.reduceSub, Nat.reduceMul, Int.reduceAdd, Int.reduceSub, Int.reduceMul, Int.reduceNeg, Int.reduceLT, Int.reduceLE, Int.reduceEq, Nat.zero_add, true_and, and_true, false_and, and_false, true_imp_iff, false_imp_iff, not_true_eq_false, not_false_eq_true, if_true, if_false, Bool.false_eq_true, ite_true, ite_false, reduceIte, eq_self, Int.toNat_natCast, zst_0, zst_1, zst_2, zst_3, zst_4, true_or, or_true, or_false, false_or, ze_125_0, zB_125_0, ze_125_15, zB_125_15, ze_125_38, zB_125_38, ze_125_90, zB_125_90, ze_125_123, zB_125_123, ze_125_172, zB_125_172, ze_125_199, zB_125_199, ze_125_229, zB_125_229, ze_125_232, zB_125_232, ze_125_236, zB_125_236, ze_125_267, zB_125_267, ze_125_273, zB_125_273, zbr_t, zbr_f, zrun_c, zmI_s, zmL_s, zmR_s, zgt_0, zgt_s, zln_0, zln_s, zs1_0, zs1_1i, zs1_1r, zs1_1n, zs1_1l, zs1_s, zs2_0, zs2_1i, zs2_1r, zs2_1n, zs2_1l, zs2_s, zcn_eq, zcn_ne, zcn_lt, zcn_ge, zcn_gt, zcn_le, zpu_0, zpu_1, zpu_2, zx_iconst, zx_lconst, zx_ldc, zx_ldc2, zx_null, zx_iload, zx_lload, zx_aload, zx_istore, zx_lstore, zx_astore, zx_iinc, zx_iadd, zx_isub, zx_imul, zx_idiv, zx_irem, zx_iand, zx_ior, zx_ixor, zx_ishl, zx_ishr, zx_iushr, zx_i2b, zx_i2l, zx_l2i, zx_ladd, zx_lmul, zx_ldiv, zx_lrem, zx_land, zx_lor, zx_lshl, zx_lshr, zx_lcmp, zx_dupi, zx_dupr, zx_dup2l, zx_dup2i, zx_pop, zx_ifc, zx_icmp, zx_ifnullN, zx_ifnullS, zx_ifnonN, zx_ifnonS, zx_goto, zx_gotow, zx_switch, zx_iaload, zx_baload, zx_laload, zx_aaload, zx_iastore, zx_bastore, zx_lastore, zx_aastore, zx_alen, zx_newarray, zx_anewarray, zx_new, zx_getI, zx_getL, zx_getR, zx_putI, zx_putZ, zx_putL, zx_putR, zx_callS, zx_callV, zx_objinit, zx_cpyi, zx_cpyl, zx_mmax, zx_mmin, zx_mminl, zx_ireturn, zx_areturn, zx_lreturn, zx_return, zcs_0, zcs_1, zcv_1, zcs_2, zcv_2, zcs_3, zcv_3, zcs_4, zcv_4, zcs_5, zcv_5, zcs_6, zcv_6, zcs_7, zcv_7, Int.reduceToNat, Nat.reduceDiv, Nat.reduceMod, zJ, zC, zK_wA, zN_wA, zR_wA, zS_wA, zA_wA, zK_wR, zN_wR, zR_wR, zS_wR, zA_wR, zK_cp, zN_cp, zR_cp, zS_cp, zA_cp, zK_mp, zN_mp, zR_mp, zS_mp, zA_mp, zfa, zfmm, zfa_1, zfb_1, zfa_2, zfb_2, zfa_3, zfb_3, zfa_4, zfb_4, zfa_5, zfb_5, zfa_6, zfb_6, zfa_7, zfb_7, zfa_8, zfb_8, zfa_9, zfb_9, zfa_10, zfb_10, zfa_12, zfb_12, zfa_20, zfb_20, zfa_21, zfb_21, zfa_30, zfb_30, zfa_48, zfb_48, zfa_60, zfb_60, zfa_61, zfb_61, zfa_65, zfb_65, zfa_97, zfb_97, zfa_100, zfb_100, zfa_120, zfb_120, zfa_124, zfb_124, zfa_500, zfb_500, zfa_792, zfb_792, zfa_2989, zfb_2989, zfm_2, zfn_2, zfm_3, zfn_3, zfm_4, zfn_4, zfm_6, zfn_6, zfm_7, zfn_7, zfm_8, zfn_8, zfm_12, zfn_12, zfm_49, zfn_49, zfm_60, zfn_60, zfm_61, zfn_61, zfm_792, zfn_792, zfm_2989, zfn_2989, Int.zero_add, Int.add_zero, Int.zero_mul, Int.mul_zero, Int.one_mul, Int.mul_one, lk_94 hL0, lr_94_7 hL0, lk_99 hL0, ln_99 hL0, lk_78 hL0, lr_78_7 hL0, lk_85 hL0, ln_85 hL0, lr_78_8 hL0, lk_86 hL0, ln_86 hL0, hrs]
  repeat (with_reducible refine And.intro ?_ ?_; · first | omega | (simp only [z32, z64]; omega))
  refine zbr_i (fun q => ?_) (fun q => ?_)
  · obtain ⟨e1, e2, e3⟩ := hru q
    have e4 : zlshl 1 (pl : Int) = ((2 ^ pl : Nat) : Int) := by
      have := zlshl_n (a := 1) (k := pl) (by omega) (by rw [Nat.one_mul]; exact zp61 (zp60 hn hin))
      rw [Nat.one_mul] at this
      exact this
    rw [e4]
    repeat (with_reducible refine And.intro ?_ ?_; · first | omega | (simp only [z32, z64]; omega))
    have hS := zef94_s (xs := xs) (L := L) (Q := Q) (pl := pl) (nm := (nm : Nat)) (sr := rs) hd hL0 hn hpl h6 hlen htk hwp hE
    have ha := zat_l (D := 999) (zfRs (zfI 4) rows ++ [123]) u v
    rw [← e1, zat_app] at ha
    have hZ := zMrs hS (L := 0) (by omega) (zMit (P := zlfP wc nm) (fun x hx => by unfold zlfP at hx; unfold zlf; omega) hS 4 0 (by omega)) rows e3 u.length 0 (fun _ => 2 ^ pl) (fun _ => 0) (2 ^ pl) (Nat.le_refl _) rfl (if_pos rfl) ha.1 (fun h' d' _ _ ej => ?_)
    · subst e2
      exact hZ (fun m _ => ⟨hin, Nat.two_pow_pos _⟩) _ _ (zmd_w (zmd_w (zmd_rf _ _) rfl) rfl) (fun m hm => by
        have em : m = 0 := by omega
        subst em
        exact ⟨by simp [zA_wA], by simp [zA_wA]⟩)
    · intro hbd G v7 hm hc
      have hLG := zmd_lay hm hL0
      have t6 : zA G 94 6 = (tk.length : Nat) := by rw [hm.2.2.2 94 6 rfl]; exact h6
      have ht := ha.2.1
      have ht : tk.getD (u.length + (zfRs (zfI 4) rows).length) 999 = 123 := ht
      generalize hj : u.length + (zfRs (zfI 4) rows).length = j at *
      have hil : j < tk.length := by
        apply Classical.byContradiction
        intro r
        have := zgd_o (D := 999) r
        omega
      have tkc : zA G 98 j = 123 := by rw [hm.2.2.2 98 j rfl, htk j hil, zgd_D (D' := 999) hil, ht]; rfl
      obtain ⟨c85, c86⟩ := hc 0 (Nat.le_refl _)
      obtain ⟨b85, b86⟩ := hbd 0 (Nat.le_refl _)
      refine zgo_at [38] 12 ?_
      try simp -implicitDefEqProofs only [zgn_0, zgn_s, zct_0, zct_s, Nat.reduceEqDiff, Nat.reduceBEq, Nat.reduceAdd, Nat.reduceSub, Nat.reduceMul, Int.reduceAdd, Int.reduceSub, Int.reduceMul, Int.reduceNeg, Int.reduceLT, Int.reduceLE, Int.reduceEq, Nat.zero_add, true_and, and_true, false_and, and_false, true_imp_iff, false_imp_iff, not_true_eq_false, not_false_eq_true, if_true, if_false, Bool.false_eq_true, ite_true, ite_false, reduceIte, eq_self, Int.toNat_natCast, zst_0, zst_1, zst_2, zst_3, zst_4, true_or, or_true, or_false, false_or, ze_125_0, zB_125_0, ze_125_15, zB_125_15, ze_125_38, zB_125_38, ze_125_90, zB_125_90, ze_125_123, zB_125_123, ze_125_172, zB_125_172, ze_125_199, zB_125_199, ze_125_229, zB_125_229, ze_125_232, zB_125_232, ze_125_236, zB_125_236, ze_125_267, zB_125_267, ze_125_273, zB_125_273, zbr_t, zbr_f, zrun_c, zmI_s, zmL_s, zmR_s, zgt_0, zgt_s, zln_0, zln_s, zs1_0, zs1_1i, zs1_1r, zs1_1n, zs1_1l, zs1_s, zs2_0, zs2_1i, zs2_1r, zs2_1n, zs2_1l, zs2_s, zcn_eq, zcn_ne, zcn_lt, zcn_ge, zcn_gt, zcn_le, zpu_0, zpu_1, zpu_2, zx_iconst, zx_lconst, zx_ldc, zx_ldc2, zx_null, zx_iload, zx_lload, zx_aload, zx_istore, zx_lstore, zx_astore, zx_iinc, zx_iadd, zx_isub, zx_imul, zx_idiv, zx_irem, zx_iand, zx_ior, zx_ixor, zx_ishl, zx_ishr, zx_iushr, zx_i2b, zx_i2l, zx_l2i, zx_ladd, zx_lmul, zx_ldiv, zx_lrem, zx_land, zx_lor, zx_lshl, zx_lshr, zx_lcmp, zx_dupi, zx_dupr, zx_dup2l, zx_dup2i, zx_pop, zx_ifc, zx_icmp, zx_ifnullN, zx_ifnullS, zx_ifnonN, zx_ifnonS, zx_goto, zx_gotow, zx_switch, zx_iaload, zx_baload, zx_laload, zx_aaload, zx_iastore, zx_bastore, zx_lastore, zx_aastore, zx_alen, zx_newarray, zx_anewarray, zx_new, zx_getI, zx_getL, zx_getR, zx_putI, zx_putZ, zx_putL, zx_putR, zx_callS, zx_callV, zx_objinit, zx_cpyi, zx_cpyl, zx_mmax, zx_mmin, zx_mminl, zx_ireturn, zx_areturn, zx_lreturn, zx_return, zcs_0, zcs_1, zcv_1, zcs_2, zcv_2, zcs_3, zcv_3, zcs_4, zcv_4, zcs_5, zcv_5, zcs_6, zcv_6, zcs_7, zcv_7, Int.reduceToNat, Nat.reduceDiv, Nat.reduceMod, zJ, zC, zK_wA, zN_wA, zR_wA, zS_wA, zA_wA, zK_wR, zN_wR, zR_wR, zS_wR, zA_wR, zK_cp, zN_cp, zR_cp, zS_cp, zA_cp, zK_mp, zN_mp, zR_mp, zS_mp, zA_mp, zfa, zfmm, zfa_1, zfb_1, zfa_2, zfb_2, zfa_3, zfb_3, zfa_4, zfb_4, zfa_5, zfb_5, zfa_6, zfb_6, zfa_7, zfb_7, zfa_8, zfb_8, zfa_9, zfb_9, zfa_10, zfb_10, zfa_12, zfb_12, zfa_20, zfb_20, zfa_21, zfb_21, zfa_30, zfb_30, zfa_48, zfb_48, zfa_60, zfb_60, zfa_61, zfb_61, zfa_65, zfb_65, zfa_97, zfb_97, zfa_100, zfb_100, zfa_120, zfb_120, zfa_124, zfb_124, zfa_500, zfb_500, zfa_792, zfb_792, zfa_2989, zfb_2989, zfm_2, zfn_2, zfm_3, zfn_3, zfm_4, zfn_4, zfm_6, zfn_6, zfm_7, zfn_7, zfm_8, zfn_8, zfm_12, zfn_12, zfm_49, zfn_49, zfm_60, zfn_60, zfm_61, zfn_61, zfm_792, zfn_792, zfm_2989, zfn_2989, Int.zero_add, Int.add_zero, Int.zero_mul, Int.mul_zero, Int.one_mul, Int.mul_one, lk_78 hLG, lr_78_5 hLG, lk_83 hLG, ln_83 hLG, lr_78_6 hLG, lk_84 hLG, ln_84 hLG, lr_78_7 hLG, lk_85 hLG, ln_85 hLG, lr_78_8 hLG, lk_86 hLG, ln_86 hLG, lk_94 hLG, lr_94_5 hLG, lk_98 hLG, ln_98 hLG, t6, tkc, c85, c86]
      refine zbr_i (fun qq => by omega) (fun qq => ?_)
      repeat (with_reducible refine And.intro ?_ ?_; · first | omega | (simp only [z32, z64]; omega))
      rw [zlor_n (zp61 (zp60 hn b86)) (zp61 (zp60 hn b85))]
      have fin := h1 q (zwA G 86 0 (d' 0 ||| h' 0 : Nat)) (zmd_w hm rfl)
      rw [← ej] at fin
      repeat (with_reducible refine And.intro ?_ ?_; · first | omega | (simp only [z32, z64]; omega))
      first | exact fin | (simp only [zx_lreturn]; exact fin)
  · have fin := h0 (by omega)
    first | exact fin | (simp only [zx_lreturn]; exact fin)
set_option maxRecDepth 100000 in
theorem zc_endsFrom100 {xs : Nat → Int} {L d : Nat} {Q : zQ} {H0 : zH} {n pl nm wc : Nat} {rs : Int} {tk u v : List Nat} {rows : List (List (zIt 4))} {wp : Nat → Nat} {wb : Nat → Nat → Bool} {e : Nat → Nat → Nat} (hd : 1 ≤ d) (hL0 : zLay H0) (hn : n ≤ 60) (hpl : pl ≤ n) (hnm : nm < 8) (h6 : zA H0 100 6 = (tk.length : Nat)) (hlen : tk.length ≤ 400) (htk : ∀ i : Nat, i < tk.length → zA H0 104 i = (tk.getD i 0 : Nat)) (hwp : ∀ x : Nat, x < 120 → zA H0 83 x = (wp x : Nat) ∧ wp x < 2 ^ (n + 1) ∧ ∀ p : Nat, (wp x).testBit p = (decide (p < n) && wb x p)) (hE : ∀ c : Nat, c < 8 → ∀ i : Nat, i < 61 → zA H0 84 (c * 61 + i) = (e c i : Nat) ∧ e c i < 2 ^ (n + 1)) (hrs : zA H0 105 nm = rs) (hru : 0 ≤ rs → tk = u ++ (zfRs (zfI 4) rows ++ [123]) ++ v ∧ rs = (u.length : Nat) ∧ zokRs (zokI (zlfP wc nm) 4) rows)
  (h0 : rs < 0 → Q 0 H0) (h1 : 0 ≤ rs → ∀ G : zH, zmd (zin [85, 86] []) H0 G → Q (zsRs zmJ (zsI (zmT n wb e) zmJ 4) rows (2 ^ pl) 0 : Nat) G) : zEm xs L d 0 0 125 [zr (some 78), zr (some 100), zi nm, zi pl] H0 Q := by
  have hin : 2 ^ pl < 2 ^ (n + 1) := Nat.pow_lt_pow_right (by omega) (by omega)
  refine zem_125 (zgo_at [38] 4 ?_)
  try simp -implicitDefEqProofs only [zgn_0, zgn_s, zct_0, zct_s, Nat.reduceEqDiff, Nat.reduceBEq, Nat.reduceAdd, Nat.reduceSub, Nat.reduceMul, Int.reduceAdd, Int.reduceSub, Int.reduceMul, Int.reduceNeg, Int.reduceLT, Int.reduceLE, Int.reduceEq, Nat.zero_add, true_and, and_true, false_and, and_false, true_imp_iff, false_imp_iff, not_true_eq_false, not_false_eq_true, if_true, if_false, Bool.false_eq_true, ite_true, ite_false, reduceIte, eq_self, Int.toNat_natCast, zst_0, zst_1, zst_2, zst_3, zst_4, true_or, or_true, or_false, false_or, ze_125_0, zB_125_0, ze_125_15, zB_125_15, ze_125_38, zB_125_38, ze_125_90, zB_125_90, ze_125_123, zB_125_123, ze_125_172, zB_125_172, ze_125_199, zB_125_199, ze_125_229, zB_125_229, ze_125_232, zB_125_232, ze_125_236, zB_125_236, ze_125_267, zB_125_267, ze_125_273, zB_125_273, zbr_t, zbr_f, zrun_c, zmI_s, zmL_s, zmR_s, zgt_0, zgt_s, zln_0, zln_s, zs1_0, zs1_1i, zs1_1r, zs1_1n, zs1_1l, zs1_s, zs2_0, zs2_1i, zs2_1r, zs2_1n, zs2_1l, zs2_s, zcn_eq, zcn_ne, zcn_lt, zcn_ge, zcn_gt, zcn_le, zpu_0, zpu_1, zpu_2, zx_iconst, zx_lconst, zx_ldc, zx_ldc2, zx_null, zx_iload, zx_lload, zx_aload, zx_istore, zx_lstore, zx_astore, zx_iinc, zx_iadd, zx_isub, zx_imul, zx_idiv, zx_irem, zx_iand, zx_ior, zx_ixor, zx_ishl, zx_ishr, zx_iushr, zx_i2b, zx_i2l, zx_l2i, zx_ladd, zx_lmul, zx_ldiv, zx_lrem, zx_land, zx_lor, zx_lshl, zx_lshr, zx_lcmp, zx_dupi, zx_dupr, zx_dup2l, zx_dup2i, zx_pop, zx_ifc, zx_icmp, zx_ifnullN, zx_ifnullS, zx_ifnonN, zx_ifnonS, zx_goto, zx_gotow, zx_switch, zx_iaload, zx_baload, zx_laload, zx_aaload, zx_iastore, zx_bastore, zx_lastore, zx_aastore, zx_alen, zx_newarray, zx_anewarray, zx_new, zx_getI, zx_getL, zx_getR, zx_putI, zx_putZ, zx_putL, zx_putR, zx_callS, zx_callV, zx_objinit, zx_cpyi, zx_cpyl, zx_mmax, zx_mmin, zx_mminl, zx_ireturn, zx_areturn, zx_lreturn, zx_return, zcs_0, zcs_1, zcv_1, zcs_2, zcv_2, zcs_3, zcv_3, zcs_4, zcv_4, zcs_5, zcv_5, zcs_6, zcv_6, zcs_7, zcv_7, Int.reduceToNat, Nat.reduceDiv, Nat.reduceMod, zJ, zC, zK_wA, zN_wA, zR_wA, zS_wA, zA_wA, zK_wR, zN_wR, zR_wR, zS_wR, zA_wR, zK_cp, zN_cp, zR_cp, zS_cp, zA_cp, zK_mp, zN_mp, zR_mp, zS_mp, zA_mp, zfa, zfmm, zfa_1, zfb_1, zfa_2, zfb_2, zfa_3, zfb_3, zfa_4, zfb_4, zfa_5, zfb_5, zfa_6, zfb_6, zfa_7, zfb_7, zfa_8, zfb_8, zfa_9, zfb_9, zfa_10, zfb_10, zfa_12, zfb_12, zfa_20, zfb_20, zfa_21, zfb_21, zfa_30, zfb_30, zfa_48, zfb_48, zfa_60, zfb_60, zfa_61, zfb_61, zfa_65, zfb_65, zfa_97, zfb_97, zfa_100, zfb_100, zfa_120, zfb_120, zfa_124, zfb_124, zfa_500, zfb_500, zfa_792, zfb_792, zfa_2989, zfb_2989, zfm_2, zfn_2, zfm_3, zfn_3, zfm_4, zfn_4, zfm_6, zfn_6, zfm_7, zfn_7, zfm_8, zfn_8, zfm_12, zfn_12, zfm_49, zfn_49, zfm_60, zfn_60, zfm_61, zfn_61, zfm_792, zfn_792, zfm_2989, zfn_2989, Int.zero_add, Int.add_zero, Int.zero_mul, Int.mul_zero, Int.one_mul, Int.mul_one, lk_100 hL0, lr_100_7 hL0, lk_105 hL0, ln_105 hL0, lk_78 hL0, lr_78_7 hL0, lk_85 hL0, ln_85 hL0, lr_78_8 hL0, lk_86 hL0, ln_86 hL0, hrs]
  repeat (with_reducible refine And.intro ?_ ?_; · first | omega | (simp only [z32, z64]; omega))
  refine zbr_i (fun q => ?_) (fun q => ?_)
  · obtain ⟨e1, e2, e3⟩ := hru q
    have e4 : zlshl 1 (pl : Int) = ((2 ^ pl : Nat) : Int) := by
      have := zlshl_n (a := 1) (k := pl) (by omega) (by rw [Nat.one_mul]; exact zp61 (zp60 hn hin))
      rw [Nat.one_mul] at this
      exact this
    rw [e4]
    repeat (with_reducible refine And.intro ?_ ?_; · first | omega | (simp only [z32, z64]; omega))
    have hS := zef100_s (xs := xs) (L := L) (Q := Q) (pl := pl) (nm := (nm : Nat)) (sr := rs) hd hL0 hn hpl h6 hlen htk hwp hE
    have ha := zat_l (D := 999) (zfRs (zfI 4) rows ++ [123]) u v
    rw [← e1, zat_app] at ha
    have hZ := zMrs hS (L := 0) (by omega) (zMit (P := zlfP wc nm) (fun x hx => by unfold zlfP at hx; unfold zlf; omega) hS 4 0 (by omega)) rows e3 u.length 0 (fun _ => 2 ^ pl) (fun _ => 0) (2 ^ pl) (Nat.le_refl _) rfl (if_pos rfl) ha.1 (fun h' d' _ _ ej => ?_)
    · subst e2
      exact hZ (fun m _ => ⟨hin, Nat.two_pow_pos _⟩) _ _ (zmd_w (zmd_w (zmd_rf _ _) rfl) rfl) (fun m hm => by
        have em : m = 0 := by omega
        subst em
        exact ⟨by simp [zA_wA], by simp [zA_wA]⟩)
    · intro hbd G v7 hm hc
      have hLG := zmd_lay hm hL0
      have t6 : zA G 100 6 = (tk.length : Nat) := by rw [hm.2.2.2 100 6 rfl]; exact h6
      have ht := ha.2.1
      have ht : tk.getD (u.length + (zfRs (zfI 4) rows).length) 999 = 123 := ht
      generalize hj : u.length + (zfRs (zfI 4) rows).length = j at *
      have hil : j < tk.length := by
        apply Classical.byContradiction
        intro r
        have := zgd_o (D := 999) r
        omega
      have tkc : zA G 104 j = 123 := by rw [hm.2.2.2 104 j rfl, htk j hil, zgd_D (D' := 999) hil, ht]; rfl
      obtain ⟨c85, c86⟩ := hc 0 (Nat.le_refl _)
      obtain ⟨b85, b86⟩ := hbd 0 (Nat.le_refl _)
      refine zgo_at [38] 12 ?_
      try simp -implicitDefEqProofs only [zgn_0, zgn_s, zct_0, zct_s, Nat.reduceEqDiff, Nat.reduceBEq, Nat.reduceAdd, Nat.reduceSub, Nat.reduceMul, Int.reduceAdd, Int.reduceSub, Int.reduceMul, Int.reduceNeg, Int.reduceLT, Int.reduceLE, Int.reduceEq, Nat.zero_add, true_and, and_true, false_and, and_false, true_imp_iff, false_imp_iff, not_true_eq_false, not_false_eq_true, if_true, if_false, Bool.false_eq_true, ite_true, ite_false, reduceIte, eq_self, Int.toNat_natCast, zst_0, zst_1, zst_2, zst_3, zst_4, true_or, or_true, or_false, false_or, ze_125_0, zB_125_0, ze_125_15, zB_125_15, ze_125_38, zB_125_38, ze_125_90, zB_125_90, ze_125_123, zB_125_123, ze_125_172, zB_125_172, ze_125_199, zB_125_199, ze_125_229, zB_125_229, ze_125_232, zB_125_232, ze_125_236, zB_125_236, ze_125_267, zB_125_267, ze_125_273, zB_125_273, zbr_t, zbr_f, zrun_c, zmI_s, zmL_s, zmR_s, zgt_0, zgt_s, zln_0, zln_s, zs1_0, zs1_1i, zs1_1r, zs1_1n, zs1_1l, zs1_s, zs2_0, zs2_1i, zs2_1r, zs2_1n, zs2_1l, zs2_s, zcn_eq, zcn_ne, zcn_lt, zcn_ge, zcn_gt, zcn_le, zpu_0, zpu_1, zpu_2, zx_iconst, zx_lconst, zx_ldc, zx_ldc2, zx_null, zx_iload, zx_lload, zx_aload, zx_istore, zx_lstore, zx_astore, zx_iinc, zx_iadd, zx_isub, zx_imul, zx_idiv, zx_irem, zx_iand, zx_ior, zx_ixor, zx_ishl, zx_ishr, zx_iushr, zx_i2b, zx_i2l, zx_l2i, zx_ladd, zx_lmul, zx_ldiv, zx_lrem, zx_land, zx_lor, zx_lshl, zx_lshr, zx_lcmp, zx_dupi, zx_dupr, zx_dup2l, zx_dup2i, zx_pop, zx_ifc, zx_icmp, zx_ifnullN, zx_ifnullS, zx_ifnonN, zx_ifnonS, zx_goto, zx_gotow, zx_switch, zx_iaload, zx_baload, zx_laload, zx_aaload, zx_iastore, zx_bastore, zx_lastore, zx_aastore, zx_alen, zx_newarray, zx_anewarray, zx_new, zx_getI, zx_getL, zx_getR, zx_putI, zx_putZ, zx_putL, zx_putR, zx_callS, zx_callV, zx_objinit, zx_cpyi, zx_cpyl, zx_mmax, zx_mmin, zx_mminl, zx_ireturn, zx_areturn, zx_lreturn, zx_return, zcs_0, zcs_1, zcv_1, zcs_2, zcv_2, zcs_3, zcv_3, zcs_4, zcv_4, zcs_5, zcv_5, zcs_6, zcv_6, zcs_7, zcv_7, Int.reduceToNat, Nat.reduceDiv, Nat.reduceMod, zJ, zC, zK_wA, zN_wA, zR_wA, zS_wA, zA_wA, zK_wR, zN_wR, zR_wR, zS_wR, zA_wR, zK_cp, zN_cp, zR_cp, zS_cp, zA_cp, zK_mp, zN_mp, zR_mp, zS_mp, zA_mp, zfa, zfmm, zfa_1, zfb_1, zfa_2, zfb_2, zfa_3, zfb_3, zfa_4, zfb_4, zfa_5, zfb_5, zfa_6, zfb_6, zfa_7, zfb_7, zfa_8, zfb_8, zfa_9, zfb_9, zfa_10, zfb_10, zfa_12, zfb_12, zfa_20, zfb_20, zfa_21, zfb_21, zfa_30, zfb_30, zfa_48, zfb_48, zfa_60, zfb_60, zfa_61, zfb_61, zfa_65, zfb_65, zfa_97, zfb_97, zfa_100, zfb_100, zfa_120, zfb_120, zfa_124, zfb_124, zfa_500, zfb_500, zfa_792, zfb_792, zfa_2989, zfb_2989, zfm_2, zfn_2, zfm_3, zfn_3, zfm_4, zfn_4, zfm_6, zfn_6, zfm_7, zfn_7, zfm_8, zfn_8, zfm_12, zfn_12, zfm_49, zfn_49, zfm_60, zfn_60, zfm_61, zfn_61, zfm_792, zfn_792, zfm_2989, zfn_2989, Int.zero_add, Int.add_zero, Int.zero_mul, Int.mul_zero, Int.one_mul, Int.mul_one, lk_78 hLG, lr_78_5 hLG, lk_83 hLG, ln_83 hLG, lr_78_6 hLG, lk_84 hLG, ln_84 hLG, lr_78_7 hLG, lk_85 hLG, ln_85 hLG, lr_78_8 hLG, lk_86 hLG, ln_86 hLG, lk_100 hLG, lr_100_5 hLG, lk_104 hLG, ln_104 hLG, t6, tkc, c85, c86]
      refine zbr_i (fun qq => by omega) (fun qq => ?_)
      repeat (with_reducible refine And.intro ?_ ?_; · first | omega | (simp only [z32, z64]; omega))
      rw [zlor_n (zp61 (zp60 hn b86)) (zp61 (zp60 hn b85))]
      have fin := h1 q (zwA G 86 0 (d' 0 ||| h' 0 : Nat)) (zmd_w hm rfl)
      rw [← ej] at fin
      repeat (with_reducible refine And.intro ?_ ?_; · first | omega | (simp only [z32, z64]; omega))
      first | exact fin | (simp only [zx_lreturn]; exact fin)
  · have fin := h0 (by omega)
    first | exact fin | (simp only [zx_lreturn]; exact fin)
