set_option maxRecDepth 100000 in
theorem zj_136 {J : zJt} {C : zCt} {sc : Bool} {xs : Nat → Int} {L : Nat} {Q : zQ} {k : zKo} {bc bs : Nat} {ls : zLs} {st : List zV} {H : zH} (a : Nat) : zins J C sc xs L Q (.jsr 290271880) k bc bs ls (Sum.inr (Sum.inr (some a)) :: st) H = ((zac 136 H).1 ≤ bc ∧ (zac 136 H).2 ≤ bs ∧ st.length ≤ 4 ∧ zK H a = 11 ∧ C (zac 136 H).1 (zac 136 H).2 136 [Sum.inr (Sum.inr (some a))] H (fun r H' => k (bc - (zac 136 H).1) (bs - (zac 136 H).2) ls (zpu 1 r ++ st) H')) := by
  have e := zx_jsr (J := J) (C := C) (sc := sc) (xs := xs) (L := L) (Q := Q) (k := k) (bc := bc) (bs := bs) (ls := ls) (st := Sum.inr (Sum.inr (some a)) :: st) (H := H) 290271880
  rw [show (290271880 : Nat) % 512 = 136 from rfl, show zMi 136 = (11, 1, 1, (zMi 136).2.2.2) from rfl] at e
  refine Eq.trans e ?_
  show ((zac 136 H).1 ≤ bc ∧ (zac 136 H).2 ≤ bs ∧ zcal C (zac 136 H).1 (zac 136 H).2 136 1 1 11 true (k (bc - (zac 136 H).1) (bs - (zac 136 H).2) ls) (Sum.inr (Sum.inr (some a)) :: st) H) = _
  rw [zcv_1]
theorem zv_make {H H2 : zH} (hV : zIV H) (hB2 : zBy H2) (hp : yFr (zin [162, 163, 164] [(2, 3), (106, 1), (106, 82), (106, 84)]) H H2 ∧ iT H2 ∧ (zR H2 1 10 = some 165 ∧ iMk H2) ∧ iMn H2) : zIV H2 ∧ zR H2 1 10 = some 165 := by
  obtain ⟨hL, hB, viT, viC, viCd, viF, viD, viDs, viTh, viOd, viSp, viKL, viMis, viSh, viA, viDy, viLi, viNi, viFa, viFe, viLe, viWe, viMS, viMn, viMk⟩ := id hV
  have hIV9 := hV
  clear hV
  obtain ⟨hf, wiT, ⟨h10, wiMk⟩, wiMn⟩ := hp
  have fr := zfr_y hf
  exact ⟨⟨yFr_lay hf hL, hB2, wiT, tr_iC fr (fun _ => rfl) (fun _ => rfl) (fun _ => rfl) (fun _ => rfl) viC, tr_iCd fr (fun _ => rfl) (fun _ => rfl) viCd, tr_iF fr (fun _ => rfl) (fun _ => rfl) (fun _ => rfl) rfl viF, tr_iD fr (fun _ => rfl) (fun _ => rfl) viD, tr_iDs fr (fun _ => rfl) viDs, tr_iTh fr (fun _ => rfl) (fun _ => rfl) (fun _ => rfl) (fun _ => rfl) (fun _ => rfl) (fun _ => rfl) rfl rfl viTh, tr_iOd fr (fun _ => rfl) (fun _ => rfl) (fun _ => rfl) (fun _ => rfl) viOd, tr_iSp fr (fun _ => rfl) (fun _ => rfl) rfl rfl viSp, tr_iKL fr (fun _ => rfl) (fun _ => rfl) (fun _ => rfl) (fun _ => rfl) rfl rfl viKL, tr_iMis fr rfl rfl viMis, tr_iSh fr (fun _ => rfl) (fun _ => rfl) (fun _ => rfl) (fun _ => rfl) (fun _ => rfl) (fun _ => rfl) (fun _ => rfl) (fun _ => rfl) rfl rfl rfl rfl viSh, tr_iA fr (fun _ => rfl) (fun _ => rfl) rfl rfl rfl viA, tr_iDy fr (fun _ => rfl) (fun _ => rfl) (fun _ => rfl) (fun _ => rfl) (fun _ => rfl) (fun _ => rfl) rfl rfl viDy, tr_iLi fr (fun _ => rfl) (fun _ => rfl) (fun _ => rfl) (fun _ => rfl) rfl rfl viLi, tr_iNi fr (fun _ => rfl) (fun _ => rfl) (fun _ => rfl) rfl rfl viNi, tr_iFa fr rfl rfl rfl rfl viFa, tr_iFe fr rfl rfl viFe, tr_iLe fr (fun _ => rfl) (fun _ => rfl) (fun _ => rfl) (fun _ => rfl) (fun _ => rfl) rfl rfl rfl (fun _ => rfl) (fun _ => rfl) viLe, tr_iWe fr (fun _ => rfl) viWe, tr_iMS fr (fun _ => rfl) (fun _ => rfl) rfl viMS, wiMn, wiMk⟩, h10⟩
theorem zplm {xs : Nat → Int} {L d : Nat} {H : zH} {P P' : zH → Prop} (hL : zLay H) (hB : zBy H) (hk : ∀ H2 : zH, P H2 → zBy H2 → P' H2) (hp : zPmk xs L d H P) : zEm xs L d (zac 136 H).1 (zac 136 H).2 136 [zr (some 1)] H (fun r H1 => zK H1 106 = 12 ∧ zEm xs L d 0 0 296 [zr (some 106)] H1 (fun r' H2 => r' = r ∧ P' H2)) := by
  refine zEm_by hB (zEm_kp (yKp_rf H) (zEm_post (fun r H1 h hkp hb1 => ⟨?_, ?_⟩) hp))
  · have e := hkp.2 106 (by have := hL.1; omega)
    show (H1.2.1 106).1 = 12
    rw [e]
    exact lk_106 hL
  · exact zEm_by hb1 (zEm_post (fun r' H2 h2 hb2 => ⟨h2.1, hk H2 h2.2 hb2⟩) h)
set_option maxRecDepth 100000 in
theorem zw_make {xs : Nat → Int} {L d bc bs i : Nat} {H : zH} {Q : zQ} (hd : 20 ≤ d) (hi : i + 6 ≤ L) (hL3 : L ≤ 3072) (hV : zIV H) (hbud : zR H 1 10 = none → 6 ≤ bc ∧ 19335 ≤ bs) (nxt : ∀ (G : zH) (b1 b2 : Nat), zIV G ∧ zR G 1 10 = some 165 → zEt xs L d b1 b2 true 307 1537 [some (zr (some 0)), some (zr (some 1)), some (zr (some 106)), some (zi (i : Nat))] [] G Q) : zEt xs L d bc bs true 307 1014 [some (zr (some 0)), some (zr (some 1)), some (zr (some 106)), some (zi (i : Nat))] [] H Q := by
  obtain ⟨hL, hB, viT, viC, viCd, viF, viD, viDs, viTh, viOd, viSp, viKL, viMis, viSh, viA, viDy, viLi, viNi, viFa, viFe, viLe, viWe, viMS, viMn, viMk⟩ := id hV
  have hz : (zac 136 H).1 ≤ bc ∧ (zac 136 H).2 ≤ bs := by
    show (if H.2.2.2 1 10 = none then (6, 19335) else (0, 0) : Nat × Nat).1 ≤ bc ∧ (if H.2.2.2 1 10 = none then (6, 19335) else (0, 0) : Nat × Nat).2 ≤ bs
    by_cases q : H.2.2.2 1 10 = none
    · rw [if_pos q]; exact hbud q
    · rw [if_neg q]; exact ⟨Nat.zero_le _, Nat.zero_le _⟩
  refine zgo_at [1537] 8 ?_
  try simp -implicitDefEqProofs only [zgn_0, zgn_s, zct_0, zct_s, Nat.reduceEqDiff, Nat.reduceBEq, Nat.reduceAdd, Nat.reduceSub, Nat.reduceMul, Int.reduceAdd, Int.reduceSub, Int.reduceMul, Int.reduceNeg, Int.reduceLT, Int.reduceLE, Int.reduceEq, Nat.zero_add, true_and, and_true, false_and, and_false, true_imp_iff, false_imp_iff, not_true_eq_false, not_false_eq_true, if_true, if_false, Bool.false_eq_true, ite_true, ite_false, reduceIte, eq_self, Int.toNat_natCast, zst_0, zst_1, zst_2, zst_3, zst_4, true_or, or_true, or_false, false_or, ze_307_1014, zB_307_1014, zbr_t, zbr_f, zrun_c, zmI_s, zmL_s, zmR_s, zgt_0, zgt_s, zln_0, zln_s, zs1_0, zs1_1i, zs1_1r, zs1_1n, zs1_1l, zs1_s, zs2_0, zs2_1i, zs2_1r, zs2_1n, zs2_1l, zs2_s, zcn_eq, zcn_ne, zcn_lt, zcn_ge, zcn_gt, zcn_le, zpu_0, zpu_1, zpu_2, zx_iconst, zx_lconst, zx_ldc, zx_ldc2, zx_null, zx_iload, zx_lload, zx_aload, zx_istore, zx_lstore, zx_astore, zx_iinc, zx_iadd, zx_isub, zx_imul, zx_idiv, zx_irem, zx_iand, zx_ior, zx_ixor, zx_ishl, zx_ishr, zx_iushr, zx_i2b, zx_i2l, zx_l2i, zx_ladd, zx_lmul, zx_ldiv, zx_lrem, zx_land, zx_lor, zx_lshl, zx_lshr, zx_lcmp, zx_dupi, zx_dupr, zx_dup2l, zx_dup2i, zx_pop, zx_ifc, zx_icmp, zx_ifnullN, zx_ifnullS, zx_ifnonN, zx_ifnonS, zx_goto, zx_gotow, zx_switch, zx_iaload, zx_baload, zx_laload, zx_aaload, zx_iastore, zx_bastore, zx_lastore, zx_aastore, zx_alen, zx_newarray, zx_anewarray, zx_new, zx_getI, zx_getL, zx_getR, zx_putI, zx_putZ, zx_putL, zx_putR, zx_callS, zx_callV, zx_objinit, zx_cpyi, zx_cpyl, zx_mmax, zx_mmin, zx_mminl, zx_ireturn, zx_areturn, zx_lreturn, zx_return, zcs_0, zcs_1, zcv_1, zcs_2, zcv_2, zcs_3, zcv_3, zcs_4, zcv_4, zcs_5, zcv_5, zcs_6, zcv_6, zcs_7, zcv_7, Int.reduceToNat, Nat.reduceDiv, Nat.reduceMod, zJ, zC, zK_wA, zN_wA, zR_wA, zS_wA, zA_wA, zK_wR, zN_wR, zR_wR, zS_wR, zA_wR, zK_cp, zN_cp, zR_cp, zS_cp, zA_cp, zK_mp, zN_mp, zR_mp, zS_mp, zA_mp, zfa, zfmm, zfa_1, zfb_1, zfa_2, zfb_2, zfa_3, zfb_3, zfa_4, zfb_4, zfa_5, zfb_5, zfa_6, zfb_6, zfa_7, zfb_7, zfa_8, zfb_8, zfa_9, zfb_9, zfa_10, zfb_10, zfa_12, zfb_12, zfa_20, zfb_20, zfa_21, zfb_21, zfa_30, zfb_30, zfa_48, zfb_48, zfa_60, zfb_60, zfa_61, zfb_61, zfa_65, zfb_65, zfa_97, zfb_97, zfa_100, zfb_100, zfa_120, zfb_120, zfa_124, zfb_124, zfa_500, zfb_500, zfa_792, zfb_792, zfa_2989, zfb_2989, zfm_2, zfn_2, zfm_3, zfn_3, zfm_4, zfn_4, zfm_6, zfn_6, zfm_7, zfn_7, zfm_8, zfn_8, zfm_12, zfn_12, zfm_49, zfn_49, zfm_60, zfn_60, zfm_61, zfn_61, zfm_792, zfn_792, zfm_2989, zfn_2989, Int.zero_add, Int.add_zero, Int.zero_mul, Int.mul_zero, Int.one_mul, Int.mul_one, zj_136, lk_1 hL]
  refine ⟨hz.1, hz.2, ?_⟩
  repeat (with_reducible refine And.intro ?_ ?_; · first | omega | (simp only [z32, z64]; omega))
  refine zEm_post (fun r H1 h9 => ?_) (zplm (P' := fun H2 => zIV H2 ∧ zR H2 1 10 = some 165) hL hB (fun H2 hp hB2 => zv_make hV hB2 hp) (zp_make (d := d - 1) (by omega) hL hB viT viC viCd viMk viMn))
  obtain ⟨h106, h9⟩ := h9
  try simp -implicitDefEqProofs only [zgn_0, zgn_s, zct_0, zct_s, Nat.reduceEqDiff, Nat.reduceBEq, Nat.reduceAdd, Nat.reduceSub, Nat.reduceMul, Int.reduceAdd, Int.reduceSub, Int.reduceMul, Int.reduceNeg, Int.reduceLT, Int.reduceLE, Int.reduceEq, Nat.zero_add, true_and, and_true, false_and, and_false, true_imp_iff, false_imp_iff, not_true_eq_false, not_false_eq_true, if_true, if_false, Bool.false_eq_true, ite_true, ite_false, reduceIte, eq_self, Int.toNat_natCast, zst_0, zst_1, zst_2, zst_3, zst_4, true_or, or_true, or_false, false_or, ze_307_1014, zB_307_1014, zbr_t, zbr_f, zrun_c, zmI_s, zmL_s, zmR_s, zgt_0, zgt_s, zln_0, zln_s, zs1_0, zs1_1i, zs1_1r, zs1_1n, zs1_1l, zs1_s, zs2_0, zs2_1i, zs2_1r, zs2_1n, zs2_1l, zs2_s, zcn_eq, zcn_ne, zcn_lt, zcn_ge, zcn_gt, zcn_le, zpu_0, zpu_1, zpu_2, zx_iconst, zx_lconst, zx_ldc, zx_ldc2, zx_null, zx_iload, zx_lload, zx_aload, zx_istore, zx_lstore, zx_astore, zx_iinc, zx_iadd, zx_isub, zx_imul, zx_idiv, zx_irem, zx_iand, zx_ior, zx_ixor, zx_ishl, zx_ishr, zx_iushr, zx_i2b, zx_i2l, zx_l2i, zx_ladd, zx_lmul, zx_ldiv, zx_lrem, zx_land, zx_lor, zx_lshl, zx_lshr, zx_lcmp, zx_dupi, zx_dupr, zx_dup2l, zx_dup2i, zx_pop, zx_ifc, zx_icmp, zx_ifnullN, zx_ifnullS, zx_ifnonN, zx_ifnonS, zx_goto, zx_gotow, zx_switch, zx_iaload, zx_baload, zx_laload, zx_aaload, zx_iastore, zx_bastore, zx_lastore, zx_aastore, zx_alen, zx_newarray, zx_anewarray, zx_new, zx_getI, zx_getL, zx_getR, zx_putI, zx_putZ, zx_putL, zx_putR, zx_callS, zx_callV, zx_objinit, zx_cpyi, zx_cpyl, zx_mmax, zx_mmin, zx_mminl, zx_ireturn, zx_areturn, zx_lreturn, zx_return, zcs_0, zcs_1, zcv_1, zcs_2, zcv_2, zcs_3, zcv_3, zcs_4, zcv_4, zcs_5, zcv_5, zcs_6, zcv_6, zcs_7, zcv_7, Int.reduceToNat, Nat.reduceDiv, Nat.reduceMod, zJ, zC, zK_wA, zN_wA, zR_wA, zS_wA, zA_wA, zK_wR, zN_wR, zR_wR, zS_wR, zA_wR, zK_cp, zN_cp, zR_cp, zS_cp, zA_cp, zK_mp, zN_mp, zR_mp, zS_mp, zA_mp, zfa, zfmm, zfa_1, zfb_1, zfa_2, zfb_2, zfa_3, zfb_3, zfa_4, zfb_4, zfa_5, zfb_5, zfa_6, zfb_6, zfa_7, zfb_7, zfa_8, zfb_8, zfa_9, zfb_9, zfa_10, zfb_10, zfa_12, zfb_12, zfa_20, zfb_20, zfa_21, zfb_21, zfa_30, zfb_30, zfa_48, zfb_48, zfa_60, zfb_60, zfa_61, zfb_61, zfa_65, zfb_65, zfa_97, zfb_97, zfa_100, zfb_100, zfa_120, zfb_120, zfa_124, zfb_124, zfa_500, zfb_500, zfa_792, zfb_792, zfa_2989, zfb_2989, zfm_2, zfn_2, zfm_3, zfn_3, zfm_4, zfn_4, zfm_6, zfn_6, zfm_7, zfn_7, zfm_8, zfn_8, zfm_12, zfn_12, zfm_49, zfn_49, zfm_60, zfn_60, zfm_61, zfn_61, zfm_792, zfn_792, zfm_2989, zfn_2989, Int.zero_add, Int.add_zero, Int.zero_mul, Int.mul_zero, Int.one_mul, Int.mul_one, h106]
  repeat (with_reducible refine And.intro ?_ ?_; · first | omega | (simp only [z32, z64]; omega))
  refine zEm_post (fun r' H2 h8 => ?_) h9
  obtain ⟨e8, h8⟩ := h8
  subst e8
  try simp -implicitDefEqProofs only [zgn_0, zgn_s, zct_0, zct_s, Nat.reduceEqDiff, Nat.reduceBEq, Nat.reduceAdd, Nat.reduceSub, Nat.reduceMul, Int.reduceAdd, Int.reduceSub, Int.reduceMul, Int.reduceNeg, Int.reduceLT, Int.reduceLE, Int.reduceEq, Nat.zero_add, true_and, and_true, false_and, and_false, true_imp_iff, false_imp_iff, not_true_eq_false, not_false_eq_true, if_true, if_false, Bool.false_eq_true, ite_true, ite_false, reduceIte, eq_self, Int.toNat_natCast, zst_0, zst_1, zst_2, zst_3, zst_4, true_or, or_true, or_false, false_or, ze_307_1014, zB_307_1014, zbr_t, zbr_f, zrun_c, zmI_s, zmL_s, zmR_s, zgt_0, zgt_s, zln_0, zln_s, zs1_0, zs1_1i, zs1_1r, zs1_1n, zs1_1l, zs1_s, zs2_0, zs2_1i, zs2_1r, zs2_1n, zs2_1l, zs2_s, zcn_eq, zcn_ne, zcn_lt, zcn_ge, zcn_gt, zcn_le, zpu_0, zpu_1, zpu_2, zx_iconst, zx_lconst, zx_ldc, zx_ldc2, zx_null, zx_iload, zx_lload, zx_aload, zx_istore, zx_lstore, zx_astore, zx_iinc, zx_iadd, zx_isub, zx_imul, zx_idiv, zx_irem, zx_iand, zx_ior, zx_ixor, zx_ishl, zx_ishr, zx_iushr, zx_i2b, zx_i2l, zx_l2i, zx_ladd, zx_lmul, zx_ldiv, zx_lrem, zx_land, zx_lor, zx_lshl, zx_lshr, zx_lcmp, zx_dupi, zx_dupr, zx_dup2l, zx_dup2i, zx_pop, zx_ifc, zx_icmp, zx_ifnullN, zx_ifnullS, zx_ifnonN, zx_ifnonS, zx_goto, zx_gotow, zx_switch, zx_iaload, zx_baload, zx_laload, zx_aaload, zx_iastore, zx_bastore, zx_lastore, zx_aastore, zx_alen, zx_newarray, zx_anewarray, zx_new, zx_getI, zx_getL, zx_getR, zx_putI, zx_putZ, zx_putL, zx_putR, zx_callS, zx_callV, zx_objinit, zx_cpyi, zx_cpyl, zx_mmax, zx_mmin, zx_mminl, zx_ireturn, zx_areturn, zx_lreturn, zx_return, zcs_0, zcs_1, zcv_1, zcs_2, zcv_2, zcs_3, zcv_3, zcs_4, zcv_4, zcs_5, zcv_5, zcs_6, zcv_6, zcs_7, zcv_7, Int.reduceToNat, Nat.reduceDiv, Nat.reduceMod, zJ, zC, zK_wA, zN_wA, zR_wA, zS_wA, zA_wA, zK_wR, zN_wR, zR_wR, zS_wR, zA_wR, zK_cp, zN_cp, zR_cp, zS_cp, zA_cp, zK_mp, zN_mp, zR_mp, zS_mp, zA_mp, zfa, zfmm, zfa_1, zfb_1, zfa_2, zfb_2, zfa_3, zfb_3, zfa_4, zfb_4, zfa_5, zfb_5, zfa_6, zfb_6, zfa_7, zfb_7, zfa_8, zfb_8, zfa_9, zfb_9, zfa_10, zfb_10, zfa_12, zfb_12, zfa_20, zfb_20, zfa_21, zfb_21, zfa_30, zfb_30, zfa_48, zfb_48, zfa_60, zfb_60, zfa_61, zfb_61, zfa_65, zfb_65, zfa_97, zfb_97, zfa_100, zfb_100, zfa_120, zfb_120, zfa_124, zfb_124, zfa_500, zfb_500, zfa_792, zfb_792, zfa_2989, zfb_2989, zfm_2, zfn_2, zfm_3, zfn_3, zfm_4, zfn_4, zfm_6, zfn_6, zfm_7, zfn_7, zfm_8, zfn_8, zfm_12, zfn_12, zfm_49, zfn_49, zfm_60, zfn_60, zfm_61, zfn_61, zfm_792, zfn_792, zfm_2989, zfn_2989, Int.zero_add, Int.add_zero, Int.zero_mul, Int.mul_zero, Int.one_mul, Int.mul_one]
  first
    | exact nxt H2 _ _ h8
    | exact zbr_i (fun _ => nxt H2 _ _ h8) (fun q => absurd rfl q)
set_option maxRecDepth 100000 in
set_option maxRecDepth 100000 in
theorem zl_sw {xs : Nat → Int} {L d bc bs i : Nat} {H : zH} {Q : zQ} (hd : 20 ≤ d) (hi6 : i + 6 ≤ L) (hL3 : L ≤ 3072) (hV : zIV H) (hbud : zR H 1 10 = none → 6 ≤ bc ∧ 19335 ≤ bs) (step : ∀ (G : zH) (c1 c2 : Nat), zIV G → (zR G 1 10 = none → 6 ≤ c1 ∧ 19335 ≤ c2) → zEt xs L d c1 c2 true 307 1537 [some (zr (some 0)), some (zr (some 1)), some (zr (some 106)), some (zi (i : Nat))] [] G Q) (nx : ∀ G : zH, zIV G ∧ zR G 1 10 = zR H 1 10 → zEt xs L d bc bs true 307 1537 [some (zr (some 0)), some (zr (some 1)), some (zr (some 106)), some (zi (i : Nat))] [] G Q) : ∀ c : Nat, c < 53 → zEt xs L d bc bs true 307 (([260, 323, 346, 369, 402, 461, 510, 523, 546, 559, 582, 605, 628, 661, 675, 688, 702, 725, 748, 761, 784, 797, 820, 833, 846, 869, 892, 905, 928, 941, 954, 977, 990, 1014, 1027, 1050, 1083, 1126, 1150, 1163, 1187, 1210, 1233, 1256, 1269, 1283, 1316, 1359, 1382, 1415, 1458, 1491, 1514] : List Nat).getD c 0) [some (zr (some 0)), some (zr (some 1)), some (zr (some 106)), some (zi (i : Nat))] [] H Q := by
  intro c hc
  match c, hc with
  | 0, _ => exact zw_feed hd hi6 hL3 hV nx
  | 1, _ => exact zw_end hd hi6 hL3 hV nx
  | 2, _ => exact zw_word hd hi6 hL3 hV nx
  | 3, _ => exact zw_letter hd hi6 hL3 hV nx
  | 4, _ => exact zw_may hd hi6 hL3 hV nx
  | 5, _ => exact zw_first hd hi6 hL3 hV nx
  | 6, _ => exact zw_book hd hi6 hL3 hV nx
  | 7, _ => exact zw_digit hd hi6 hL3 hV nx
  | 8, _ => exact zw_ask hd hi6 hL3 hV nx
  | 9, _ => exact zw_asked hd hi6 hL3 hV nx
  | 10, _ => exact zw_thing hd hi6 hL3 hV nx
  | 11, _ => exact zw_row hd hi6 hL3 hV nx
  | 12, _ => exact zw_about hd hi6 hL3 hV nx
  | 13, _ => exact zw_cost hd hi6 hL3 hV nx
  | 14, _ => exact zw_means hd hi6 hL3 hV nx
  | 15, _ => exact zw_heard hd hi6 hL3 hV nx
  | 16, _ => exact zw_shortest hd hi6 hL3 hV nx
  | 17, _ => exact zw_length hd hi6 hL3 hV nx
  | 18, _ => exact zw_night hd hi6 hL3 hV nx
  | 19, _ => exact zw_misheard hd hi6 hL3 hV nx
  | 20, _ => exact zw_fits hd hi6 hL3 hV nx
  | 21, _ => exact zw_sure hd hi6 hL3 hV nx
  | 22, _ => exact zw_renew hd hi6 hL3 hV nx
  | 23, _ => exact zw_spell hd hi6 hL3 hV nx
  | 24, _ => exact zw_spelled hd hi6 hL3 hV nx
  | 25, _ => exact zw_read hd hi6 hL3 hV nx
  | 26, _ => exact zw_list hd hi6 hL3 hV nx
  | 27, _ => exact zw_coughs hd hi6 hL3 hV nx
  | 28, _ => exact zw_nearest hd hi6 hL3 hV nx
  | 29, _ => exact zw_manners hd hi6 hL3 hV nx
  | 30, _ => exact zw_fault hd hi6 hL3 hV nx
  | 31, _ => exact zw_mannerly hd hi6 hL3 hV nx
  | 32, _ => exact zw_questions hd hi6 hL3 hV nx
  | 33, _ => exact zw_make hd hi6 hL3 hV hbud (fun G c1 c2 hG => step G c1 c2 hG.1 (fun q => by rw [hG.2] at q; cases q))
  | 34, _ => exact zw_made hd hi6 hL3 hV nx
  | 35, _ => exact zw_lost hd hi6 hL3 hV nx
  | 36, _ => exact zw_mistaken hd hi6 hL3 hV nx
  | 37, _ => exact zw_chance hd hi6 hL3 hV nx
  | 38, _ => exact zw_likeliest hd hi6 hL3 hV nx
  | 39, _ => exact zw_share hd hi6 hL3 hV nx
  | 40, _ => exact zw_inTwo hd hi6 hL3 hV nx
  | 41, _ => exact zw_kind hd hi6 hL3 hV nx
  | 42, _ => exact zw_away hd hi6 hL3 hV nx
  | 43, _ => exact zw_fewest hd hi6 hL3 hV nx
  | 44, _ => exact zw_few hd hi6 hL3 hV nx
  | 45, _ => exact zw_bookOn hd hi6 hL3 hV nx
  | 46, _ => exact zw_digitOn hd hi6 hL3 hV nx
  | 47, _ => exact zw_turnOf hd hi6 hL3 hV nx
  | 48, _ => exact zw_putRight hd hi6 hL3 hV nx
  | 49, _ => exact zw_shown hd hi6 hL3 hV nx
  | 50, _ => exact zw_tally hd hi6 hL3 hV nx
  | 51, _ => exact zw_regret hd hi6 hL3 hV nx
  | 52, _ => exact zw_count hd hi6 hL3 hV nx
  | c + 53, hc => omega
set_option maxRecDepth 100000 in
theorem zsw_e (c : Nat) (hc : c < 53) : (zsw 1537 0 52 #[260, 323, 346, 369, 402, 461, 510, 523, 546, 559, 582, 605, 628, 661, 675, 688, 702, 725, 748, 761, 784, 797, 820, 833, 846, 869, 892, 905, 928, 941, 954, 977, 990, 1014, 1027, 1050, 1083, 1126, 1150, 1163, 1187, 1210, 1233, 1256, 1269, 1283, 1316, 1359, 1382, 1415, 1458, 1491, 1514] ((c : Nat) : Int)).toNat = ([260, 323, 346, 369, 402, 461, 510, 523, 546, 559, 582, 605, 628, 661, 675, 688, 702, 725, 748, 761, 784, 797, 820, 833, 846, 869, 892, 905, 928, 941, 954, 977, 990, 1014, 1027, 1050, 1083, 1126, 1150, 1163, 1187, 1210, 1233, 1256, 1269, 1283, 1316, 1359, 1382, 1415, 1458, 1491, 1514] : List Nat).getD c 0 := by
  match c, hc with
  | 0, _ => rfl
  | 1, _ => rfl
  | 2, _ => rfl
  | 3, _ => rfl
  | 4, _ => rfl
  | 5, _ => rfl
  | 6, _ => rfl
  | 7, _ => rfl
  | 8, _ => rfl
  | 9, _ => rfl
  | 10, _ => rfl
  | 11, _ => rfl
  | 12, _ => rfl
  | 13, _ => rfl
  | 14, _ => rfl
  | 15, _ => rfl
  | 16, _ => rfl
  | 17, _ => rfl
  | 18, _ => rfl
  | 19, _ => rfl
  | 20, _ => rfl
  | 21, _ => rfl
  | 22, _ => rfl
  | 23, _ => rfl
  | 24, _ => rfl
  | 25, _ => rfl
  | 26, _ => rfl
  | 27, _ => rfl
  | 28, _ => rfl
  | 29, _ => rfl
  | 30, _ => rfl
  | 31, _ => rfl
  | 32, _ => rfl
  | 33, _ => rfl
  | 34, _ => rfl
  | 35, _ => rfl
  | 36, _ => rfl
  | 37, _ => rfl
  | 38, _ => rfl
  | 39, _ => rfl
  | 40, _ => rfl
  | 41, _ => rfl
  | 42, _ => rfl
  | 43, _ => rfl
  | 44, _ => rfl
  | 45, _ => rfl
  | 46, _ => rfl
  | 47, _ => rfl
  | 48, _ => rfl
  | 49, _ => rfl
  | 50, _ => rfl
  | 51, _ => rfl
  | 52, _ => rfl
  | c + 53, hc => omega
set_option maxRecDepth 100000 in
set_option maxRecDepth 100000 in
theorem zl_law {xs : Nat → Int} {L d : Nat} (hd : 20 ≤ d) (hL3 : L ≤ 3072) : ∀ (kk i : Nat) (H : zH) (bc bs : Nat), L - i = kk → i ≤ L + 6 → zIV H → (zR H 1 10 = none → 6 ≤ bc ∧ 19335 ≤ bs) → zEt xs L d bc bs true 307 18 [some (zr (some 0)), some (zr (some 1)), some (zr (some 106)), some (zi (i : Nat))] [] H (fun r _ => r = 1) := by
  intro kk
  induction kk using Nat.strongRecOn with
  | ind kk ih =>
    intro i H bc bs hkk hi hV hbud
    refine zgo_at [] 0 ?_
    try simp -implicitDefEqProofs only [zgn_0, zgn_s, zct_0, zct_s, Nat.reduceEqDiff, Nat.reduceBEq, Nat.reduceAdd, Nat.reduceSub, Nat.reduceMul, Int.reduceAdd, Int.reduceSub, Int.reduceMul, Int.reduceNeg, Int.reduceLT, Int.reduceLE, Int.reduceEq, Nat.zero_add, true_and, and_true, false_and, and_false, true_imp_iff, false_imp_iff, not_true_eq_false, not_false_eq_true, if_true, if_false, Bool.false_eq_true, ite_true, ite_false, reduceIte, eq_self, Int.toNat_natCast, zst_0, zst_1, zst_2, zst_3, zst_4, true_or, or_true, or_false, false_or, ze_307_18, zB_307_18, zbr_t, zbr_f, zrun_c, zmI_s, zmL_s, zmR_s, zgt_0, zgt_s, zln_0, zln_s, zs1_0, zs1_1i, zs1_1r, zs1_1n, zs1_1l, zs1_s, zs2_0, zs2_1i, zs2_1r, zs2_1n, zs2_1l, zs2_s, zcn_eq, zcn_ne, zcn_lt, zcn_ge, zcn_gt, zcn_le, zpu_0, zpu_1, zpu_2, zx_iconst, zx_lconst, zx_ldc, zx_ldc2, zx_null, zx_iload, zx_lload, zx_aload, zx_istore, zx_lstore, zx_astore, zx_iinc, zx_iadd, zx_isub, zx_imul, zx_idiv, zx_irem, zx_iand, zx_ior, zx_ixor, zx_ishl, zx_ishr, zx_iushr, zx_i2b, zx_i2l, zx_l2i, zx_ladd, zx_lmul, zx_ldiv, zx_lrem, zx_land, zx_lor, zx_lshl, zx_lshr, zx_lcmp, zx_dupi, zx_dupr, zx_dup2l, zx_dup2i, zx_pop, zx_ifc, zx_icmp, zx_ifnullN, zx_ifnullS, zx_ifnonN, zx_ifnonS, zx_goto, zx_gotow, zx_switch, zx_iaload, zx_baload, zx_laload, zx_aaload, zx_iastore, zx_bastore, zx_lastore, zx_aastore, zx_alen, zx_newarray, zx_anewarray, zx_new, zx_getI, zx_getL, zx_getR, zx_putI, zx_putZ, zx_putL, zx_putR, zx_callS, zx_callV, zx_objinit, zx_cpyi, zx_cpyl, zx_mmax, zx_mmin, zx_mminl, zx_ireturn, zx_areturn, zx_lreturn, zx_return, zcs_0, zcs_1, zcv_1, zcs_2, zcv_2, zcs_3, zcv_3, zcs_4, zcv_4, zcs_5, zcv_5, zcs_6, zcv_6, zcs_7, zcv_7, Int.reduceToNat, Nat.reduceDiv, Nat.reduceMod, zJ, zC, zK_wA, zN_wA, zR_wA, zS_wA, zA_wA, zK_wR, zN_wR, zR_wR, zS_wR, zA_wR, zK_cp, zN_cp, zR_cp, zS_cp, zA_cp, zK_mp, zN_mp, zR_mp, zS_mp, zA_mp, zfa, zfmm, zfa_1, zfb_1, zfa_2, zfb_2, zfa_3, zfb_3, zfa_4, zfb_4, zfa_5, zfb_5, zfa_6, zfb_6, zfa_7, zfb_7, zfa_8, zfb_8, zfa_9, zfb_9, zfa_10, zfb_10, zfa_12, zfb_12, zfa_20, zfb_20, zfa_21, zfb_21, zfa_30, zfb_30, zfa_48, zfb_48, zfa_60, zfb_60, zfa_61, zfb_61, zfa_65, zfb_65, zfa_97, zfb_97, zfa_100, zfb_100, zfa_120, zfb_120, zfa_124, zfb_124, zfa_500, zfb_500, zfa_792, zfb_792, zfa_2989, zfb_2989, zfm_2, zfn_2, zfm_3, zfn_3, zfm_4, zfn_4, zfm_6, zfn_6, zfm_7, zfn_7, zfm_8, zfn_8, zfm_12, zfn_12, zfm_49, zfn_49, zfm_60, zfn_60, zfm_61, zfn_61, zfm_792, zfn_792, zfm_2989, zfn_2989, Int.zero_add, Int.add_zero, Int.zero_mul, Int.mul_zero, Int.one_mul, Int.mul_one, zx_ials, zx_alns]
    repeat (with_reducible refine And.intro ?_ ?_; · first | omega | (simp only [z32, z64]; omega))
    refine zbr_i (fun q => ?_) (fun q => ?_)
    · refine zgo_at [] 1 ?_
      try simp -implicitDefEqProofs only [zgn_0, zgn_s, zct_0, zct_s, Nat.reduceEqDiff, Nat.reduceBEq, Nat.reduceAdd, Nat.reduceSub, Nat.reduceMul, Int.reduceAdd, Int.reduceSub, Int.reduceMul, Int.reduceNeg, Int.reduceLT, Int.reduceLE, Int.reduceEq, Nat.zero_add, true_and, and_true, false_and, and_false, true_imp_iff, false_imp_iff, not_true_eq_false, not_false_eq_true, if_true, if_false, Bool.false_eq_true, ite_true, ite_false, reduceIte, eq_self, Int.toNat_natCast, zst_0, zst_1, zst_2, zst_3, zst_4, true_or, or_true, or_false, false_or, ze_307_1543, zB_307_1543, zbr_t, zbr_f, zrun_c, zmI_s, zmL_s, zmR_s, zgt_0, zgt_s, zln_0, zln_s, zs1_0, zs1_1i, zs1_1r, zs1_1n, zs1_1l, zs1_s, zs2_0, zs2_1i, zs2_1r, zs2_1n, zs2_1l, zs2_s, zcn_eq, zcn_ne, zcn_lt, zcn_ge, zcn_gt, zcn_le, zpu_0, zpu_1, zpu_2, zx_iconst, zx_lconst, zx_ldc, zx_ldc2, zx_null, zx_iload, zx_lload, zx_aload, zx_istore, zx_lstore, zx_astore, zx_iinc, zx_iadd, zx_isub, zx_imul, zx_idiv, zx_irem, zx_iand, zx_ior, zx_ixor, zx_ishl, zx_ishr, zx_iushr, zx_i2b, zx_i2l, zx_l2i, zx_ladd, zx_lmul, zx_ldiv, zx_lrem, zx_land, zx_lor, zx_lshl, zx_lshr, zx_lcmp, zx_dupi, zx_dupr, zx_dup2l, zx_dup2i, zx_pop, zx_ifc, zx_icmp, zx_ifnullN, zx_ifnullS, zx_ifnonN, zx_ifnonS, zx_goto, zx_gotow, zx_switch, zx_iaload, zx_baload, zx_laload, zx_aaload, zx_iastore, zx_bastore, zx_lastore, zx_aastore, zx_alen, zx_newarray, zx_anewarray, zx_new, zx_getI, zx_getL, zx_getR, zx_putI, zx_putZ, zx_putL, zx_putR, zx_callS, zx_callV, zx_objinit, zx_cpyi, zx_cpyl, zx_mmax, zx_mmin, zx_mminl, zx_ireturn, zx_areturn, zx_lreturn, zx_return, zcs_0, zcs_1, zcv_1, zcs_2, zcv_2, zcs_3, zcv_3, zcs_4, zcv_4, zcs_5, zcv_5, zcs_6, zcv_6, zcs_7, zcv_7, Int.reduceToNat, Nat.reduceDiv, Nat.reduceMod, zJ, zC, zK_wA, zN_wA, zR_wA, zS_wA, zA_wA, zK_wR, zN_wR, zR_wR, zS_wR, zA_wR, zK_cp, zN_cp, zR_cp, zS_cp, zA_cp, zK_mp, zN_mp, zR_mp, zS_mp, zA_mp, zfa, zfmm, zfa_1, zfb_1, zfa_2, zfb_2, zfa_3, zfb_3, zfa_4, zfb_4, zfa_5, zfb_5, zfa_6, zfb_6, zfa_7, zfb_7, zfa_8, zfb_8, zfa_9, zfb_9, zfa_10, zfb_10, zfa_12, zfb_12, zfa_20, zfb_20, zfa_21, zfb_21, zfa_30, zfb_30, zfa_48, zfb_48, zfa_60, zfb_60, zfa_61, zfb_61, zfa_65, zfb_65, zfa_97, zfb_97, zfa_100, zfb_100, zfa_120, zfb_120, zfa_124, zfb_124, zfa_500, zfb_500, zfa_792, zfb_792, zfa_2989, zfb_2989, zfm_2, zfn_2, zfm_3, zfn_3, zfm_4, zfn_4, zfm_6, zfn_6, zfm_7, zfn_7, zfm_8, zfn_8, zfm_12, zfn_12, zfm_49, zfn_49, zfm_60, zfn_60, zfm_61, zfn_61, zfm_792, zfn_792, zfm_2989, zfn_2989, Int.zero_add, Int.add_zero, Int.zero_mul, Int.mul_zero, Int.one_mul, Int.mul_one]
      first
        | (show (0 : Int) ≤ 1 ∧ (1 : Int) ≤ 1 ∧ (1 : Int) = 1; exact ⟨by omega, by omega, rfl⟩)
        | exact ⟨by omega, by omega, rfl⟩
        | rfl
    · have hi6 : i + 6 ≤ L := by omega
      repeat (with_reducible refine And.intro ?_ ?_; · first | omega | (simp only [z32, z64]; omega))
      have step : ∀ (G : zH) (c1 c2 : Nat), zIV G → (zR G 1 10 = none → 6 ≤ c1 ∧ 19335 ≤ c2) → zEt xs L d c1 c2 true 307 1537 [some (zr (some 0)), some (zr (some 1)), some (zr (some 106)), some (zi (i : Nat))] [] G (fun r _ => r = 1) := fun G c1 c2 hG hbG => by
        refine zgo_at [18] 2 ?_
        try simp -implicitDefEqProofs only [zgn_0, zgn_s, zct_0, zct_s, Nat.reduceEqDiff, Nat.reduceBEq, Nat.reduceAdd, Nat.reduceSub, Nat.reduceMul, Int.reduceAdd, Int.reduceSub, Int.reduceMul, Int.reduceNeg, Int.reduceLT, Int.reduceLE, Int.reduceEq, Nat.zero_add, true_and, and_true, false_and, and_false, true_imp_iff, false_imp_iff, not_true_eq_false, not_false_eq_true, if_true, if_false, Bool.false_eq_true, ite_true, ite_false, reduceIte, eq_self, Int.toNat_natCast, zst_0, zst_1, zst_2, zst_3, zst_4, true_or, or_true, or_false, false_or, ze_307_1537, zB_307_1537, zbr_t, zbr_f, zrun_c, zmI_s, zmL_s, zmR_s, zgt_0, zgt_s, zln_0, zln_s, zs1_0, zs1_1i, zs1_1r, zs1_1n, zs1_1l, zs1_s, zs2_0, zs2_1i, zs2_1r, zs2_1n, zs2_1l, zs2_s, zcn_eq, zcn_ne, zcn_lt, zcn_ge, zcn_gt, zcn_le, zpu_0, zpu_1, zpu_2, zx_iconst, zx_lconst, zx_ldc, zx_ldc2, zx_null, zx_iload, zx_lload, zx_aload, zx_istore, zx_lstore, zx_astore, zx_iinc, zx_iadd, zx_isub, zx_imul, zx_idiv, zx_irem, zx_iand, zx_ior, zx_ixor, zx_ishl, zx_ishr, zx_iushr, zx_i2b, zx_i2l, zx_l2i, zx_ladd, zx_lmul, zx_ldiv, zx_lrem, zx_land, zx_lor, zx_lshl, zx_lshr, zx_lcmp, zx_dupi, zx_dupr, zx_dup2l, zx_dup2i, zx_pop, zx_ifc, zx_icmp, zx_ifnullN, zx_ifnullS, zx_ifnonN, zx_ifnonS, zx_goto, zx_gotow, zx_switch, zx_iaload, zx_baload, zx_laload, zx_aaload, zx_iastore, zx_bastore, zx_lastore, zx_aastore, zx_alen, zx_newarray, zx_anewarray, zx_new, zx_getI, zx_getL, zx_getR, zx_putI, zx_putZ, zx_putL, zx_putR, zx_callS, zx_callV, zx_objinit, zx_cpyi, zx_cpyl, zx_mmax, zx_mmin, zx_mminl, zx_ireturn, zx_areturn, zx_lreturn, zx_return, zcs_0, zcs_1, zcv_1, zcs_2, zcv_2, zcs_3, zcv_3, zcs_4, zcv_4, zcs_5, zcv_5, zcs_6, zcv_6, zcs_7, zcv_7, Int.reduceToNat, Nat.reduceDiv, Nat.reduceMod, zJ, zC, zK_wA, zN_wA, zR_wA, zS_wA, zA_wA, zK_wR, zN_wR, zR_wR, zS_wR, zA_wR, zK_cp, zN_cp, zR_cp, zS_cp, zA_cp, zK_mp, zN_mp, zR_mp, zS_mp, zA_mp, zfa, zfmm, zfa_1, zfb_1, zfa_2, zfb_2, zfa_3, zfb_3, zfa_4, zfb_4, zfa_5, zfb_5, zfa_6, zfb_6, zfa_7, zfb_7, zfa_8, zfb_8, zfa_9, zfb_9, zfa_10, zfb_10, zfa_12, zfb_12, zfa_20, zfb_20, zfa_21, zfb_21, zfa_30, zfb_30, zfa_48, zfb_48, zfa_60, zfb_60, zfa_61, zfb_61, zfa_65, zfb_65, zfa_97, zfb_97, zfa_100, zfb_100, zfa_120, zfb_120, zfa_124, zfb_124, zfa_500, zfb_500, zfa_792, zfb_792, zfa_2989, zfb_2989, zfm_2, zfn_2, zfm_3, zfn_3, zfm_4, zfn_4, zfm_6, zfn_6, zfm_7, zfn_7, zfm_8, zfn_8, zfm_12, zfn_12, zfm_49, zfn_49, zfm_60, zfn_60, zfm_61, zfn_61, zfm_792, zfn_792, zfm_2989, zfn_2989, Int.zero_add, Int.add_zero, Int.zero_mul, Int.mul_zero, Int.one_mul, Int.mul_one]
        repeat (with_reducible refine And.intro ?_ ?_; · first | omega | (simp only [z32, z64]; omega))
        exact ih (L - (i + 6)) (by omega) (i + 6) G c1 c2 rfl (by omega) hG hbG
      have nx : ∀ G : zH, zIV G ∧ zR G 1 10 = zR H 1 10 → zEt xs L d bc bs true 307 1537 [some (zr (some 0)), some (zr (some 1)), some (zr (some 106)), some (zi (i : Nat))] [] G (fun r _ => r = 1) := fun G hG => step G bc bs hG.1 (fun q => hbud (by rw [← hG.2]; exact q))
      clear ih
      generalize zand (xs i) 63 = x
      by_cases hx : x < 0 ∨ 52 < x
      · unfold zsw
        rw [if_pos hx]
        exact nx H ⟨hV, rfl⟩
      · obtain ⟨c, hc⟩ : ∃ c : Nat, x = (c : Nat) := ⟨x.toNat, by omega⟩
        subst hc
        have hc5 : c < 53 := by omega
        have fin := zl_sw hd hi6 hL3 hV hbud step nx c hc5
        rw [← zsw_e c hc5] at fin
        exact fin
set_option maxRecDepth 100000 in
theorem zlaw (xs : Nat → Int) (L : Nat) (hL3 : L ≤ 3072) (_hx : ∀ j, z32 (xs j)) : zEV xs L 100 600000 7302250 true 307 (zblk 307 0) [some (zr (some 0)), none, none, none] [] zH0 (fun r _ => r = 1) := by
  show zEt xs L 100 600000 7302250 true 307 0 [some (zr (some 0)), none, none, none] [] zH0 (fun r _ => r = 1)
  have hS0 : zS zH0 = 1 := rfl
  refine zgo_at [18] 3 ?_
  try simp -implicitDefEqProofs only [zgn_0, zgn_s, zct_0, zct_s, Nat.reduceEqDiff, Nat.reduceBEq, Nat.reduceAdd, Nat.reduceSub, Nat.reduceMul, Int.reduceAdd, Int.reduceSub, Int.reduceMul, Int.reduceNeg, Int.reduceLT, Int.reduceLE, Int.reduceEq, Nat.zero_add, true_and, and_true, false_and, and_false, true_imp_iff, false_imp_iff, not_true_eq_false, not_false_eq_true, if_true, if_false, Bool.false_eq_true, ite_true, ite_false, reduceIte, eq_self, Int.toNat_natCast, zst_0, zst_1, zst_2, zst_3, zst_4, true_or, or_true, or_false, false_or, ze_307_0, zB_307_0, zbr_t, zbr_f, zrun_c, zmI_s, zmL_s, zmR_s, zgt_0, zgt_s, zln_0, zln_s, zs1_0, zs1_1i, zs1_1r, zs1_1n, zs1_1l, zs1_s, zs2_0, zs2_1i, zs2_1r, zs2_1n, zs2_1l, zs2_s, zcn_eq, zcn_ne, zcn_lt, zcn_ge, zcn_gt, zcn_le, zpu_0, zpu_1, zpu_2, zx_iconst, zx_lconst, zx_ldc, zx_ldc2, zx_null, zx_iload, zx_lload, zx_aload, zx_istore, zx_lstore, zx_astore, zx_iinc, zx_iadd, zx_isub, zx_imul, zx_idiv, zx_irem, zx_iand, zx_ior, zx_ixor, zx_ishl, zx_ishr, zx_iushr, zx_i2b, zx_i2l, zx_l2i, zx_ladd, zx_lmul, zx_ldiv, zx_lrem, zx_land, zx_lor, zx_lshl, zx_lshr, zx_lcmp, zx_dupi, zx_dupr, zx_dup2l, zx_dup2i, zx_pop, zx_ifc, zx_icmp, zx_ifnullN, zx_ifnullS, zx_ifnonN, zx_ifnonS, zx_goto, zx_gotow, zx_switch, zx_iaload, zx_baload, zx_laload, zx_aaload, zx_iastore, zx_bastore, zx_lastore, zx_aastore, zx_alen, zx_newarray, zx_anewarray, zx_new, zx_getI, zx_getL, zx_getR, zx_putI, zx_putZ, zx_putL, zx_putR, zx_callS, zx_callV, zx_objinit, zx_cpyi, zx_cpyl, zx_mmax, zx_mmin, zx_mminl, zx_ireturn, zx_areturn, zx_lreturn, zx_return, zcs_0, zcs_1, zcv_1, zcs_2, zcv_2, zcs_3, zcv_3, zcs_4, zcv_4, zcs_5, zcv_5, zcs_6, zcv_6, zcs_7, zcv_7, Int.reduceToNat, Nat.reduceDiv, Nat.reduceMod, zJ, zC, zK_wA, zN_wA, zR_wA, zS_wA, zA_wA, zK_wR, zN_wR, zR_wR, zS_wR, zA_wR, zK_cp, zN_cp, zR_cp, zS_cp, zA_cp, zK_mp, zN_mp, zR_mp, zS_mp, zA_mp, zfa, zfmm, zfa_1, zfb_1, zfa_2, zfb_2, zfa_3, zfb_3, zfa_4, zfb_4, zfa_5, zfb_5, zfa_6, zfb_6, zfa_7, zfb_7, zfa_8, zfb_8, zfa_9, zfb_9, zfa_10, zfb_10, zfa_12, zfb_12, zfa_20, zfb_20, zfa_21, zfb_21, zfa_30, zfb_30, zfa_48, zfb_48, zfa_60, zfb_60, zfa_61, zfb_61, zfa_65, zfb_65, zfa_97, zfb_97, zfa_100, zfb_100, zfa_120, zfb_120, zfa_124, zfb_124, zfa_500, zfb_500, zfa_792, zfb_792, zfa_2989, zfb_2989, zfm_2, zfn_2, zfm_3, zfn_3, zfm_4, zfn_4, zfm_6, zfn_6, zfm_7, zfn_7, zfm_8, zfn_8, zfm_12, zfn_12, zfm_49, zfn_49, zfm_60, zfn_60, zfm_61, zfn_61, zfm_792, zfn_792, zfm_2989, zfn_2989, Int.zero_add, Int.add_zero, Int.zero_mul, Int.mul_zero, Int.one_mul, Int.mul_one, zS_nw, zK_nw, zN_nw, zA_nw, zR_nw, zS_wR, zK_wR, zN_wR, zA_wR, zR_wR, zS_wA, zK_wA, zN_wA, zA_wA, zR_wA, zaty_i, zaty_b, zaty_z, zaty_l, Nat.succ_eq_add_one, hS0, znf_11, znf_12, zj_0, zj_197]
  repeat (with_reducible refine And.intro ?_ ?_; · first | omega | (simp only [z32, z64]; omega))
  refine zEm_by (zBy_nw zby_H0) (zk_1 (by omega) (zCN_nw zCN_0 rfl) (fun G F' hc hF hB => ?_))
  have hS1 := hc.1
  try simp -implicitDefEqProofs only [zgn_0, zgn_s, zct_0, zct_s, Nat.reduceEqDiff, Nat.reduceBEq, Nat.reduceAdd, Nat.reduceSub, Nat.reduceMul, Int.reduceAdd, Int.reduceSub, Int.reduceMul, Int.reduceNeg, Int.reduceLT, Int.reduceLE, Int.reduceEq, Nat.zero_add, true_and, and_true, false_and, and_false, true_imp_iff, false_imp_iff, not_true_eq_false, not_false_eq_true, if_true, if_false, Bool.false_eq_true, ite_true, ite_false, reduceIte, eq_self, Int.toNat_natCast, zst_0, zst_1, zst_2, zst_3, zst_4, true_or, or_true, or_false, false_or, ze_307_0, zB_307_0, zbr_t, zbr_f, zrun_c, zmI_s, zmL_s, zmR_s, zgt_0, zgt_s, zln_0, zln_s, zs1_0, zs1_1i, zs1_1r, zs1_1n, zs1_1l, zs1_s, zs2_0, zs2_1i, zs2_1r, zs2_1n, zs2_1l, zs2_s, zcn_eq, zcn_ne, zcn_lt, zcn_ge, zcn_gt, zcn_le, zpu_0, zpu_1, zpu_2, zx_iconst, zx_lconst, zx_ldc, zx_ldc2, zx_null, zx_iload, zx_lload, zx_aload, zx_istore, zx_lstore, zx_astore, zx_iinc, zx_iadd, zx_isub, zx_imul, zx_idiv, zx_irem, zx_iand, zx_ior, zx_ixor, zx_ishl, zx_ishr, zx_iushr, zx_i2b, zx_i2l, zx_l2i, zx_ladd, zx_lmul, zx_ldiv, zx_lrem, zx_land, zx_lor, zx_lshl, zx_lshr, zx_lcmp, zx_dupi, zx_dupr, zx_dup2l, zx_dup2i, zx_pop, zx_ifc, zx_icmp, zx_ifnullN, zx_ifnullS, zx_ifnonN, zx_ifnonS, zx_goto, zx_gotow, zx_switch, zx_iaload, zx_baload, zx_laload, zx_aaload, zx_iastore, zx_bastore, zx_lastore, zx_aastore, zx_alen, zx_newarray, zx_anewarray, zx_new, zx_getI, zx_getL, zx_getR, zx_putI, zx_putZ, zx_putL, zx_putR, zx_callS, zx_callV, zx_objinit, zx_cpyi, zx_cpyl, zx_mmax, zx_mmin, zx_mminl, zx_ireturn, zx_areturn, zx_lreturn, zx_return, zcs_0, zcs_1, zcv_1, zcs_2, zcv_2, zcs_3, zcv_3, zcs_4, zcv_4, zcs_5, zcv_5, zcs_6, zcv_6, zcs_7, zcv_7, Int.reduceToNat, Nat.reduceDiv, Nat.reduceMod, zJ, zC, zK_wA, zN_wA, zR_wA, zS_wA, zA_wA, zK_wR, zN_wR, zR_wR, zS_wR, zA_wR, zK_cp, zN_cp, zR_cp, zS_cp, zA_cp, zK_mp, zN_mp, zR_mp, zS_mp, zA_mp, zfa, zfmm, zfa_1, zfb_1, zfa_2, zfb_2, zfa_3, zfb_3, zfa_4, zfb_4, zfa_5, zfb_5, zfa_6, zfb_6, zfa_7, zfb_7, zfa_8, zfb_8, zfa_9, zfb_9, zfa_10, zfb_10, zfa_12, zfb_12, zfa_20, zfb_20, zfa_21, zfb_21, zfa_30, zfb_30, zfa_48, zfb_48, zfa_60, zfb_60, zfa_61, zfb_61, zfa_65, zfb_65, zfa_97, zfb_97, zfa_100, zfb_100, zfa_120, zfb_120, zfa_124, zfb_124, zfa_500, zfb_500, zfa_792, zfb_792, zfa_2989, zfb_2989, zfm_2, zfn_2, zfm_3, zfn_3, zfm_4, zfn_4, zfm_6, zfn_6, zfm_7, zfn_7, zfm_8, zfn_8, zfm_12, zfn_12, zfm_49, zfn_49, zfm_60, zfn_60, zfm_61, zfn_61, zfm_792, zfn_792, zfm_2989, zfn_2989, Int.zero_add, Int.add_zero, Int.zero_mul, Int.mul_zero, Int.one_mul, Int.mul_one, zS_nw, zK_nw, zN_nw, zA_nw, zR_nw, zS_wR, zK_wR, zN_wR, zA_wR, zR_wR, zS_wA, zK_wA, zN_wA, zA_wA, zR_wA, zaty_i, zaty_b, zaty_z, zaty_l, Nat.succ_eq_add_one, hS1, znf_11, znf_12, zj_0, zj_197]
  repeat (with_reducible refine And.intro ?_ ?_; · first | omega | (simp only [z32, z64]; omega))
  refine zEm_by (zBy_nw hB) (zk_106 (zCN_nw hc rfl) (fun G0 G2 hc0 hm h1 h2 h3 hB2 => ?_))
  have hV := zIV_0 hB2 hc0 hF hm h1 h2 h3
  try simp -implicitDefEqProofs only [zgn_0, zgn_s, zct_0, zct_s, Nat.reduceEqDiff, Nat.reduceBEq, Nat.reduceAdd, Nat.reduceSub, Nat.reduceMul, Int.reduceAdd, Int.reduceSub, Int.reduceMul, Int.reduceNeg, Int.reduceLT, Int.reduceLE, Int.reduceEq, Nat.zero_add, true_and, and_true, false_and, and_false, true_imp_iff, false_imp_iff, not_true_eq_false, not_false_eq_true, if_true, if_false, Bool.false_eq_true, ite_true, ite_false, reduceIte, eq_self, Int.toNat_natCast, zst_0, zst_1, zst_2, zst_3, zst_4, true_or, or_true, or_false, false_or, ze_307_0, zB_307_0, zbr_t, zbr_f, zrun_c, zmI_s, zmL_s, zmR_s, zgt_0, zgt_s, zln_0, zln_s, zs1_0, zs1_1i, zs1_1r, zs1_1n, zs1_1l, zs1_s, zs2_0, zs2_1i, zs2_1r, zs2_1n, zs2_1l, zs2_s, zcn_eq, zcn_ne, zcn_lt, zcn_ge, zcn_gt, zcn_le, zpu_0, zpu_1, zpu_2, zx_iconst, zx_lconst, zx_ldc, zx_ldc2, zx_null, zx_iload, zx_lload, zx_aload, zx_istore, zx_lstore, zx_astore, zx_iinc, zx_iadd, zx_isub, zx_imul, zx_idiv, zx_irem, zx_iand, zx_ior, zx_ixor, zx_ishl, zx_ishr, zx_iushr, zx_i2b, zx_i2l, zx_l2i, zx_ladd, zx_lmul, zx_ldiv, zx_lrem, zx_land, zx_lor, zx_lshl, zx_lshr, zx_lcmp, zx_dupi, zx_dupr, zx_dup2l, zx_dup2i, zx_pop, zx_ifc, zx_icmp, zx_ifnullN, zx_ifnullS, zx_ifnonN, zx_ifnonS, zx_goto, zx_gotow, zx_switch, zx_iaload, zx_baload, zx_laload, zx_aaload, zx_iastore, zx_bastore, zx_lastore, zx_aastore, zx_alen, zx_newarray, zx_anewarray, zx_new, zx_getI, zx_getL, zx_getR, zx_putI, zx_putZ, zx_putL, zx_putR, zx_callS, zx_callV, zx_objinit, zx_cpyi, zx_cpyl, zx_mmax, zx_mmin, zx_mminl, zx_ireturn, zx_areturn, zx_lreturn, zx_return, zcs_0, zcs_1, zcv_1, zcs_2, zcv_2, zcs_3, zcv_3, zcs_4, zcv_4, zcs_5, zcv_5, zcs_6, zcv_6, zcs_7, zcv_7, Int.reduceToNat, Nat.reduceDiv, Nat.reduceMod, zJ, zC, zK_wA, zN_wA, zR_wA, zS_wA, zA_wA, zK_wR, zN_wR, zR_wR, zS_wR, zA_wR, zK_cp, zN_cp, zR_cp, zS_cp, zA_cp, zK_mp, zN_mp, zR_mp, zS_mp, zA_mp, zfa, zfmm, zfa_1, zfb_1, zfa_2, zfb_2, zfa_3, zfb_3, zfa_4, zfb_4, zfa_5, zfb_5, zfa_6, zfb_6, zfa_7, zfb_7, zfa_8, zfb_8, zfa_9, zfb_9, zfa_10, zfb_10, zfa_12, zfb_12, zfa_20, zfb_20, zfa_21, zfb_21, zfa_30, zfb_30, zfa_48, zfb_48, zfa_60, zfb_60, zfa_61, zfb_61, zfa_65, zfb_65, zfa_97, zfb_97, zfa_100, zfb_100, zfa_120, zfb_120, zfa_124, zfb_124, zfa_500, zfb_500, zfa_792, zfb_792, zfa_2989, zfb_2989, zfm_2, zfn_2, zfm_3, zfn_3, zfm_4, zfn_4, zfm_6, zfn_6, zfm_7, zfn_7, zfm_8, zfn_8, zfm_12, zfn_12, zfm_49, zfn_49, zfm_60, zfn_60, zfm_61, zfn_61, zfm_792, zfn_792, zfm_2989, zfn_2989, Int.zero_add, Int.add_zero, Int.zero_mul, Int.mul_zero, Int.one_mul, Int.mul_one]
  repeat (with_reducible refine And.intro ?_ ?_; · first | omega | (simp only [z32, z64]; omega))
  exact zl_law (by omega) hL3 _ 0 G2 _ _ rfl (by omega) hV (fun _ => ⟨by omega, by omega⟩)
