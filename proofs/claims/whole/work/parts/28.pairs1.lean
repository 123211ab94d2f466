/-! ===== calls of both, side by side ===== -/
def zPair (xs : Nat → Int) (L d mC mM : Nat) (args : List zV) (H : zH) (P : zH → Prop) : Prop := zEm xs L d 0 0 mC (zr (some 1) :: args) H (fun r H1 => zEm xs L d 0 0 mM (zr (some 106) :: args) H1 (fun r' H2 => r' = r ∧ P H2))
theorem zc_in {xs : Nat → Int} {L d b1 b2 : Nat} {H : zH} {Q : zQ} {v lo hi : Int} (h : Q (if lo ≤ v ∧ v ≤ hi then 1 else 0) H) : zEm xs L d b1 b2 202 [zi v, zi lo, zi hi] H Q := by
  refine zem_202 (zgo_at [] 6 ?_)
  simp only [zgn_0, zgn_s, zct_0, zct_s, Nat.reduceEqDiff, Nat.reduceBEq, Nat.reduceAdd, Nat.reduceSub, Nat.reduceMul, Int.reduceAdd, Int.reduceSub, Int.reduceMul, Int.reduceNeg, Int.reduceLT, Int.reduceLE, Int.reduceEq, Nat.zero_add, true_and, and_true, false_and, and_false, true_imp_iff, false_imp_iff, not_true_eq_false, not_false_eq_true, if_true, if_false, Bool.false_eq_true, ite_true, ite_false, reduceIte, eq_self, Int.toNat_natCast, zst_0, zst_1, zst_2, zst_3, zst_4, ze_202_0, zB_202_0, ze_202_14, zB_202_14, ze_202_15, zB_202_15, zrun_c, zmI_s, zmL_s, zmR_s, zgt_0, zgt_s, zln_0, zln_s, zs1_0, zs1_1i, zs1_1r, zs1_1n, zs1_1l, zs1_s, zs2_0, zs2_1i, zs2_1r, zs2_1n, zs2_1l, zs2_s, zcn_eq, zcn_ne, zcn_lt, zcn_ge, zcn_gt, zcn_le, zpu_0, zpu_1, zpu_2, zx_iconst, zx_lconst, zx_ldc, zx_ldc2, zx_null, zx_iload, zx_lload, zx_aload, zx_istore, zx_lstore, zx_astore, zx_iinc, zx_iadd, zx_isub, zx_imul, zx_idiv, zx_irem, zx_iand, zx_ior, zx_ixor, zx_ishl, zx_ishr, zx_iushr, zx_i2b, zx_i2l, zx_l2i, zx_ladd, zx_lmul, zx_ldiv, zx_lrem, zx_land, zx_lor, zx_lshl, zx_lshr, zx_lcmp, zx_dupi, zx_dupr, zx_dup2l, zx_dup2i, zx_pop, zx_ifc, zx_icmp, zx_ifnullN, zx_ifnullS, zx_ifnonN, zx_ifnonS, zx_goto, zx_gotow, zx_switch, zx_iaload, zx_baload, zx_laload, zx_aaload, zx_iastore, zx_bastore, zx_lastore, zx_aastore, zx_alen, zx_newarray, zx_anewarray, zx_new, zx_getI, zx_getL, zx_getR, zx_putI, zx_putZ, zx_putL, zx_putR, zx_callS, zx_callV, zx_objinit, zx_cpyi, zx_cpyl, zx_mmax, zx_mmin, zx_mminl, zx_ireturn, zx_areturn, zx_lreturn, zx_return, zcs_0, zcs_1, zcv_1, zcs_2, zcv_2, zcs_3, zcv_3, zcs_4, zcv_4, zcs_5, zcv_5, zcs_6, zcv_6, zcs_7, zcv_7, Int.reduceToNat, Nat.reduceDiv, Nat.reduceMod, zJ, zC]
  refine ⟨fun h1 => ?_, fun h1 => ⟨fun h2 => ?_, fun h2 => ?_⟩⟩
  · rw [if_neg (by omega)] at h; exact h
  · rw [if_neg (by omega)] at h; exact h
  · rw [if_pos (by omega)] at h; exact h
theorem zc_isCue {xs : Nat → Int} {L d b1 b2 : Nat} {H : zH} {Q : zQ} {v : Int} (hd : 1 ≤ d) (h : Q (if 0 ≤ v ∧ v ≤ 7 then 1 else 0) H) : zEm xs L d b1 b2 201 [zi v] H Q := by
  refine zem_201 (zgo_at [] 6 ?_)
  simp only [zgn_0, zgn_s, zct_0, zct_s, Nat.reduceEqDiff, Nat.reduceBEq, Nat.reduceAdd, Nat.reduceSub, Nat.reduceMul, Int.reduceAdd, Int.reduceSub, Int.reduceMul, Int.reduceNeg, Int.reduceLT, Int.reduceLE, Int.reduceEq, Nat.zero_add, true_and, and_true, false_and, and_false, true_imp_iff, false_imp_iff, not_true_eq_false, not_false_eq_true, if_true, if_false, Bool.false_eq_true, ite_true, ite_false, reduceIte, eq_self, Int.toNat_natCast, zst_0, zst_1, zst_2, zst_3, zst_4, ze_201_0, zB_201_0, zrun_c, zmI_s, zmL_s, zmR_s, zgt_0, zgt_s, zln_0, zln_s, zs1_0, zs1_1i, zs1_1r, zs1_1n, zs1_1l, zs1_s, zs2_0, zs2_1i, zs2_1r, zs2_1n, zs2_1l, zs2_s, zcn_eq, zcn_ne, zcn_lt, zcn_ge, zcn_gt, zcn_le, zpu_0, zpu_1, zpu_2, zx_iconst, zx_lconst, zx_ldc, zx_ldc2, zx_null, zx_iload, zx_lload, zx_aload, zx_istore, zx_lstore, zx_astore, zx_iinc, zx_iadd, zx_isub, zx_imul, zx_idiv, zx_irem, zx_iand, zx_ior, zx_ixor, zx_ishl, zx_ishr, zx_iushr, zx_i2b, zx_i2l, zx_l2i, zx_ladd, zx_lmul, zx_ldiv, zx_lrem, zx_land, zx_lor, zx_lshl, zx_lshr, zx_lcmp, zx_dupi, zx_dupr, zx_dup2l, zx_dup2i, zx_pop, zx_ifc, zx_icmp, zx_ifnullN, zx_ifnullS, zx_ifnonN, zx_ifnonS, zx_goto, zx_gotow, zx_switch, zx_iaload, zx_baload, zx_laload, zx_aaload, zx_iastore, zx_bastore, zx_lastore, zx_aastore, zx_alen, zx_newarray, zx_anewarray, zx_new, zx_getI, zx_getL, zx_getR, zx_putI, zx_putZ, zx_putL, zx_putR, zx_callS, zx_callV, zx_objinit, zx_cpyi, zx_cpyl, zx_mmax, zx_mmin, zx_mminl, zx_ireturn, zx_areturn, zx_lreturn, zx_return, zcs_0, zcs_1, zcv_1, zcs_2, zcv_2, zcs_3, zcv_3, zcs_4, zcv_4, zcs_5, zcv_5, zcs_6, zcv_6, zcs_7, zcv_7, Int.reduceToNat, Nat.reduceDiv, Nat.reduceMod, zJ, zC]
  exact ⟨hd, zc_in (by split <;> simp_all)⟩
theorem zp_feed {xs : Nat → Int} {L d : Nat} {H : zH} {x1 x2 x3 x4 x5 : Int} (hd : 2 ≤ d) (hL : zLay H) (hT : iT H) : zPair xs L d 13 198 [zi x1, zi x2, zi x3, zi x4, zi x5] H (fun H2 => zmd (zin [3, 107] [(2, 3), (106, 1)]) H H2 ∧ iT H2) := by
  obtain ⟨n, hn, h1, h2, hb⟩ := hT
  refine zc_feed hd hL h1 (fun hgt => ?_) (fun hle H1 m1 s1 a1 => ?_)
  · exact zc_mfeed hL h2 hn zi2b_r (fun _ => ⟨rfl, zmd_rf _ _, n, hn, h1, h2, hb⟩) (fun h => by omega)
  · refine zc_mfeed (zmd_lay m1 hL) (by rw [m1.2.2.2 106 1 rfl]; exact h2) hn zi2b_r (fun h => by omega) (fun _ H2 m2 s2 a2 => ⟨rfl, zmd_tr (zmd_mono m1 (fun a j h => ?_)) (zmd_mono m2 (fun a j h => ?_)), n + 20, by omega, by rw [m2.2.2.2 2 3 rfl]; exact s1, s2, fun j hj => ?_⟩)
    · simp only [zin, List.contains_cons, List.contains_nil, Bool.or_eq_false_iff, Bool.or_false] at h ⊢; simp [h]
    · simp only [zin, List.contains_cons, List.contains_nil, Bool.or_eq_false_iff, Bool.or_false] at h ⊢; simp [h]
    · rw [m2.2.2.2 3 j rfl, a1 j, a2 j, m1.2.2.2 107 j rfl]
      by_cases hj2 : j < n
      · rw [if_pos hj2, if_pos hj2]; exact hb j hj2
      · rw [if_neg hj2, if_neg hj2, if_pos hj, if_pos hj]
        obtain ⟨q1, q2, q3⟩ := zfm_fb x1 x2 x3 x4 x5 (j - n) (by omega)
        exact ⟨⟨q2, q3⟩, q1⟩
theorem zp_end {xs : Nat → Int} {L d : Nat} {H : zH} {x : Int} (hd : 1 ≤ d) (hL : zLay H) (hT : iT H) : zPair xs L d 16 199 [zi x] H (fun H2 => zmd (zin [3, 107] [(2, 3), (106, 1)]) H H2 ∧ iT H2) := by
  obtain ⟨n, hn, h1, h2, hb⟩ := hT
  refine zc_end hd hL h1 (fun hx => ?_) (fun hx hy => ?_)
  · exact zc_mend hL h2 (fun _ => ⟨rfl, zmd_rf _ _, n, hn, h1, h2, hb⟩) (fun h h' => by omega)
  · refine zc_mend (zLay_wA hL 2 3 x) (by rw [zA_wA, if_neg (by omega)]; exact h2) (fun h => by omega) (fun _ _ => ⟨rfl, zmd_w (zmd_w (zmd_rf _ _) rfl) rfl, x.toNat, by omega, ?_, ?_, fun j hj => ?_⟩)
    · simp [zA_wA]; omega
    · simp [zA_wA]; omega
    · simp only [zA_wA]
      simp
      exact hb j (by omega)
