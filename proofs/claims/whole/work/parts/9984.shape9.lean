set_option maxRecDepth 100000 in
theorem zl_adA {xs : Nat → Int} {L d b1 b2 : Nat} {H0 : zH} {Q : zQ} {p0 c0 s0 p1 c1 s1 n1 p3 c3 s3 n3 a b : Nat} {S1 K1 S3 K3 : Nat → Nat} {A1 A3 : Nat → Prop} {v6 : Int} {n0 i : Nat} {K0 : Nat → Nat} {D : Nat → Prop} (hL0 : zLay H0) (o0 : zSO H0 p0 c0 s0 792) (o1 : zSO H0 p1 c1 s1 n1) (o3 : zSO H0 p3 c3 s3 n3) (hc0 : c0 ≠ 32) (x1 : c1 ≠ c0 ∧ c1 ≠ 32) (y1 : s1 ≠ c0 ∧ s1 ≠ 32) (x3 : c3 ≠ c0 ∧ c3 ≠ 32) (y3 : s3 ≠ c0 ∧ s3 ≠ 32) (hn1 : n1 ≤ 792) (hn3 : n3 ≤ 792) (g1 : zSh H0 c1 s1 n1 S1 K1 A1) (g3 : zSh H0 c3 s3 n3 S3 K3 A3) (hab : a + b ≤ 7) (hi1 : S1 a ≤ i) (hi2 : i < S1 (a + 1)) (h : ∀ (G : zH) (n : Nat) (K : Nat → Nat) (w9 w10 w11 w12 : Option zV), zAd H0 G c0 n K (fun x => D x ∨ ∃ u : Nat, S3 b ≤ u ∧ u < S3 (b + 1) ∧ x = K1 i + K3 u) → zXt n0 K0 (a + b) n K → zEt xs L d b1 b2 false 70 131 [some (zr (some p0)), some (zr (some p1)), some (zi a), some (zr (some p3)), some (zi b), some (zr (some 32)), some (zi v6), some (zi n), some (zi i), w9, w10, w11, w12] [] G Q) : ∀ (kk : Nat) (j : Nat) (n : Nat) (K : Nat → Nat) (G : zH) (w10 : Option zV) (w11 : Option zV) (w12 : Option zV), S3 (b + 1) - j = kk → (S3 b ≤ j ∧ j ≤ S3 (b + 1)) → (zAd H0 G c0 n K (fun x => D x ∨ ∃ u : Nat, S3 b ≤ u ∧ u < j ∧ x = K1 i + K3 u)) → (zXt n0 K0 (a + b) n K) → zEt xs L d b1 b2 false 70 34 [some (zr (some p0)), some (zr (some p1)), some (zi a), some (zr (some p3)), some (zi b), some (zr (some 32)), some (zi v6), some (zi n), some (zi i), some (zi j), w10, w11, w12] [] G Q := by
  intro kk
  induction kk using Nat.strongRecOn with
  | ind kk ih =>
    intro j n K G w10 w11 w12 hkk hj hA hX
    have hm := hA.1
    obtain ⟨q01, q02, q03, q04, q05, q06, q07⟩ := zSO_md hm o0
    obtain ⟨q11, q12, q13, q14, q15, q16, q17⟩ := zSO_md hm o1
    obtain ⟨q31, q32, q33, q34, q35, q36, q37⟩ := zSO_md hm o3
    have hL := zmd_lay hm hL0
    have es1 : ∀ i : Nat, i ≤ 8 → zA G s1 i = S1 i := fun i hi => by rw [hm.2.2.2 s1 i (zin2.mpr y1)]; exact g1.1.1 i hi
    have es3 : ∀ i : Nat, i ≤ 8 → zA G s3 i = S3 i := fun i hi => by rw [hm.2.2.2 s3 i (zin2.mpr y3)]; exact g3.1.1 i hi
    have m1 := zGd_le g1.2 (i := a + 1) (k := 8) (by omega) (by omega)
    have m3 := zGd_le g3.2 (i := b + 1) (k := 8) (by omega) (by omega)
    have u1 := g1.1.2.2
    have u3 := g3.1.2.2
    refine zgo_at [34, 131] 8 ?_
    try simp -implicitDefEqProofs only [zgn_0, zgn_s, zct_0, zct_s, Nat.reduceEqDiff, Nat.reduceBEq, Nat.reduceAdd, Nat.reduceSub, Nat.reduceMul, Int.reduceAdd, Int.reduceSub, Int.reduceMul, Int.reduceNeg, Int.reduceLT, Int.reduceLE, Int.reduceEq, Nat.zero_add, true_and, and_true, false_and, and_false, true_imp_iff, false_imp_iff, not_true_eq_false, not_false_eq_true, if_true, if_false, Bool.false_eq_true, ite_true, ite_false, reduceIte, eq_self, Int.toNat_natCast, zst_0, zst_1, zst_2, zst_3, zst_4, true_or, or_true, or_false, false_or, ze_70_0, zB_70_0, ze_70_12, zB_70_12, ze_70_34, zB_70_34, ze_70_125, zB_70_125, ze_70_131, zB_70_131, ze_70_137, zB_70_137, zbr_t, zbr_f, zrun_c, zmI_s, zmL_s, zmR_s, zgt_0, zgt_s, zln_0, zln_s, zs1_0, zs1_1i, zs1_1r, zs1_1n, zs1_1l, zs1_s, zs2_0, zs2_1i, zs2_1r, zs2_1n, zs2_1l, zs2_s, zcn_eq, zcn_ne, zcn_lt, zcn_ge, zcn_gt, zcn_le, zpu_0, zpu_1, zpu_2, zx_iconst, zx_lconst, zx_ldc, zx_ldc2, zx_null, zx_iload, zx_lload, zx_aload, zx_istore, zx_lstore, zx_astore, zx_iinc, zx_iadd, zx_isub, zx_imul, zx_idiv, zx_irem, zx_iand, zx_ior, zx_ixor, zx_ishl, zx_ishr, zx_iushr, zx_i2b, zx_i2l, zx_l2i, zx_ladd, zx_lmul, zx_ldiv, zx_lrem, zx_land, zx_lor, zx_lshl, zx_lshr, zx_lcmp, zx_dupi, zx_dupr, zx_dup2l, zx_dup2i, zx_pop, zx_ifc, zx_icmp, zx_ifnullN, zx_ifnullS, zx_ifnonN, zx_ifnonS, zx_goto, zx_gotow, zx_switch, zx_iaload, zx_baload, zx_laload, zx_aaload, zx_iastore, zx_bastore, zx_lastore, zx_aastore, zx_alen, zx_newarray, zx_anewarray, zx_new, zx_getI, zx_getL, zx_getR, zx_putI, zx_putZ, zx_putL, zx_putR, zx_callS, zx_callV, zx_objinit, zx_cpyi, zx_cpyl, zx_mmax, zx_mmin, zx_mminl, zx_ireturn, zx_areturn, zx_lreturn, zx_return, zcs_0, zcs_1, zcv_1, zcs_2, zcv_2, zcs_3, zcv_3, zcs_4, zcv_4, zcs_5, zcv_5, zcs_6, zcv_6, zcs_7, zcv_7, Int.reduceToNat, Nat.reduceDiv, Nat.reduceMod, zJ, zC, zK_wA, zN_wA, zR_wA, zS_wA, zA_wA, zK_wR, zN_wR, zR_wR, zS_wR, zA_wR, zK_cp, zN_cp, zR_cp, zS_cp, zA_cp, zK_mp, zN_mp, zR_mp, zS_mp, zA_mp, zfa, zfmm, zfa_1, zfb_1, zfa_2, zfb_2, zfa_3, zfb_3, zfa_4, zfb_4, zfa_5, zfb_5, zfa_6, zfb_6, zfa_7, zfb_7, zfa_8, zfb_8, zfa_9, zfb_9, zfa_10, zfb_10, zfa_12, zfb_12, zfa_20, zfb_20, zfa_21, zfb_21, zfa_30, zfb_30, zfa_48, zfb_48, zfa_60, zfb_60, zfa_61, zfb_61, zfa_65, zfb_65, zfa_97, zfb_97, zfa_100, zfb_100, zfa_120, zfb_120, zfa_124, zfb_124, zfa_500, zfb_500, zfa_792, zfb_792, zfa_2989, zfb_2989, zfm_2, zfn_2, zfm_3, zfn_3, zfm_4, zfn_4, zfm_6, zfn_6, zfm_7, zfn_7, zfm_8, zfn_8, zfm_12, zfn_12, zfm_49, zfn_49, zfm_60, zfn_60, zfm_61, zfn_61, zfm_792, zfn_792, zfm_2989, zfn_2989, Int.zero_add, Int.add_zero, Int.zero_mul, Int.mul_zero, Int.one_mul, Int.mul_one, q01, q02, q03, q04, q05, q06, q07, q11, q12, q13, q14, q15, q16, q17, q31, q32, q33, q34, q35, q36, q37, lk_32 hL, ln_32 hL, es3 (b + 1) (by omega)]
    repeat (with_reducible refine And.intro ?_ ?_; · first | omega | (simp only [z32, z64]; omega))
    refine zbr_i (fun q => ?_) (fun q => ?_)
    · have e9 : j = S3 (b + 1) := by omega
      subst e9
      exact h G n K _ _ _ _ hA hX
    · have ei : zA G c1 i = K1 i := by rw [hm.2.2.2 c1 i (zin2.mpr x1)]; exact g1.1.2.1 i (by omega)
      have ej : zA G c3 j = K3 j := by rw [hm.2.2.2 c3 j (zin2.mpr x3)]; exact g3.1.2.1 j (by omega)
      have t1 := g1.2.2.2.1 a i (by omega) hi1 hi2
      have t3 := g3.2.2.2.1 b j (by omega) hj.1 (by omega)
      have k1 := g1.2.2.2.2.1 i (by omega)
      have k3 := g3.2.2.2.2.1 j (by omega)
      have tt := ztot_a k1 k3 (by omega)
      have hn := zAd_n hA
      have ih0 := fun (j' n' : Nat) (K' : Nat → Nat) (G' : zH) (a1 a2 a3 : Option zV) (h1 : S3 (b + 1) - j' < kk) (h2 : S3 b ≤ j' ∧ j' ≤ S3 (b + 1)) => ih _ h1 j' n' K' G' a1 a2 a3 rfl h2
      rw [ei, ej]
      rw [show ((K1 i : Nat) : Int) + (K3 j : Nat) = ((K1 i + K3 j : Nat) : Int) by omega, zsr6 (by omega), zan63 (by omega), Int.toNat_natCast]
      have hbit := hA.2.2.1 (K1 i + K3 j) tt.1
      have hw : (K1 i + K3 j) / 64 < 512 := by omega
      clear g1 g3 ih h es1 es3
      repeat (with_reducible refine And.intro ?_ ?_; · first | omega | (simp only [z32, z64]; omega))
      refine zbr_i (fun q0 => ?_) (fun q0 => ?_)
      · rw [zlcm_0] at q0
        have hD := hbit.mp q0
        repeat (with_reducible refine And.intro ?_ ?_; · first | omega | (simp only [z32, z64]; omega))
        refine ih0 (j + 1) n K G _ _ _ (by omega) (by omega) (zAd_c hA (fun x => ?_)) hX
        constructor
        · rintro (r | ⟨u, r1, r2, r3⟩)
          · exact Or.inl r
          · exact Or.inr ⟨u, r1, by omega, r3⟩
        · rintro (r | ⟨u, r1, r2, r3⟩)
          · exact Or.inl r
          · by_cases eu : u = j
            · subst eu; rw [r3]; exact hD
            · exact Or.inr ⟨u, r1, by omega, r3⟩
      · rw [Classical.not_not, zlcm_0] at q0
        have hD := fun r => (hbit.mpr r) q0
        have hlt := zAd_x hA tt.1 (by omega) hD
        refine ⟨by omega, zbr_i (fun q1 => by omega) (fun q1 => ?_)⟩
        repeat (with_reducible refine And.intro ?_ ?_; · first | omega | (simp only [z32, z64]; omega))
        refine ih0 (j + 1) (n + 1) _ _ _ _ _ (by omega) (by omega) (zAd_c (zAd_go hc0 hA tt.1 (by omega) hD) (fun x => ?_)) (zXt_1 hX (by omega))
        constructor
        · rintro ((r | ⟨u, r1, r2, r3⟩) | r)
          · exact Or.inl r
          · exact Or.inr ⟨u, r1, by omega, r3⟩
          · exact Or.inr ⟨j, by omega, by omega, r⟩
        · rintro (r | ⟨u, r1, r2, r3⟩)
          · exact Or.inl (Or.inl r)
          · by_cases eu : u = j
            · subst eu; exact Or.inr r3
            · exact Or.inl (Or.inr ⟨u, r1, by omega, r3⟩)
