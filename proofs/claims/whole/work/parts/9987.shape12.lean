theorem zinw {a j : Nat} : zin [32] [] a j = false ↔ a ≠ 32 := by
  simp [zin]
theorem zss_D {S1 K1 S3 K3 : Nat → Nat} {A1 A3 : Nat → Prop} (g1 : zGd S1 K1 A1) (g3 : zGd S3 K3 A3) {t : Nat} (ht : t ≤ 7) (x : Nat) : ((zSm A1 A3 x ∧ ztot x < t) ∨ ∃ a u v : Nat, a < t + 1 ∧ S1 a ≤ u ∧ u < S1 (a + 1) ∧ S3 (t - a) ≤ v ∧ v < S3 (t - a + 1) ∧ x = K1 u + K3 v) ↔ (zSm A1 A3 x ∧ ztot x < t + 1) := by
  constructor
  · rintro (⟨r1, r2⟩ | ⟨a, u, v, r1, r2, r3, r4, r5, rfl⟩)
    · exact ⟨r1, by omega⟩
    · obtain ⟨p1, p2⟩ := (zGd_A g1 (i := a) (x := K1 u) (by omega)).mpr ⟨u, r2, r3, rfl⟩
      obtain ⟨q1, q2⟩ := (zGd_A g3 (i := t - a) (x := K3 v) (by omega)).mpr ⟨v, r4, r5, rfl⟩
      have := ztot_a (zGd_in g1 _ p1).1 (zGd_in g3 _ q1).1 (by omega)
      exact ⟨⟨_, _, p1, q1, by omega, rfl⟩, by omega⟩
  · rintro ⟨r1, r2⟩
    by_cases r3 : ztot x < t
    · exact Or.inl ⟨r1, r3⟩
    · obtain ⟨p, q, hp, hq, h7, rfl⟩ := r1
      have := ztot_a (zGd_in g1 _ hp).1 (zGd_in g3 _ hq).1 h7
      obtain ⟨u, u1, u2, rfl⟩ := (zGd_A g1 (i := ztot p) (x := p) (by omega)).mp ⟨hp, rfl⟩
      obtain ⟨v, v1, v2, rfl⟩ := (zGd_A g3 (i := ztot q) (x := q) (by omega)).mp ⟨hq, rfl⟩
      refine Or.inr ⟨ztot (K1 u), u, v, by omega, u1, u2, ?_, ?_, rfl⟩
      · rw [show t - ztot (K1 u) = ztot (K3 v) by omega]; exact v1
      · rw [show t - ztot (K1 u) = ztot (K3 v) by omega]; exact v2
set_option maxRecDepth 100000 in
theorem zl_ssC {xs : Nat → Int} {L d b1 b2 : Nat} {H0 : zH} {Q : zQ} {p0 c0 s0 p1 p3 n : Nat} {K : Nat → Nat} (hL0 : zLay H0) (o0 : zSO H0 p0 c0 s0 792) (hc0 : c0 ≠ 32) (hn : n ≤ 792) (hK : ∀ j : Nat, j < n → zA H0 c0 j = K j ∧ K j < 32768) (h : ∀ G : zH, zmd (zin [32] []) H0 G → (∀ i : Nat, i < 512 → zA G 32 i = 0) → Q 0 G) : ∀ (kk : Nat) (i : Nat) (G : zH) (w6 : Option zV), n - i = kk → (i ≤ n) → (zmd (zin [32] []) H0 G) → (∀ k : Nat, k < 512 → zA G 32 k = 0 ∨ ∃ j : Nat, i ≤ j ∧ j < n ∧ K j / 64 = k) → zEt xs L d b1 b2 false 69 74 [some (zr (some p0)), some (zr (some p1)), some (zr (some p3)), some (zr (some 32)), some (zi n), some (zi i), w6] [] G Q := by
  intro kk
  induction kk using Nat.strongRecOn with
  | ind kk ih =>
    intro i G w6 hkk hi hm hw
    refine zgo_at [74] 8 ?_
    try simp -implicitDefEqProofs only [zgn_0, zgn_s, zct_0, zct_s, Nat.reduceEqDiff, Nat.reduceBEq, Nat.reduceAdd, Nat.reduceSub, Nat.reduceMul, Int.reduceAdd, Int.reduceSub, Int.reduceMul, Int.reduceNeg, Int.reduceLT, Int.reduceLE, Int.reduceEq, Nat.zero_add, true_and, and_true, false_and, and_false, true_imp_iff, false_imp_iff, not_true_eq_false, not_false_eq_true, if_true, if_false, Bool.false_eq_true, ite_true, ite_false, reduceIte, eq_self, Int.toNat_natCast, zst_0, zst_1, zst_2, zst_3, zst_4, true_or, or_true, or_false, false_or, ze_69_0, zB_69_0, ze_69_6, zB_69_6, ze_69_25, zB_69_25, ze_69_56, zB_69_56, ze_69_62, zB_69_62, ze_69_74, zB_69_74, ze_69_100, zB_69_100, zbr_t, zbr_f, zrun_c, zmI_s, zmL_s, zmR_s, zgt_0, zgt_s, zln_0, zln_s, zs1_0, zs1_1i, zs1_1r, zs1_1n, zs1_1l, zs1_s, zs2_0, zs2_1i, zs2_1r, zs2_1n, zs2_1l, zs2_s, zcn_eq, zcn_ne, zcn_lt, zcn_ge, zcn_gt, zcn_le, zpu_0, zpu_1, zpu_2, zx_iconst, zx_lconst, zx_ldc, zx_ldc2, zx_null, zx_iload, zx_lload, zx_aload, zx_istore, zx_lstore, zx_astore, zx_iinc, zx_iadd, zx_isub, zx_imul, zx_idiv, zx_irem, zx_iand, zx_ior, zx_ixor, zx_ishl, zx_ishr, zx_iushr, zx_i2b, zx_i2l, zx_l2i, zx_ladd, zx_lmul, zx_ldiv, zx_lrem, zx_land, zx_lor, zx_lshl, zx_lshr, zx_lcmp, zx_dupi, zx_dupr, zx_dup2l, zx_dup2i, zx_pop, zx_ifc, zx_icmp, zx_ifnullN, zx_ifnullS, zx_ifnonN, zx_ifnonS, zx_goto, zx_gotow, zx_switch, zx_iaload, zx_baload, zx_laload, zx_aaload, zx_iastore, zx_bastore, zx_lastore, zx_aastore, zx_alen, zx_newarray, zx_anewarray, zx_new, zx_getI, zx_getL, zx_getR, zx_putI, zx_putZ, zx_putL, zx_putR, zx_callS, zx_callV, zx_objinit, zx_cpyi, zx_cpyl, zx_mmax, zx_mmin, zx_mminl, zx_ireturn, zx_areturn, zx_lreturn, zx_return, zcs_0, zcs_1, zcv_1, zcs_2, zcv_2, zcs_3, zcv_3, zcs_4, zcv_4, zcs_5, zcv_5, zcs_6, zcv_6, zcs_7, zcv_7, Int.reduceToNat, Nat.reduceDiv, Nat.reduceMod, zJ, zC, zK_wA, zN_wA, zR_wA, zS_wA, zA_wA, zK_wR, zN_wR, zR_wR, zS_wR, zA_wR, zK_cp, zN_cp, zR_cp, zS_cp, zA_cp, zK_mp, zN_mp, zR_mp, zS_mp, zA_mp, zfa, zfmm, zfa_1, zfb_1, zfa_2, zfb_2, zfa_3, zfb_3, zfa_4, zfb_4, zfa_5, zfb_5, zfa_6, zfb_6, zfa_7, zfb_7, zfa_8, zfb_8, zfa_9, zfb_9, zfa_10, zfb_10, zfa_12, zfb_12, zfa_20, zfb_20, zfa_21, zfb_21, zfa_30, zfb_30, zfa_48, zfb_48, zfa_60, zfb_60, zfa_61, zfb_61, zfa_65, zfb_65, zfa_97, zfb_97, zfa_100, zfb_100, zfa_120, zfb_120, zfa_124, zfb_124, zfa_500, zfb_500, zfa_792, zfb_792, zfa_2989, zfb_2989, zfm_2, zfn_2, zfm_3, zfn_3, zfm_4, zfn_4, zfm_6, zfn_6, zfm_7, zfn_7, zfm_8, zfn_8, zfm_12, zfn_12, zfm_49, zfn_49, zfm_60, zfn_60, zfm_61, zfn_61, zfm_792, zfn_792, zfm_2989, zfn_2989, Int.zero_add, Int.add_zero, Int.zero_mul, Int.mul_zero, Int.one_mul, Int.mul_one, (zSO_md hm o0).1, (zSO_md hm o0).2.1, (zSO_md hm o0).2.2.2.1, (zSO_md hm o0).2.2.2.2.1, lk_32 (zmd_lay hm hL0), ln_32 (zmd_lay hm hL0)]
    refine zbr_i (fun q => ?_) (fun q => ?_)
    · have e9 : i = n := by omega
      subst e9
      exact h G hm (fun k hk => (hw k hk).elim id (fun ⟨j, r1, r2, _⟩ => by omega))
    · have hKi := hK i (by omega)
      have ek : zA G c0 i = K i := by rw [hm.2.2.2 c0 i (zinw.mpr hc0)]; exact hKi.1
      rw [ek, zsr6 (by omega), Int.toNat_natCast]
      repeat (with_reducible refine And.intro ?_ ?_; · first | omega | (simp only [z32, z64]; omega))
      refine ih _ (by omega) (i + 1) _ _ rfl (by omega) (zmd_w hm rfl) (fun k hk => ?_)
      rw [zA_wA]
      by_cases e : k = K i / 64
      · exact Or.inl (by rw [if_pos ⟨rfl, e⟩])
      · rw [if_neg (fun q => e q.2)]
        rcases hw k hk with r | ⟨j, r1, r2, r3⟩
        · exact Or.inl r
        · by_cases ej : j = i
          · subst ej; exact absurd r3.symm e
          · exact Or.inr ⟨j, by omega, r2, r3⟩
set_option maxRecDepth 100000 in
theorem zl_ssB {xs : Nat → Int} {L d b1 b2 : Nat} {H0 : zH} {Q : zQ} {p0 c0 s0 p1 c1 s1 n1 p3 c3 s3 n3 : Nat} {S1 K1 S3 K3 : Nat → Nat} {A1 A3 : Nat → Prop} (hL0 : zLay H0) (o0 : zSO H0 p0 c0 s0 792) (o1 : zSO H0 p1 c1 s1 n1) (o3 : zSO H0 p3 c3 s3 n3) (hc0 : c0 ≠ 32 ∧ s0 ≠ 32 ∧ s0 ≠ c0) (x1 : c1 ≠ c0 ∧ c1 ≠ s0 ∧ c1 ≠ 32) (y1 : s1 ≠ c0 ∧ s1 ≠ s0 ∧ s1 ≠ 32) (x3 : c3 ≠ c0 ∧ c3 ≠ s0 ∧ c3 ≠ 32) (y3 : s3 ≠ c0 ∧ s3 ≠ s0 ∧ s3 ≠ 32) (hn1 : n1 ≤ 792) (hn3 : n3 ≤ 792) (g1 : zSh H0 c1 s1 n1 S1 K1 A1) (g3 : zSh H0 c3 s3 n3 S3 K3 A3) (hd : 1 ≤ d) (h : ∀ (G : zH) (S K : Nat → Nat), zmd (zin [c0, s0, 32] []) H0 G → zSh G c0 s0 792 S K (zSm A1 A3) → (∀ i : Nat, i < 512 → zA G 32 i = 0) → Q 0 G) : ∀ (kk : Nat) (t : Nat) (S : Nat → Nat) (K : Nat → Nat) (G : zH) (w6 : Option zV), 8 - t = kk → (t ≤ 8) → (zmd (zin [c0, s0, 32] []) H0 G) → (zAd G G c0 (S t) K (fun x => zSm A1 A3 x ∧ ztot x < t)) → (S 0 = 0) → (∀ i : Nat, i < t → S i ≤ S (i + 1)) → (∀ i : Nat, i < t → zA G s0 i = S i) → (∀ i j : Nat, i < t → S i ≤ j → j < S (i + 1) → ztot (K j) = i) → zEt xs L d b1 b2 false 69 6 [some (zr (some p0)), some (zr (some p1)), some (zr (some p3)), some (zr (some 32)), some (zi (S t : Nat)), some (zi t), w6] [] G Q := by
  intro kk
  induction kk using Nat.strongRecOn with
  | ind kk ih =>
    intro t S K G w6 hkk ht hm hA h0 hmo hs htt
    obtain ⟨q01, q02, q03, q04, q05, q06, q07⟩ := zSO_md hm o0
    have hNN := zAd_n hA
    refine zgo_at [6, 25, 74] 8 ?_
    try simp -implicitDefEqProofs only [zgn_0, zgn_s, zct_0, zct_s, Nat.reduceEqDiff, Nat.reduceBEq, Nat.reduceAdd, Nat.reduceSub, Nat.reduceMul, Int.reduceAdd, Int.reduceSub, Int.reduceMul, Int.reduceNeg, Int.reduceLT, Int.reduceLE, Int.reduceEq, Nat.zero_add, true_and, and_true, false_and, and_false, true_imp_iff, false_imp_iff, not_true_eq_false, not_false_eq_true, if_true, if_false, Bool.false_eq_true, ite_true, ite_false, reduceIte, eq_self, Int.toNat_natCast, zst_0, zst_1, zst_2, zst_3, zst_4, true_or, or_true, or_false, false_or, ze_69_0, zB_69_0, ze_69_6, zB_69_6, ze_69_25, zB_69_25, ze_69_56, zB_69_56, ze_69_62, zB_69_62, ze_69_74, zB_69_74, ze_69_100, zB_69_100, zbr_t, zbr_f, zrun_c, zmI_s, zmL_s, zmR_s, zgt_0, zgt_s, zln_0, zln_s, zs1_0, zs1_1i, zs1_1r, zs1_1n, zs1_1l, zs1_s, zs2_0, zs2_1i, zs2_1r, zs2_1n, zs2_1l, zs2_s, zcn_eq, zcn_ne, zcn_lt, zcn_ge, zcn_gt, zcn_le, zpu_0, zpu_1, zpu_2, zx_iconst, zx_lconst, zx_ldc, zx_ldc2, zx_null, zx_iload, zx_lload, zx_aload, zx_istore, zx_lstore, zx_astore, zx_iinc, zx_iadd, zx_isub, zx_imul, zx_idiv, zx_irem, zx_iand, zx_ior, zx_ixor, zx_ishl, zx_ishr, zx_iushr, zx_i2b, zx_i2l, zx_l2i, zx_ladd, zx_lmul, zx_ldiv, zx_lrem, zx_land, zx_lor, zx_lshl, zx_lshr, zx_lcmp, zx_dupi, zx_dupr, zx_dup2l, zx_dup2i, zx_pop, zx_ifc, zx_icmp, zx_ifnullN, zx_ifnullS, zx_ifnonN, zx_ifnonS, zx_goto, zx_gotow, zx_switch, zx_iaload, zx_baload, zx_laload, zx_aaload, zx_iastore, zx_bastore, zx_lastore, zx_aastore, zx_alen, zx_newarray, zx_anewarray, zx_new, zx_getI, zx_getL, zx_getR, zx_putI, zx_putZ, zx_putL, zx_putR, zx_callS, zx_callV, zx_objinit, zx_cpyi, zx_cpyl, zx_mmax, zx_mmin, zx_mminl, zx_ireturn, zx_areturn, zx_lreturn, zx_return, zcs_0, zcs_1, zcv_1, zcs_2, zcv_2, zcs_3, zcv_3, zcs_4, zcv_4, zcs_5, zcv_5, zcs_6, zcv_6, zcs_7, zcv_7, Int.reduceToNat, Nat.reduceDiv, Nat.reduceMod, zJ, zC, zK_wA, zN_wA, zR_wA, zS_wA, zA_wA, zK_wR, zN_wR, zR_wR, zS_wR, zA_wR, zK_cp, zN_cp, zR_cp, zS_cp, zA_cp, zK_mp, zN_mp, zR_mp, zS_mp, zA_mp, zfa, zfmm, zfa_1, zfb_1, zfa_2, zfb_2, zfa_3, zfb_3, zfa_4, zfb_4, zfa_5, zfb_5, zfa_6, zfb_6, zfa_7, zfb_7, zfa_8, zfb_8, zfa_9, zfb_9, zfa_10, zfb_10, zfa_12, zfb_12, zfa_20, zfb_20, zfa_21, zfb_21, zfa_30, zfb_30, zfa_48, zfb_48, zfa_60, zfb_60, zfa_61, zfb_61, zfa_65, zfb_65, zfa_97, zfb_97, zfa_100, zfb_100, zfa_120, zfb_120, zfa_124, zfb_124, zfa_500, zfb_500, zfa_792, zfb_792, zfa_2989, zfb_2989, zfm_2, zfn_2, zfm_3, zfn_3, zfm_4, zfn_4, zfm_6, zfn_6, zfm_7, zfn_7, zfm_8, zfn_8, zfm_12, zfn_12, zfm_49, zfn_49, zfm_60, zfn_60, zfm_61, zfn_61, zfm_792, zfn_792, zfm_2989, zfn_2989, Int.zero_add, Int.add_zero, Int.zero_mul, Int.mul_zero, Int.one_mul, Int.mul_one, q01, q02, q03, q04, q05, q06, q07]
    refine zbr_i (fun q => ?_) (fun q => ?_)
    · have e9 : t = 8 := by omega
      subst e9
      repeat (with_reducible refine And.intro ?_ ?_; · first | omega | (simp only [z32, z64]; omega))
      have hN := zAd_n hA
      have hA1 := zAd_w hA (s := s0) (j := 8) (v := ((S 8 : Nat) : Int)) hc0.2.2 hc0.2.1
      have hm1 : zmd (zin [c0, s0, 32] []) H0 (zwA G s0 8 (S 8 : Nat)) := zmd_w hm zin3s
      refine zl_ssC (H0 := zwA G s0 8 (S 8 : Nat)) (K := K) (zmd_lay hm1 hL0) (zSO_md hm1 o0) hc0.1 hN (fun j hj => ⟨hA1.2.1 j hj, (hA1.2.2.2.2.1 j hj).1⟩) (fun G' hm' hz => ?_) _ 0 _ _ rfl (by omega) (zmd_rf _ _) (fun k hk => ?_)
      · refine h G' S K (zmd_tr hm1 (zmd_mono hm' (fun a j q => zinw.mpr (zin3.mp q).2.2))) ⟨⟨fun i hi => ?_, fun j hj => ?_, by omega⟩, h0, hmo, htt, fun j hj => (hA.2.2.2.2.1 j hj).1, hA.2.2.2.2.2.1, fun x => ?_⟩ hz
        · rw [hm'.2.2.2 s0 i (zinw.mpr hc0.2.1), zA_wA]
          by_cases ei : i = 8
          · rw [if_pos ⟨rfl, ei⟩, ei]
          · rw [if_neg (fun q => ei q.2)]; exact hs i (by omega)
        · rw [hm'.2.2.2 c0 j (zinw.mpr hc0.1)]
          exact hA1.2.1 j hj
        · rw [← hA.2.2.2.1 x]
          exact ⟨fun r => ⟨r, by obtain ⟨p, q, r1, r2, r3, rfl⟩ := r; have := ztot_a (zGd_in g1.2 _ r1).1 (zGd_in g3.2 _ r2).1 r3; omega⟩, fun r => r.1⟩
      · rcases hA1.2.2.2.2.2.2 k hk with r | ⟨j, r1, r2⟩
        · exact Or.inl r
        · exact Or.inr ⟨j, by omega, r1, r2⟩
    · repeat (with_reducible refine And.intro ?_ ?_; · first | omega | (simp only [z32, z64]; omega))
      have hm1 : zmd (zin [c0, s0, 32] []) H0 (zwA G s0 t (S t : Nat)) := zmd_w hm zin3s
      have hA1 := zAd_w hA (s := s0) (j := t) (v := ((S t : Nat) : Int)) hc0.2.2 hc0.2.1
      refine zl_ssA (H0 := zwA G s0 t (S t : Nat)) (t := t) (n0 := S t) (K0 := K) (E := fun x => zSm A1 A3 x ∧ ztot x < t) (zmd_lay hm1 hL0) (zSO_md hm1 o0) (zSO_md hm1 o1) (zSO_md hm1 o3) hc0.1 ⟨x1.1, x1.2.2⟩ ⟨y1.1, y1.2.2⟩ ⟨x3.1, x3.2.2⟩ ⟨y3.1, y3.2.2⟩ hn1 hn3 (zSh_md hm1 (fun _ => zin3.mpr x1) (fun _ => zin3.mpr y1) g1) (zSh_md hm1 (fun _ => zin3.mpr x3) (fun _ => zin3.mpr y3) g3) hd (by omega) (fun G' n K' hA' hX' => ?_) _ 0 (S t) K _ rfl (by omega) (zAd_c hA1 (fun x => ?_)) (zXt_0 _ _ _)
      · refine zgo_at [6] 4 ?_
        try simp -implicitDefEqProofs only [zgn_0, zgn_s, zct_0, zct_s, Nat.reduceEqDiff, Nat.reduceBEq, Nat.reduceAdd, Nat.reduceSub, Nat.reduceMul, Int.reduceAdd, Int.reduceSub, Int.reduceMul, Int.reduceNeg, Int.reduceLT, Int.reduceLE, Int.reduceEq, Nat.zero_add, true_and, and_true, false_and, and_false, true_imp_iff, false_imp_iff, not_true_eq_false, not_false_eq_true, if_true, if_false, Bool.false_eq_true, ite_true, ite_false, reduceIte, eq_self, Int.toNat_natCast, zst_0, zst_1, zst_2, zst_3, zst_4, true_or, or_true, or_false, false_or, ze_69_0, zB_69_0, ze_69_6, zB_69_6, ze_69_25, zB_69_25, ze_69_56, zB_69_56, ze_69_62, zB_69_62, ze_69_74, zB_69_74, ze_69_100, zB_69_100, zbr_t, zbr_f, zrun_c, zmI_s, zmL_s, zmR_s, zgt_0, zgt_s, zln_0, zln_s, zs1_0, zs1_1i, zs1_1r, zs1_1n, zs1_1l, zs1_s, zs2_0, zs2_1i, zs2_1r, zs2_1n, zs2_1l, zs2_s, zcn_eq, zcn_ne, zcn_lt, zcn_ge, zcn_gt, zcn_le, zpu_0, zpu_1, zpu_2, zx_iconst, zx_lconst, zx_ldc, zx_ldc2, zx_null, zx_iload, zx_lload, zx_aload, zx_istore, zx_lstore, zx_astore, zx_iinc, zx_iadd, zx_isub, zx_imul, zx_idiv, zx_irem, zx_iand, zx_ior, zx_ixor, zx_ishl, zx_ishr, zx_iushr, zx_i2b, zx_i2l, zx_l2i, zx_ladd, zx_lmul, zx_ldiv, zx_lrem, zx_land, zx_lor, zx_lshl, zx_lshr, zx_lcmp, zx_dupi, zx_dupr, zx_dup2l, zx_dup2i, zx_pop, zx_ifc, zx_icmp, zx_ifnullN, zx_ifnullS, zx_ifnonN, zx_ifnonS, zx_goto, zx_gotow, zx_switch, zx_iaload, zx_baload, zx_laload, zx_aaload, zx_iastore, zx_bastore, zx_lastore, zx_aastore, zx_alen, zx_newarray, zx_anewarray, zx_new, zx_getI, zx_getL, zx_getR, zx_putI, zx_putZ, zx_putL, zx_putR, zx_callS, zx_callV, zx_objinit, zx_cpyi, zx_cpyl, zx_mmax, zx_mmin, zx_mminl, zx_ireturn, zx_areturn, zx_lreturn, zx_return, zcs_0, zcs_1, zcv_1, zcs_2, zcv_2, zcs_3, zcv_3, zcs_4, zcv_4, zcs_5, zcv_5, zcs_6, zcv_6, zcs_7, zcv_7, Int.reduceToNat, Nat.reduceDiv, Nat.reduceMod, zJ, zC, zK_wA, zN_wA, zR_wA, zS_wA, zA_wA, zK_wR, zN_wR, zR_wR, zS_wR, zA_wR, zK_cp, zN_cp, zR_cp, zS_cp, zA_cp, zK_mp, zN_mp, zR_mp, zS_mp, zA_mp, zfa, zfmm, zfa_1, zfb_1, zfa_2, zfb_2, zfa_3, zfb_3, zfa_4, zfb_4, zfa_5, zfb_5, zfa_6, zfb_6, zfa_7, zfb_7, zfa_8, zfb_8, zfa_9, zfb_9, zfa_10, zfb_10, zfa_12, zfb_12, zfa_20, zfb_20, zfa_21, zfb_21, zfa_30, zfb_30, zfa_48, zfb_48, zfa_60, zfb_60, zfa_61, zfb_61, zfa_65, zfb_65, zfa_97, zfb_97, zfa_100, zfb_100, zfa_120, zfb_120, zfa_124, zfb_124, zfa_500, zfb_500, zfa_792, zfb_792, zfa_2989, zfb_2989, zfm_2, zfn_2, zfm_3, zfn_3, zfm_4, zfn_4, zfm_6, zfn_6, zfm_7, zfn_7, zfm_8, zfn_8, zfm_12, zfn_12, zfm_49, zfn_49, zfm_60, zfn_60, zfm_61, zfn_61, zfm_792, zfn_792, zfm_2989, zfn_2989, Int.zero_add, Int.add_zero, Int.zero_mul, Int.mul_zero, Int.one_mul, Int.mul_one]
        repeat (with_reducible refine And.intro ?_ ?_; · first | omega | (simp only [z32, z64]; omega))
        obtain ⟨X1, X2, X3⟩ := hX'
        have en : n = zKp S (t + 1) n (t + 1) := zKp_e.symm
        have eo : ∀ i : Nat, i ≤ t → zKp S (t + 1) n i = S i := fun i hi => zKp_n (by omega)
        have hmG : zmd (zin [c0, s0, 32] []) H0 G' := zmd_tr hm1 (zin23 hA'.1)
        have hA2 : zAd G' G' c0 n K' (fun x => zSm A1 A3 x ∧ ztot x < t + 1) := zAd_c (zAd_b hA') (fun x => zss_D g1.2 g3.2 (by omega) x)
        rw [en] at hA2
        have fin := ih (8 - (t + 1)) (by omega) (t + 1) (zKp S (t + 1) n) K' G' (some (zi (t + 1 : Nat))) rfl (by omega) hmG hA2 (by rw [eo 0 (by omega)]; exact h0) (fun i hi => ?_) (fun i hi => ?_) (fun i j hi h1 h2 => ?_)
        · rw [← en] at fin; exact fin
        · rw [eo i (by omega)]
          by_cases e : i = t
          · subst e; rw [← en]; exact X1
          · rw [eo (i + 1) (by omega)]; exact hmo i (by omega)
        · rw [eo i (by omega), hA'.1.2.2.2 s0 i (zin2.mpr ⟨hc0.2.2, hc0.2.1⟩), zA_wA]
          by_cases e : i = t
          · rw [if_pos ⟨rfl, e⟩, e]
          · rw [if_neg (fun q => e q.2)]; exact hs i (by omega)
        · rw [eo i (by omega)] at h1
          by_cases e : i = t
          · subst e; rw [← en] at h2; exact X3 j h1 h2
          · rw [eo (i + 1) (by omega)] at h2
            have : j < S t := by
              have mono : ∀ k : Nat, i + 1 + k ≤ t → S (i + 1) ≤ S (i + 1 + k) := by
                intro k
                induction k with
                | zero => intro _; exact Nat.le_refl _
                | succ k ihk => intro hk; have a1 := ihk (by omega); have a2 := hmo (i + 1 + k) (by omega); rw [Nat.add_assoc (i + 1) k 1] at a2; omega
              have := mono (t - (i + 1)) (by omega)
              rw [show i + 1 + (t - (i + 1)) = t by omega] at this
              omega
            rw [X2 j this]
            exact htt i j (by omega) h1 h2
      · exact ⟨Or.inl, fun r => r.elim id (fun ⟨a, _, _, r1, _⟩ => by omega)⟩
set_option maxRecDepth 100000 in
theorem zc_setSums {xs : Nat → Int} {L d b1 b2 : Nat} {H0 : zH} {Q : zQ} {p0 c0 s0 p1 c1 s1 n1 p3 c3 s3 n3 : Nat} {S1 K1 S3 K3 : Nat → Nat} {A1 A3 : Nat → Prop} (hL0 : zLay H0) (o0 : zSO H0 p0 c0 s0 792) (o1 : zSO H0 p1 c1 s1 n1) (o3 : zSO H0 p3 c3 s3 n3) (hc0 : c0 ≠ 32 ∧ s0 ≠ 32 ∧ s0 ≠ c0) (x1 : c1 ≠ c0 ∧ c1 ≠ s0 ∧ c1 ≠ 32) (y1 : s1 ≠ c0 ∧ s1 ≠ s0 ∧ s1 ≠ 32) (x3 : c3 ≠ c0 ∧ c3 ≠ s0 ∧ c3 ≠ 32) (y3 : s3 ≠ c0 ∧ s3 ≠ s0 ∧ s3 ≠ 32) (hn1 : n1 ≤ 792) (hn3 : n3 ≤ 792) (g1 : zSh H0 c1 s1 n1 S1 K1 A1) (g3 : zSh H0 c3 s3 n3 S3 K3 A3) (hz : ∀ i : Nat, i < 512 → zA H0 32 i = 0) (hd : 1 ≤ d) (h : ∀ (G : zH) (S K : Nat → Nat), zmd (zin [c0, s0, 32] []) H0 G → zSh G c0 s0 792 S K (zSm A1 A3) → (∀ i : Nat, i < 512 → zA G 32 i = 0) → Q 0 G) : zEm xs L d b1 b2 69 [zr (some p0), zr (some p1), zr (some p3), zr (some 32)] H0 Q := by
  refine zem_69 (zgo_at [6] 4 ?_)
  try simp -implicitDefEqProofs only [zgn_0, zgn_s, zct_0, zct_s, Nat.reduceEqDiff, Nat.reduceBEq, Nat.reduceAdd, Nat.reduceSub, Nat.reduceMul, Int.reduceAdd, Int.reduceSub, Int.reduceMul, Int.reduceNeg, Int.reduceLT, Int.reduceLE, Int.reduceEq, Nat.zero_add, true_and, and_true, false_and, and_false, true_imp_iff, false_imp_iff, not_true_eq_false, not_false_eq_true, if_true, if_false, Bool.false_eq_true, ite_true, ite_false, reduceIte, eq_self, Int.toNat_natCast, zst_0, zst_1, zst_2, zst_3, zst_4, true_or, or_true, or_false, false_or, ze_69_0, zB_69_0, ze_69_6, zB_69_6, ze_69_25, zB_69_25, ze_69_56, zB_69_56, ze_69_62, zB_69_62, ze_69_74, zB_69_74, ze_69_100, zB_69_100, zbr_t, zbr_f, zrun_c, zmI_s, zmL_s, zmR_s, zgt_0, zgt_s, zln_0, zln_s, zs1_0, zs1_1i, zs1_1r, zs1_1n, zs1_1l, zs1_s, zs2_0, zs2_1i, zs2_1r, zs2_1n, zs2_1l, zs2_s, zcn_eq, zcn_ne, zcn_lt, zcn_ge, zcn_gt, zcn_le, zpu_0, zpu_1, zpu_2, zx_iconst, zx_lconst, zx_ldc, zx_ldc2, zx_null, zx_iload, zx_lload, zx_aload, zx_istore, zx_lstore, zx_astore, zx_iinc, zx_iadd, zx_isub, zx_imul, zx_idiv, zx_irem, zx_iand, zx_ior, zx_ixor, zx_ishl, zx_ishr, zx_iushr, zx_i2b, zx_i2l, zx_l2i, zx_ladd, zx_lmul, zx_ldiv, zx_lrem, zx_land, zx_lor, zx_lshl, zx_lshr, zx_lcmp, zx_dupi, zx_dupr, zx_dup2l, zx_dup2i, zx_pop, zx_ifc, zx_icmp, zx_ifnullN, zx_ifnullS, zx_ifnonN, zx_ifnonS, zx_goto, zx_gotow, zx_switch, zx_iaload, zx_baload, zx_laload, zx_aaload, zx_iastore, zx_bastore, zx_lastore, zx_aastore, zx_alen, zx_newarray, zx_anewarray, zx_new, zx_getI, zx_getL, zx_getR, zx_putI, zx_putZ, zx_putL, zx_putR, zx_callS, zx_callV, zx_objinit, zx_cpyi, zx_cpyl, zx_mmax, zx_mmin, zx_mminl, zx_ireturn, zx_areturn, zx_lreturn, zx_return, zcs_0, zcs_1, zcv_1, zcs_2, zcv_2, zcs_3, zcv_3, zcs_4, zcv_4, zcs_5, zcv_5, zcs_6, zcv_6, zcs_7, zcv_7, Int.reduceToNat, Nat.reduceDiv, Nat.reduceMod, zJ, zC, zK_wA, zN_wA, zR_wA, zS_wA, zA_wA, zK_wR, zN_wR, zR_wR, zS_wR, zA_wR, zK_cp, zN_cp, zR_cp, zS_cp, zA_cp, zK_mp, zN_mp, zR_mp, zS_mp, zA_mp, zfa, zfmm, zfa_1, zfb_1, zfa_2, zfb_2, zfa_3, zfb_3, zfa_4, zfb_4, zfa_5, zfb_5, zfa_6, zfb_6, zfa_7, zfb_7, zfa_8, zfb_8, zfa_9, zfb_9, zfa_10, zfb_10, zfa_12, zfb_12, zfa_20, zfb_20, zfa_21, zfb_21, zfa_30, zfb_30, zfa_48, zfb_48, zfa_60, zfb_60, zfa_61, zfb_61, zfa_65, zfb_65, zfa_97, zfb_97, zfa_100, zfb_100, zfa_120, zfb_120, zfa_124, zfb_124, zfa_500, zfb_500, zfa_792, zfb_792, zfa_2989, zfb_2989, zfm_2, zfn_2, zfm_3, zfn_3, zfm_4, zfn_4, zfm_6, zfn_6, zfm_7, zfn_7, zfm_8, zfn_8, zfm_12, zfn_12, zfm_49, zfn_49, zfm_60, zfn_60, zfm_61, zfn_61, zfm_792, zfn_792, zfm_2989, zfn_2989, Int.zero_add, Int.add_zero, Int.zero_mul, Int.mul_zero, Int.one_mul, Int.mul_one]
  refine zl_ssB hL0 o0 o1 o3 hc0 x1 y1 x3 y3 hn1 hn3 g1 g3 hd h _ 0 (fun _ => 0) (fun _ => 0) H0 _ rfl (by omega) (zmd_rf _ _) ⟨zmd_rf _ _, fun j hj => by omega, fun x hx => ?_, fun x => ?_, fun j hj => by omega, fun i j hi => by omega, fun i hi => Or.inl (hz i hi)⟩ rfl (fun i hi => by omega) (fun i hi => by omega) (fun i j hi => by omega)
  · rw [hz (x / 64) (by omega)]
    exact ⟨fun r => absurd r (zbL_0 (by omega)), fun r => absurd r.2 (by omega)⟩
  · exact ⟨fun r => absurd r.2 (by omega), fun ⟨j, hj, _⟩ => by omega⟩
