/-! words and parts behind a row -/
theorem yV_w0 {cu rw : Nat → Int} {n x : Nat} (s : Nat → List Nat → Prop) (h : cu x < 0) (c : Nat) : yV s (yW cu rw n x) c = yCc (s c) (fun r => r = [x]) := by
  funext r
  apply propext
  constructor
  · rintro ⟨k, a, b, h1, h2, ⟨h3, h4⟩, h5⟩
    rcases h4 with ⟨_, h4⟩ | ⟨h4, _⟩
    · subst h4; exact ⟨a, b, h2, h3, h5⟩
    · omega
  · rintro ⟨a, b, h1, h2, h3⟩
    exact ⟨c, a, b, Nat.le_refl _, h1, ⟨h2, Or.inl ⟨h, rfl⟩⟩, h3⟩
theorem yV_w1 {cu rw : Nat → Int} {n x : Nat} (s : Nat → List Nat → Prop) (h : 0 ≤ cu x) (c : Nat) (hc : c < n) (hr : rw c = cu x) : yV s (yW cu rw n x) (c + 1) = yCc (s c) (fun r => r = [x]) := by
  funext r
  apply propext
  constructor
  · rintro ⟨k, a, b, h1, h2, ⟨h3, h4⟩, h5⟩
    rcases h4 with ⟨h4, _⟩ | ⟨_, h4, _⟩
    · omega
    · have e : k = c := by omega
      subst e; exact ⟨a, b, h2, h3, h5⟩
  · rintro ⟨a, b, h1, h2, h3⟩
    exact ⟨c, a, b, by omega, h1, ⟨h2, Or.inr ⟨h, rfl, hc, hr⟩⟩, h3⟩
theorem yV_w2 {cu rw : Nat → Int} {n x : Nat} (s : Nat → List Nat → Prop) (h : 0 ≤ cu x) (c : Nat) (hr : rw c ≠ cu x) : yV s (yW cu rw n x) (c + 1) = fun _ => False := by
  funext r
  apply propext
  constructor
  · rintro ⟨k, a, b, h1, h2, ⟨h3, h4⟩, h5⟩
    rcases h4 with ⟨h4, _⟩ | ⟨_, h4, _, h6⟩
    · omega
    · have e : k = c := by omega
      subst e; exact hr h6
  · intro h; exact h.elim
theorem yV_w3 {cu rw : Nat → Int} {n x : Nat} (s : Nat → List Nat → Prop) (h : 0 ≤ cu x) : yV s (yW cu rw n x) 0 = fun _ => False := by
  funext r
  apply propext
  constructor
  · rintro ⟨k, a, b, h1, h2, ⟨h3, h4⟩, h5⟩
    rcases h4 with ⟨h4, _⟩ | ⟨_, h4, _⟩ <;> omega
  · intro h; exact h.elim
set_option maxRecDepth 100000 in
theorem zc_appL {xs : Nat → Int} {L d b1 b2 : Nat} {H0 : zH} {Q : zQ} {t : Nat → Int} {w : Nat × (Nat → Nat × Nat)} {A : Nat → List Nat → Prop} {s x : Nat} (hk : yMk H0) (hs : s < 302) (hx : x < w.1) (hw : w.1 ≤ 120) (hS : ySt H0 t w A) (h : ∀ G : zH, zmd (zin [166, 167] []) H0 G → ySt G t w (zuq A s (yCc (A s) (fun r => r = [x]))) → Q 0 G) : zEm xs L d b1 b2 145 [zr (some 165), zi s, zi x] H0 Q := by
  obtain ⟨o, h1, h2⟩ := hS s hs
  exact zc_app hk hs (by omega) h1 (fun G mG g1 g2 => h G mG (ySt_u hS g2 ⟨_, g1, yBest_cat o (some [x]) h2 (yBest_1 hx)⟩))
set_option maxRecDepth 100000 in
theorem zl_awN {xs : Nat → Int} {L d b1 b2 : Nat} {H0 : zH} {Q : zQ} {t : Nat → Int} {w : Nat × (Nat → Nat × Nat)} {A : Nat → List Nat → Prop} {n : Nat} {cu rw : Nat → Int} {l x : Nat} (hd : 1 ≤ d) (hk : yMk H0) (hn : zA H0 165 3 = (n : Nat)) (hn6 : n ≤ 6) (hl : l ≤ 4) (hx : x < w.1) (hw : w.1 ≤ 120) (hcu : cu x < 0) (h : ∀ (G : zH) (B : Nat → List Nat → Prop), zmd (zin [166, 167] []) H0 G → ySt G t w B → (∀ c : Nat, c ≤ n → B (224 + l * 7 + c) = yV (fun c => A (224 + l * 7 + c)) (yW cu rw n x) c) → (∀ s : Nat, ¬ (224 + l * 7 ≤ s ∧ s < 224 + l * 7 + 7) → B s = A s) → Q 0 G) : ∀ (kk : Nat) (c : Nat) (H : zH) (B : Nat → List Nat → Prop), n + 1 - c = kk → (c ≤ n + 1) → (zmd (zin [166, 167] []) H0 H) → (ySt H t w B) → (∀ b : Nat, b < c → B (224 + l * 7 + b) = yV (fun c => A (224 + l * 7 + c)) (yW cu rw n x) b) → (∀ s : Nat, ¬ (224 + l * 7 ≤ s ∧ s < 224 + l * 7 + c) → B s = A s) → zEt xs L d b1 b2 false 144 25 [some (zr (some 165)), some (zi l), some (zi x), some (zi ((224 + l * 7 : Nat) : Int)), some (zi (cu x)), some (zi (c : Nat))] [] H Q := by
  intro kk
  induction kk using Nat.strongRecOn with
  | ind kk ih =>
    intro c H B hkk hc hm hS h1 h2
    have hk2 := yMk_d hm hk
    have hn2 : zA H 165 3 = (n : Nat) := by rw [hm.2.2.2 165 3 rfl]; exact hn
    refine zgo_at [25] 8 ?_
    try simp -implicitDefEqProofs only [zgn_0, zgn_s, zct_0, zct_s, Nat.reduceEqDiff, Nat.reduceBEq, Nat.reduceAdd, Nat.reduceSub, Nat.reduceMul, Int.reduceAdd, Int.reduceSub, Int.reduceMul, Int.reduceNeg, Int.reduceLT, Int.reduceLE, Int.reduceEq, Nat.zero_add, true_and, and_true, false_and, and_false, true_imp_iff, false_imp_iff, not_true_eq_false, not_false_eq_true, if_true, if_false, Bool.false_eq_true, ite_true, ite_false, reduceIte, eq_self, Int.toNat_natCast, zst_0, zst_1, zst_2, zst_3, zst_4, true_or, or_true, or_false, false_or, ze_144_0, zB_144_0, ze_144_25, zB_144_25, ze_144_49, zB_144_49, ze_144_50, zB_144_50, ze_144_56, zB_144_56, ze_144_101, zB_144_101, ze_144_111, zB_144_111, ze_144_117, zB_144_117, zbr_t, zbr_f, zrun_c, zmI_s, zmL_s, zmR_s, zgt_0, zgt_s, zln_0, zln_s, zs1_0, zs1_1i, zs1_1r, zs1_1n, zs1_1l, zs1_s, zs2_0, zs2_1i, zs2_1r, zs2_1n, zs2_1l, zs2_s, zcn_eq, zcn_ne, zcn_lt, zcn_ge, zcn_gt, zcn_le, zpu_0, zpu_1, zpu_2, zx_iconst, zx_lconst, zx_ldc, zx_ldc2, zx_null, zx_iload, zx_lload, zx_aload, zx_istore, zx_lstore, zx_astore, zx_iinc, zx_iadd, zx_isub, zx_imul, zx_idiv, zx_irem, zx_iand, zx_ior, zx_ixor, zx_ishl, zx_ishr, zx_iushr, zx_i2b, zx_i2l, zx_l2i, zx_ladd, zx_lmul, zx_ldiv, zx_lrem, zx_land, zx_lor, zx_lshl, zx_lshr, zx_lcmp, zx_dupi, zx_dupr, zx_dup2l, zx_dup2i, zx_pop, zx_ifc, zx_icmp, zx_ifnullN, zx_ifnullS, zx_ifnonN, zx_ifnonS, zx_goto, zx_gotow, zx_switch, zx_iaload, zx_baload, zx_laload, zx_aaload, zx_iastore, zx_bastore, zx_lastore, zx_aastore, zx_alen, zx_newarray, zx_anewarray, zx_new, zx_getI, zx_getL, zx_getR, zx_putI, zx_putZ, zx_putL, zx_putR, zx_callS, zx_callV, zx_objinit, zx_cpyi, zx_cpyl, zx_mmax, zx_mmin, zx_mminl, zx_ireturn, zx_areturn, zx_lreturn, zx_return, zcs_0, zcs_1, zcv_1, zcs_2, zcv_2, zcs_3, zcv_3, zcs_4, zcv_4, zcs_5, zcv_5, zcs_6, zcv_6, zcs_7, zcv_7, Int.reduceToNat, Nat.reduceDiv, Nat.reduceMod, zJ, zC, zK_wA, zN_wA, zR_wA, zS_wA, zA_wA, zK_wR, zN_wR, zR_wR, zS_wR, zA_wR, zK_cp, zN_cp, zR_cp, zS_cp, zA_cp, zK_mp, zN_mp, zR_mp, zS_mp, zA_mp, zfa, zfmm, zfa_1, zfb_1, zfa_2, zfb_2, zfa_3, zfb_3, zfa_4, zfb_4, zfa_5, zfb_5, zfa_6, zfb_6, zfa_7, zfb_7, zfa_8, zfb_8, zfa_9, zfb_9, zfa_10, zfb_10, zfa_12, zfb_12, zfa_20, zfb_20, zfa_21, zfb_21, zfa_30, zfb_30, zfa_48, zfb_48, zfa_60, zfb_60, zfa_61, zfb_61, zfa_65, zfb_65, zfa_97, zfb_97, zfa_100, zfb_100, zfa_120, zfb_120, zfa_124, zfb_124, zfa_500, zfb_500, zfa_792, zfb_792, zfa_2989, zfb_2989, zfm_2, zfn_2, zfm_3, zfn_3, zfm_4, zfn_4, zfm_6, zfn_6, zfm_7, zfn_7, zfm_8, zfn_8, zfm_12, zfn_12, zfm_49, zfn_49, zfm_60, zfn_60, zfm_61, zfn_61, zfm_792, zfn_792, zfm_2989, zfn_2989, Int.zero_add, Int.add_zero, Int.zero_mul, Int.mul_zero, Int.one_mul, Int.mul_one, ym_k5 hk2, ym_k6 hk2, ym_n6 hk2, ym_k7 hk2, ym_n7 hk2, ym_k8 hk2, ym_n8 hk2, ym_k9 hk2, ym_n9 hk2, ym_k0 hk2, ym_n0 hk2, ym_r0 hk2, ym_r1 hk2, ym_r2 hk2, ym_r4 hk2, ym_r5 hk2, hn2]
    refine zbr_i (fun q => ?_) (fun q => ?_)
    · have e : c = n + 1 := by omega
      subst e
      have fin := h H B hm hS (fun b hb => h1 b (by omega)) (fun s hs => h2 s (by omega))
      first | exact fin | (simp only [zx_return]; exact fin)
    · repeat (with_reducible refine And.intro ?_ ?_; · first | omega | (simp only [z32, z64]; omega))
      refine zc_appL (A := B) hk2 (by omega) hx hw hS (fun G mG g1 => ?_)
      try simp -implicitDefEqProofs only [zgn_0, zgn_s, zct_0, zct_s, Nat.reduceEqDiff, Nat.reduceBEq, Nat.reduceAdd, Nat.reduceSub, Nat.reduceMul, Int.reduceAdd, Int.reduceSub, Int.reduceMul, Int.reduceNeg, Int.reduceLT, Int.reduceLE, Int.reduceEq, Nat.zero_add, true_and, and_true, false_and, and_false, true_imp_iff, false_imp_iff, not_true_eq_false, not_false_eq_true, if_true, if_false, Bool.false_eq_true, ite_true, ite_false, reduceIte, eq_self, Int.toNat_natCast, zst_0, zst_1, zst_2, zst_3, zst_4, true_or, or_true, or_false, false_or, ze_144_0, zB_144_0, ze_144_25, zB_144_25, ze_144_49, zB_144_49, ze_144_50, zB_144_50, ze_144_56, zB_144_56, ze_144_101, zB_144_101, ze_144_111, zB_144_111, ze_144_117, zB_144_117, zbr_t, zbr_f, zrun_c, zmI_s, zmL_s, zmR_s, zgt_0, zgt_s, zln_0, zln_s, zs1_0, zs1_1i, zs1_1r, zs1_1n, zs1_1l, zs1_s, zs2_0, zs2_1i, zs2_1r, zs2_1n, zs2_1l, zs2_s, zcn_eq, zcn_ne, zcn_lt, zcn_ge, zcn_gt, zcn_le, zpu_0, zpu_1, zpu_2, zx_iconst, zx_lconst, zx_ldc, zx_ldc2, zx_null, zx_iload, zx_lload, zx_aload, zx_istore, zx_lstore, zx_astore, zx_iinc, zx_iadd, zx_isub, zx_imul, zx_idiv, zx_irem, zx_iand, zx_ior, zx_ixor, zx_ishl, zx_ishr, zx_iushr, zx_i2b, zx_i2l, zx_l2i, zx_ladd, zx_lmul, zx_ldiv, zx_lrem, zx_land, zx_lor, zx_lshl, zx_lshr, zx_lcmp, zx_dupi, zx_dupr, zx_dup2l, zx_dup2i, zx_pop, zx_ifc, zx_icmp, zx_ifnullN, zx_ifnullS, zx_ifnonN, zx_ifnonS, zx_goto, zx_gotow, zx_switch, zx_iaload, zx_baload, zx_laload, zx_aaload, zx_iastore, zx_bastore, zx_lastore, zx_aastore, zx_alen, zx_newarray, zx_anewarray, zx_new, zx_getI, zx_getL, zx_getR, zx_putI, zx_putZ, zx_putL, zx_putR, zx_callS, zx_callV, zx_objinit, zx_cpyi, zx_cpyl, zx_mmax, zx_mmin, zx_mminl, zx_ireturn, zx_areturn, zx_lreturn, zx_return, zcs_0, zcs_1, zcv_1, zcs_2, zcv_2, zcs_3, zcv_3, zcs_4, zcv_4, zcs_5, zcv_5, zcs_6, zcv_6, zcs_7, zcv_7, Int.reduceToNat, Nat.reduceDiv, Nat.reduceMod, zJ, zC, zK_wA, zN_wA, zR_wA, zS_wA, zA_wA, zK_wR, zN_wR, zR_wR, zS_wR, zA_wR, zK_cp, zN_cp, zR_cp, zS_cp, zA_cp, zK_mp, zN_mp, zR_mp, zS_mp, zA_mp, zfa, zfmm, zfa_1, zfb_1, zfa_2, zfb_2, zfa_3, zfb_3, zfa_4, zfb_4, zfa_5, zfb_5, zfa_6, zfb_6, zfa_7, zfb_7, zfa_8, zfb_8, zfa_9, zfb_9, zfa_10, zfb_10, zfa_12, zfb_12, zfa_20, zfb_20, zfa_21, zfb_21, zfa_30, zfb_30, zfa_48, zfb_48, zfa_60, zfb_60, zfa_61, zfb_61, zfa_65, zfb_65, zfa_97, zfb_97, zfa_100, zfb_100, zfa_120, zfb_120, zfa_124, zfb_124, zfa_500, zfb_500, zfa_792, zfb_792, zfa_2989, zfb_2989, zfm_2, zfn_2, zfm_3, zfn_3, zfm_4, zfn_4, zfm_6, zfn_6, zfm_7, zfn_7, zfm_8, zfn_8, zfm_12, zfn_12, zfm_49, zfn_49, zfm_60, zfn_60, zfm_61, zfn_61, zfm_792, zfn_792, zfm_2989, zfn_2989, Int.zero_add, Int.add_zero, Int.zero_mul, Int.mul_zero, Int.one_mul, Int.mul_one]
      repeat (with_reducible refine And.intro ?_ ?_; · first | omega | (simp only [z32, z64]; omega))
      refine ih _ (by omega) (c + 1) G _ rfl (by omega) (zmd_tr hm mG) g1 (fun b hb => ?_) (fun s hs => ?_)
      · by_cases e : b = c
        · rw [e, zuq_e, yV_w0 _ hcu, h2 _ (by omega)]
        · rw [zuq_n (by omega)]; exact h1 b (by omega)
      · rw [zuq_n (by omega)]; exact h2 s (by omega)
set_option maxRecDepth 100000 in
theorem zl_awC {xs : Nat → Int} {L d b1 b2 : Nat} {H0 : zH} {Q : zQ} {t : Nat → Int} {w : Nat × (Nat → Nat × Nat)} {A : Nat → List Nat → Prop} {n : Nat} {cu rw : Nat → Int} {l x : Nat} (hd : 1 ≤ d) (hk : yMk H0) (hn : zA H0 165 3 = (n : Nat)) (hn6 : n ≤ 6) (hl : l ≤ 4) (hx : x < w.1) (hw : w.1 ≤ 120) (hcu : 0 ≤ cu x) (hrw : ∀ i : Nat, i < n → zA H0 168 i = rw i) (h : ∀ (G : zH) (B : Nat → List Nat → Prop), zmd (zin [166, 167] []) H0 G → ySt G t w B → (∀ c : Nat, c ≤ n → B (224 + l * 7 + c) = yV (fun c => A (224 + l * 7 + c)) (yW cu rw n x) c) → (∀ s : Nat, ¬ (224 + l * 7 ≤ s ∧ s < 224 + l * 7 + 7) → B s = A s) → Q 0 G) : ∀ (kk : Nat) (c : Nat) (H : zH) (B : Nat → List Nat → Prop), c = kk → (c ≤ n) → (zmd (zin [166, 167] []) H0 H) → (ySt H t w B) → (∀ b : Nat, c < b → b ≤ n → B (224 + l * 7 + b) = yV (fun c => A (224 + l * 7 + c)) (yW cu rw n x) b) → (∀ s : Nat, ¬ (224 + l * 7 + c < s ∧ s < 224 + l * 7 + 7) → B s = A s) → zEt xs L d b1 b2 false 144 56 [some (zr (some 165)), some (zi l), some (zi x), some (zi ((224 + l * 7 : Nat) : Int)), some (zi (cu x)), some (zi (c : Nat))] [] H Q := by
  intro kk
  induction kk using Nat.strongRecOn with
  | ind kk ih =>
    intro c H B hkk hc hm hS h1 h2
    have hk2 := yMk_d hm hk
    have hn2 : zA H 165 3 = (n : Nat) := by rw [hm.2.2.2 165 3 rfl]; exact hn
    refine zgo_at [56] 8 ?_
    try simp -implicitDefEqProofs only [zgn_0, zgn_s, zct_0, zct_s, Nat.reduceEqDiff, Nat.reduceBEq, Nat.reduceAdd, Nat.reduceSub, Nat.reduceMul, Int.reduceAdd, Int.reduceSub, Int.reduceMul, Int.reduceNeg, Int.reduceLT, Int.reduceLE, Int.reduceEq, Nat.zero_add, true_and, and_true, false_and, and_false, true_imp_iff, false_imp_iff, not_true_eq_false, not_false_eq_true, if_true, if_false, Bool.false_eq_true, ite_true, ite_false, reduceIte, eq_self, Int.toNat_natCast, zst_0, zst_1, zst_2, zst_3, zst_4, true_or, or_true, or_false, false_or, ze_144_0, zB_144_0, ze_144_25, zB_144_25, ze_144_49, zB_144_49, ze_144_50, zB_144_50, ze_144_56, zB_144_56, ze_144_101, zB_144_101, ze_144_111, zB_144_111, ze_144_117, zB_144_117, zbr_t, zbr_f, zrun_c, zmI_s, zmL_s, zmR_s, zgt_0, zgt_s, zln_0, zln_s, zs1_0, zs1_1i, zs1_1r, zs1_1n, zs1_1l, zs1_s, zs2_0, zs2_1i, zs2_1r, zs2_1n, zs2_1l, zs2_s, zcn_eq, zcn_ne, zcn_lt, zcn_ge, zcn_gt, zcn_le, zpu_0, zpu_1, zpu_2, zx_iconst, zx_lconst, zx_ldc, zx_ldc2, zx_null, zx_iload, zx_lload, zx_aload, zx_istore, zx_lstore, zx_astore, zx_iinc, zx_iadd, zx_isub, zx_imul, zx_idiv, zx_irem, zx_iand, zx_ior, zx_ixor, zx_ishl, zx_ishr, zx_iushr, zx_i2b, zx_i2l, zx_l2i, zx_ladd, zx_lmul, zx_ldiv, zx_lrem, zx_land, zx_lor, zx_lshl, zx_lshr, zx_lcmp, zx_dupi, zx_dupr, zx_dup2l, zx_dup2i, zx_pop, zx_ifc, zx_icmp, zx_ifnullN, zx_ifnullS, zx_ifnonN, zx_ifnonS, zx_goto, zx_gotow, zx_switch, zx_iaload, zx_baload, zx_laload, zx_aaload, zx_iastore, zx_bastore, zx_lastore, zx_aastore, zx_alen, zx_newarray, zx_anewarray, zx_new, zx_getI, zx_getL, zx_getR, zx_putI, zx_putZ, zx_putL, zx_putR, zx_callS, zx_callV, zx_objinit, zx_cpyi, zx_cpyl, zx_mmax, zx_mmin, zx_mminl, zx_ireturn, zx_areturn, zx_lreturn, zx_return, zcs_0, zcs_1, zcv_1, zcs_2, zcv_2, zcs_3, zcv_3, zcs_4, zcv_4, zcs_5, zcv_5, zcs_6, zcv_6, zcs_7, zcv_7, Int.reduceToNat, Nat.reduceDiv, Nat.reduceMod, zJ, zC, zK_wA, zN_wA, zR_wA, zS_wA, zA_wA, zK_wR, zN_wR, zR_wR, zS_wR, zA_wR, zK_cp, zN_cp, zR_cp, zS_cp, zA_cp, zK_mp, zN_mp, zR_mp, zS_mp, zA_mp, zfa, zfmm, zfa_1, zfb_1, zfa_2, zfb_2, zfa_3, zfb_3, zfa_4, zfb_4, zfa_5, zfb_5, zfa_6, zfb_6, zfa_7, zfb_7, zfa_8, zfb_8, zfa_9, zfb_9, zfa_10, zfb_10, zfa_12, zfb_12, zfa_20, zfb_20, zfa_21, zfb_21, zfa_30, zfb_30, zfa_48, zfb_48, zfa_60, zfb_60, zfa_61, zfb_61, zfa_65, zfb_65, zfa_97, zfb_97, zfa_100, zfb_100, zfa_120, zfb_120, zfa_124, zfb_124, zfa_500, zfb_500, zfa_792, zfb_792, zfa_2989, zfb_2989, zfm_2, zfn_2, zfm_3, zfn_3, zfm_4, zfn_4, zfm_6, zfn_6, zfm_7, zfn_7, zfm_8, zfn_8, zfm_12, zfn_12, zfm_49, zfn_49, zfm_60, zfn_60, zfm_61, zfn_61, zfm_792, zfn_792, zfm_2989, zfn_2989, Int.zero_add, Int.add_zero, Int.zero_mul, Int.mul_zero, Int.one_mul, Int.mul_one, ym_k5 hk2, ym_k6 hk2, ym_n6 hk2, ym_k7 hk2, ym_n7 hk2, ym_k8 hk2, ym_n8 hk2, ym_k9 hk2, ym_n9 hk2, ym_k0 hk2, ym_n0 hk2, ym_r0 hk2, ym_r1 hk2, ym_r2 hk2, ym_r4 hk2, ym_r5 hk2, hn2]
    refine zbr_i (fun q => ?_) (fun q => ?_)
    · have e : c = 0 := by omega
      subst e
      have fin := h (zwA H 167 (224 + l * 7) (-1)) (zuq B (224 + l * 7) (fun _ => False)) (zmd_w hm rfl) (ySt_u hS (fun s hs o9 => ySl_c (by rw [zA_wA, if_neg (by omega)]) (fun p hp => by rw [zA_wA, if_neg (by omega)])) ⟨none, by show zA _ _ _ = _; rw [zA_wA, if_pos ⟨rfl, rfl⟩], yBest_0⟩) (fun b hb => by
        by_cases e : b = 0
        · rw [e, Nat.add_zero, zuq_e, yV_w3 _ hcu]
        · rw [zuq_n (by omega)]; exact h1 b (by omega) hb) (fun s hs => by
        rw [zuq_n (by omega)]; exact h2 s (by omega))
      repeat (with_reducible refine And.intro ?_ ?_; · first | omega | (simp only [z32, z64]; omega))
      first | exact fin | (simp only [zx_return]; exact fin)
    · obtain ⟨c', rfl⟩ : ∃ c' : Nat, c = c' + 1 := ⟨c - 1, by omega⟩
      have r1 : zA H 168 c' = rw c' := by rw [hm.2.2.2 168 c' rfl]; exact hrw c' (by omega)
      have e1 : ((c' + 1 : Nat) : Int) - 1 = (c' : Nat) := by omega
      have e4 : ((c' + 1 : Nat) : Int) + -1 = (c' : Nat) := by omega
      (try simp only [e1, e4, Int.toNat_natCast])
      repeat (with_reducible refine And.intro ?_ ?_; · first | omega | (simp only [z32, z64]; omega))
      have nxt : ∀ G : zH, zmd (zin [166, 167] []) H G → ySt G t w (zuq B (224 + l * 7 + (c' + 1)) (yV (fun c => A (224 + l * 7 + c)) (yW cu rw n x) (c' + 1))) → zEt xs L d b1 b2 false 144 56 [some (zr (some 165)), some (zi l), some (zi x), some (zi ((224 + l * 7 : Nat) : Int)), some (zi (cu x)), some (zi (c' : Nat))] [] G Q := fun G mG g1 => by
        refine ih _ (by omega) c' G _ rfl (by omega) (zmd_tr hm mG) g1 (fun b hb1 hb2 => ?_) (fun s hs => ?_)
        · by_cases e : b = c' + 1
          · rw [e, zuq_e]
          · rw [zuq_n (by omega)]; exact h1 b (by omega) hb2
        · rw [zuq_n (by omega)]; exact h2 s (by omega)
      clear ih
      rw [r1]
      refine zbr_i (fun q1 => ?_) (fun q1 => ?_)
      · repeat (with_reducible refine And.intro ?_ ?_; · first | omega | (simp only [z32, z64]; omega))
        have e7 := yV_w2 (rw := rw) (n := n) (fun c => A (224 + l * 7 + c)) hcu c' q1
        refine nxt _ (zmd_w (zmd_rf _ _) rfl) (ySt_u hS (fun s hs o9 => ySl_c (by rw [zA_wA, if_neg (by omega)]) (fun p hp => by rw [zA_wA, if_neg (by omega)])) ⟨none, by show zA _ _ _ = _; rw [zA_wA, if_pos ⟨rfl, by omega⟩], by rw [e7]; exact yBest_0⟩)
      · have q1 := Classical.not_not.mp q1
        have e7 := yV_w1 (rw := rw) (n := n) (fun c => A (224 + l * 7 + c)) hcu c' (by omega) q1
        have e5 : ((224 + l * 7 + (c' + 1) : Nat) : Int) - 1 = ((224 + l * 7 + c' : Nat) : Int) := by omega
        (try rw [e5])
        repeat (with_reducible refine And.intro ?_ ?_; · first | omega | (simp only [z32, z64]; omega))
        refine zc_cpsL (a := 224 + l * 7 + c') (b := 224 + l * 7 + (c' + 1)) (A := B) hk2 (by omega) (by omega) (by omega) hS (fun G mG g1 => ?_)
        have hkG := yMk_d mG hk2
        try simp -implicitDefEqProofs only [zgn_0, zgn_s, zct_0, zct_s, Nat.reduceEqDiff, Nat.reduceBEq, Nat.reduceAdd, Nat.reduceSub, Nat.reduceMul, Int.reduceAdd, Int.reduceSub, Int.reduceMul, Int.reduceNeg, Int.reduceLT, Int.reduceLE, Int.reduceEq, Nat.zero_add, true_and, and_true, false_and, and_false, true_imp_iff, false_imp_iff, not_true_eq_false, not_false_eq_true, if_true, if_false, Bool.false_eq_true, ite_true, ite_false, reduceIte, eq_self, Int.toNat_natCast, zst_0, zst_1, zst_2, zst_3, zst_4, true_or, or_true, or_false, false_or, ze_144_0, zB_144_0, ze_144_25, zB_144_25, ze_144_49, zB_144_49, ze_144_50, zB_144_50, ze_144_56, zB_144_56, ze_144_101, zB_144_101, ze_144_111, zB_144_111, ze_144_117, zB_144_117, zbr_t, zbr_f, zrun_c, zmI_s, zmL_s, zmR_s, zgt_0, zgt_s, zln_0, zln_s, zs1_0, zs1_1i, zs1_1r, zs1_1n, zs1_1l, zs1_s, zs2_0, zs2_1i, zs2_1r, zs2_1n, zs2_1l, zs2_s, zcn_eq, zcn_ne, zcn_lt, zcn_ge, zcn_gt, zcn_le, zpu_0, zpu_1, zpu_2, zx_iconst, zx_lconst, zx_ldc, zx_ldc2, zx_null, zx_iload, zx_lload, zx_aload, zx_istore, zx_lstore, zx_astore, zx_iinc, zx_iadd, zx_isub, zx_imul, zx_idiv, zx_irem, zx_iand, zx_ior, zx_ixor, zx_ishl, zx_ishr, zx_iushr, zx_i2b, zx_i2l, zx_l2i, zx_ladd, zx_lmul, zx_ldiv, zx_lrem, zx_land, zx_lor, zx_lshl, zx_lshr, zx_lcmp, zx_dupi, zx_dupr, zx_dup2l, zx_dup2i, zx_pop, zx_ifc, zx_icmp, zx_ifnullN, zx_ifnullS, zx_ifnonN, zx_ifnonS, zx_goto, zx_gotow, zx_switch, zx_iaload, zx_baload, zx_laload, zx_aaload, zx_iastore, zx_bastore, zx_lastore, zx_aastore, zx_alen, zx_newarray, zx_anewarray, zx_new, zx_getI, zx_getL, zx_getR, zx_putI, zx_putZ, zx_putL, zx_putR, zx_callS, zx_callV, zx_objinit, zx_cpyi, zx_cpyl, zx_mmax, zx_mmin, zx_mminl, zx_ireturn, zx_areturn, zx_lreturn, zx_return, zcs_0, zcs_1, zcv_1, zcs_2, zcv_2, zcs_3, zcv_3, zcs_4, zcv_4, zcs_5, zcv_5, zcs_6, zcv_6, zcs_7, zcv_7, Int.reduceToNat, Nat.reduceDiv, Nat.reduceMod, zJ, zC, zK_wA, zN_wA, zR_wA, zS_wA, zA_wA, zK_wR, zN_wR, zR_wR, zS_wR, zA_wR, zK_cp, zN_cp, zR_cp, zS_cp, zA_cp, zK_mp, zN_mp, zR_mp, zS_mp, zA_mp, zfa, zfmm, zfa_1, zfb_1, zfa_2, zfb_2, zfa_3, zfb_3, zfa_4, zfb_4, zfa_5, zfb_5, zfa_6, zfb_6, zfa_7, zfb_7, zfa_8, zfb_8, zfa_9, zfb_9, zfa_10, zfb_10, zfa_12, zfb_12, zfa_20, zfb_20, zfa_21, zfb_21, zfa_30, zfb_30, zfa_48, zfb_48, zfa_60, zfb_60, zfa_61, zfb_61, zfa_65, zfb_65, zfa_97, zfb_97, zfa_100, zfb_100, zfa_120, zfb_120, zfa_124, zfb_124, zfa_500, zfb_500, zfa_792, zfb_792, zfa_2989, zfb_2989, zfm_2, zfn_2, zfm_3, zfn_3, zfm_4, zfn_4, zfm_6, zfn_6, zfm_7, zfn_7, zfm_8, zfn_8, zfm_12, zfn_12, zfm_49, zfn_49, zfm_60, zfn_60, zfm_61, zfn_61, zfm_792, zfn_792, zfm_2989, zfn_2989, Int.zero_add, Int.add_zero, Int.zero_mul, Int.mul_zero, Int.one_mul, Int.mul_one, ym_k5 hkG]
        repeat (with_reducible refine And.intro ?_ ?_; · first | omega | (simp only [z32, z64]; omega))
        refine zc_appL (s := 224 + l * 7 + (c' + 1)) hkG (by omega) hx hw g1 (fun G2 m2 g2 => ?_)
        try simp -implicitDefEqProofs only [zgn_0, zgn_s, zct_0, zct_s, Nat.reduceEqDiff, Nat.reduceBEq, Nat.reduceAdd, Nat.reduceSub, Nat.reduceMul, Int.reduceAdd, Int.reduceSub, Int.reduceMul, Int.reduceNeg, Int.reduceLT, Int.reduceLE, Int.reduceEq, Nat.zero_add, true_and, and_true, false_and, and_false, true_imp_iff, false_imp_iff, not_true_eq_false, not_false_eq_true, if_true, if_false, Bool.false_eq_true, ite_true, ite_false, reduceIte, eq_self, Int.toNat_natCast, zst_0, zst_1, zst_2, zst_3, zst_4, true_or, or_true, or_false, false_or, ze_144_0, zB_144_0, ze_144_25, zB_144_25, ze_144_49, zB_144_49, ze_144_50, zB_144_50, ze_144_56, zB_144_56, ze_144_101, zB_144_101, ze_144_111, zB_144_111, ze_144_117, zB_144_117, zbr_t, zbr_f, zrun_c, zmI_s, zmL_s, zmR_s, zgt_0, zgt_s, zln_0, zln_s, zs1_0, zs1_1i, zs1_1r, zs1_1n, zs1_1l, zs1_s, zs2_0, zs2_1i, zs2_1r, zs2_1n, zs2_1l, zs2_s, zcn_eq, zcn_ne, zcn_lt, zcn_ge, zcn_gt, zcn_le, zpu_0, zpu_1, zpu_2, zx_iconst, zx_lconst, zx_ldc, zx_ldc2, zx_null, zx_iload, zx_lload, zx_aload, zx_istore, zx_lstore, zx_astore, zx_iinc, zx_iadd, zx_isub, zx_imul, zx_idiv, zx_irem, zx_iand, zx_ior, zx_ixor, zx_ishl, zx_ishr, zx_iushr, zx_i2b, zx_i2l, zx_l2i, zx_ladd, zx_lmul, zx_ldiv, zx_lrem, zx_land, zx_lor, zx_lshl, zx_lshr, zx_lcmp, zx_dupi, zx_dupr, zx_dup2l, zx_dup2i, zx_pop, zx_ifc, zx_icmp, zx_ifnullN, zx_ifnullS, zx_ifnonN, zx_ifnonS, zx_goto, zx_gotow, zx_switch, zx_iaload, zx_baload, zx_laload, zx_aaload, zx_iastore, zx_bastore, zx_lastore, zx_aastore, zx_alen, zx_newarray, zx_anewarray, zx_new, zx_getI, zx_getL, zx_getR, zx_putI, zx_putZ, zx_putL, zx_putR, zx_callS, zx_callV, zx_objinit, zx_cpyi, zx_cpyl, zx_mmax, zx_mmin, zx_mminl, zx_ireturn, zx_areturn, zx_lreturn, zx_return, zcs_0, zcs_1, zcv_1, zcs_2, zcv_2, zcs_3, zcv_3, zcs_4, zcv_4, zcs_5, zcv_5, zcs_6, zcv_6, zcs_7, zcv_7, Int.reduceToNat, Nat.reduceDiv, Nat.reduceMod, zJ, zC, zK_wA, zN_wA, zR_wA, zS_wA, zA_wA, zK_wR, zN_wR, zR_wR, zS_wR, zA_wR, zK_cp, zN_cp, zR_cp, zS_cp, zA_cp, zK_mp, zN_mp, zR_mp, zS_mp, zA_mp, zfa, zfmm, zfa_1, zfb_1, zfa_2, zfb_2, zfa_3, zfb_3, zfa_4, zfb_4, zfa_5, zfb_5, zfa_6, zfb_6, zfa_7, zfb_7, zfa_8, zfb_8, zfa_9, zfb_9, zfa_10, zfb_10, zfa_12, zfb_12, zfa_20, zfb_20, zfa_21, zfb_21, zfa_30, zfb_30, zfa_48, zfb_48, zfa_60, zfb_60, zfa_61, zfb_61, zfa_65, zfb_65, zfa_97, zfb_97, zfa_100, zfb_100, zfa_120, zfb_120, zfa_124, zfb_124, zfa_500, zfb_500, zfa_792, zfb_792, zfa_2989, zfb_2989, zfm_2, zfn_2, zfm_3, zfn_3, zfm_4, zfn_4, zfm_6, zfn_6, zfm_7, zfn_7, zfm_8, zfn_8, zfm_12, zfn_12, zfm_49, zfn_49, zfm_60, zfn_60, zfm_61, zfn_61, zfm_792, zfn_792, zfm_2989, zfn_2989, Int.zero_add, Int.add_zero, Int.zero_mul, Int.mul_zero, Int.one_mul, Int.mul_one]
        (try simp only [e4, Int.toNat_natCast])
        repeat (with_reducible refine And.intro ?_ ?_; · first | omega | (simp only [z32, z64]; omega))
        refine nxt G2 (zmd_tr mG m2) (ySt_c (fun s hs => ?_) g2)
        by_cases e : s = 224 + l * 7 + (c' + 1)
        · rw [e, zuq_e, zuq_e, zuq_e, e7, h2 _ (by omega)]
        · rw [zuq_n e, zuq_n e, zuq_n e]
set_option maxRecDepth 100000 in
set_option maxRecDepth 100000 in
theorem zc_awd {xs : Nat → Int} {L d b1 b2 : Nat} {H0 : zH} {Q : zQ} {t : Nat → Int} {w : Nat × (Nat → Nat × Nat)} {A : Nat → List Nat → Prop} {n : Nat} {cu rw : Nat → Int} {l x : Nat} (hd : 1 ≤ d) (hk : yMk H0) (hn : zA H0 165 3 = (n : Nat)) (hn6 : n ≤ 6) (hl : l ≤ 4) (hx : x < w.1) (hw : w.1 ≤ 120) (hcu : zA H0 169 x = cu x) (hrw : ∀ i : Nat, i < n → zA H0 168 i = rw i) (hS : ySt H0 t w A) (h : ∀ (G : zH) (B : Nat → List Nat → Prop), zmd (zin [166, 167] []) H0 G → ySt G t w B → (∀ c : Nat, c ≤ n → B (224 + l * 7 + c) = yV (fun c => A (224 + l * 7 + c)) (yW cu rw n x) c) → (∀ s : Nat, ¬ (224 + l * 7 ≤ s ∧ s < 224 + l * 7 + 7) → B s = A s) → Q 0 G) : zEm xs L d b1 b2 144 [zr (some 165), zi l, zi x] H0 Q := by
  refine zem_144 (zgo_at [25, 56] 4 ?_)
  have e3 : (224 : Int) + (l : Int) * 7 = ((224 + l * 7 : Nat) : Int) := by omega
  try simp -implicitDefEqProofs only [zgn_0, zgn_s, zct_0, zct_s, Nat.reduceEqDiff, Nat.reduceBEq, Nat.reduceAdd, Nat.reduceSub, Nat.reduceMul, Int.reduceAdd, Int.reduceSub, Int.reduceMul, Int.reduceNeg, Int.reduceLT, Int.reduceLE, Int.reduceEq, Nat.zero_add, true_and, and_true, false_and, and_false, true_imp_iff, false_imp_iff, not_true_eq_false, not_false_eq_true, if_true, if_false, Bool.false_eq_true, ite_true, ite_false, reduceIte, eq_self, Int.toNat_natCast, zst_0, zst_1, zst_2, zst_3, zst_4, true_or, or_true, or_false, false_or, ze_144_0, zB_144_0, ze_144_25, zB_144_25, ze_144_49, zB_144_49, ze_144_50, zB_144_50, ze_144_56, zB_144_56, ze_144_101, zB_144_101, ze_144_111, zB_144_111, ze_144_117, zB_144_117, zbr_t, zbr_f, zrun_c, zmI_s, zmL_s, zmR_s, zgt_0, zgt_s, zln_0, zln_s, zs1_0, zs1_1i, zs1_1r, zs1_1n, zs1_1l, zs1_s, zs2_0, zs2_1i, zs2_1r, zs2_1n, zs2_1l, zs2_s, zcn_eq, zcn_ne, zcn_lt, zcn_ge, zcn_gt, zcn_le, zpu_0, zpu_1, zpu_2, zx_iconst, zx_lconst, zx_ldc, zx_ldc2, zx_null, zx_iload, zx_lload, zx_aload, zx_istore, zx_lstore, zx_astore, zx_iinc, zx_iadd, zx_isub, zx_imul, zx_idiv, zx_irem, zx_iand, zx_ior, zx_ixor, zx_ishl, zx_ishr, zx_iushr, zx_i2b, zx_i2l, zx_l2i, zx_ladd, zx_lmul, zx_ldiv, zx_lrem, zx_land, zx_lor, zx_lshl, zx_lshr, zx_lcmp, zx_dupi, zx_dupr, zx_dup2l, zx_dup2i, zx_pop, zx_ifc, zx_icmp, zx_ifnullN, zx_ifnullS, zx_ifnonN, zx_ifnonS, zx_goto, zx_gotow, zx_switch, zx_iaload, zx_baload, zx_laload, zx_aaload, zx_iastore, zx_bastore, zx_lastore, zx_aastore, zx_alen, zx_newarray, zx_anewarray, zx_new, zx_getI, zx_getL, zx_getR, zx_putI, zx_putZ, zx_putL, zx_putR, zx_callS, zx_callV, zx_objinit, zx_cpyi, zx_cpyl, zx_mmax, zx_mmin, zx_mminl, zx_ireturn, zx_areturn, zx_lreturn, zx_return, zcs_0, zcs_1, zcv_1, zcs_2, zcv_2, zcs_3, zcv_3, zcs_4, zcv_4, zcs_5, zcv_5, zcs_6, zcv_6, zcs_7, zcv_7, Int.reduceToNat, Nat.reduceDiv, Nat.reduceMod, zJ, zC, zK_wA, zN_wA, zR_wA, zS_wA, zA_wA, zK_wR, zN_wR, zR_wR, zS_wR, zA_wR, zK_cp, zN_cp, zR_cp, zS_cp, zA_cp, zK_mp, zN_mp, zR_mp, zS_mp, zA_mp, zfa, zfmm, zfa_1, zfb_1, zfa_2, zfb_2, zfa_3, zfb_3, zfa_4, zfb_4, zfa_5, zfb_5, zfa_6, zfb_6, zfa_7, zfb_7, zfa_8, zfb_8, zfa_9, zfb_9, zfa_10, zfb_10, zfa_12, zfb_12, zfa_20, zfb_20, zfa_21, zfb_21, zfa_30, zfb_30, zfa_48, zfb_48, zfa_60, zfb_60, zfa_61, zfb_61, zfa_65, zfb_65, zfa_97, zfb_97, zfa_100, zfb_100, zfa_120, zfb_120, zfa_124, zfb_124, zfa_500, zfb_500, zfa_792, zfb_792, zfa_2989, zfb_2989, zfm_2, zfn_2, zfm_3, zfn_3, zfm_4, zfn_4, zfm_6, zfn_6, zfm_7, zfn_7, zfm_8, zfn_8, zfm_12, zfn_12, zfm_49, zfn_49, zfm_60, zfn_60, zfm_61, zfn_61, zfm_792, zfn_792, zfm_2989, zfn_2989, Int.zero_add, Int.add_zero, Int.zero_mul, Int.mul_zero, Int.one_mul, Int.mul_one, ym_k5 hk, ym_k6 hk, ym_n6 hk, ym_k7 hk, ym_n7 hk, ym_k8 hk, ym_n8 hk, ym_k9 hk, ym_n9 hk, ym_k0 hk, ym_n0 hk, ym_r0 hk, ym_r1 hk, ym_r2 hk, ym_r4 hk, ym_r5 hk, hn, hcu, e3]
  repeat (with_reducible refine And.intro ?_ ?_; · first | omega | (simp only [z32, z64]; omega))
  (try rw [e3])
  repeat (with_reducible refine And.intro ?_ ?_; · first | omega | (simp only [z32, z64]; omega))
  refine zbr_i (fun q => ?_) (fun q => ?_)
  · exact zl_awC (cu := cu) (rw := rw) hd hk hn hn6 hl hx hw (by omega) hrw h _ n H0 A rfl (by omega) (zmd_rf _ _) hS (fun b b1 b2 => by omega) (fun s _ => rfl)
  · exact zl_awN (cu := cu) (rw := rw) hd hk hn hn6 hl hx hw (by omega) h _ 0 H0 A rfl (by omega) (zmd_rf _ _) hS (fun b hb => by omega) (fun s _ => rfl)
/-! the slot of a rule's part -/
def yTri : Nat → Nat
  | 0 => 0
  | j + 1 => yTri j + (j + 1)
theorem yTri_m {a : Nat} : ∀ b : Nat, a ≤ b → yTri a ≤ yTri b
  | 0, h => by rw [show a = 0 by omega]; exact Nat.le_refl _
  | b + 1, h => by
    by_cases e : a = b + 1
    · rw [e]; exact Nat.le_refl _
    · have := yTri_m (a := a) b (by omega)
      show yTri a ≤ yTri b + (b + 1)
      omega
def yRS (c f j : Nat) : Nat := c * 28 + yTri j + f
theorem yTri_6 {j : Nat} (h : j ≤ 6) : yTri j ≤ 21 := yTri_m 6 h
theorem yRS_b {c f j : Nat} (hc : c < 8) (hf : f ≤ j) (hj : j ≤ 6) : yRS c f j < 224 := by
  have := yTri_6 hj
  unfold yRS
  omega
theorem yRS_i {c f j c' f' j' : Nat} (hf : f ≤ j) (hj : j ≤ 6) (hf' : f' ≤ j') (hj' : j' ≤ 6) (h : yRS c f j = yRS c' f' j') : c = c' ∧ f = f' ∧ j = j' := by
  have a1 := yTri_6 hj
  have a2 := yTri_6 hj'
  unfold yRS at h
  have hc : c = c' := by omega
  subst hc
  have hjj : j = j' := by
    rcases Nat.lt_trichotomy j j' with q | q | q
    · have := yTri_m (a := j + 1) j' q
      have e : yTri (j + 1) = yTri j + (j + 1) := rfl
      omega
    · exact q
    · have := yTri_m (a := j' + 1) j q
      have e : yTri (j' + 1) = yTri j' + (j' + 1) := rfl
      omega
  subst hjj
  exact ⟨rfl, by omega, rfl⟩
theorem yTri_d : ∀ {j : Nat}, j ≤ 6 → j * (j + 1) / 2 = yTri j
  | 0, _ => rfl
  | 1, _ => rfl
  | 2, _ => rfl
  | 3, _ => rfl
  | 4, _ => rfl
  | 5, _ => rfl
  | 6, _ => rfl
  | j + 7, h => by omega
theorem ytd {j : Nat} (h : j ≤ 6) : Int.tdiv ((j * (j + 1) : Nat) : Int) 2 = ((yTri j : Nat) : Int) := by
  rw [← yTri_d h]
  exact (Int.ofNat_tdiv (j * (j + 1)) 2).symm
theorem yjj {j : Nat} (h : j ≤ 6) : j * (j + 1) ≤ 42 := Nat.mul_le_mul h (show j + 1 ≤ 7 by omega)
set_option maxRecDepth 100000 in
theorem zc_rsl {xs : Nat → Int} {L d b1 b2 : Nat} {H : zH} {Q : zQ} {c f j : Nat} (hc : c < 8) (hf : f ≤ 6) (hj : j ≤ 6) (h : Q (yRS c f j : Nat) H) : zEm xs L d b1 b2 147 [zi c, zi f, zi j] H Q := by
  have a1 := yTri_6 hj
  have a2 := yjj hj
  have fin : Q ((c * 28 + yTri j + f : Nat) : Int) H := h
  refine zem_147 (zgo_at [] 4 ?_)
  try simp -implicitDefEqProofs only [zgn_0, zgn_s, zct_0, zct_s, Nat.reduceEqDiff, Nat.reduceBEq, Nat.reduceAdd, Nat.reduceSub, Nat.reduceMul, Int.reduceAdd, Int.reduceSub, Int.reduceMul, Int.reduceNeg, Int.reduceLT, Int.reduceLE, Int.reduceEq, Nat.zero_add, true_and, and_true, false_and, and_false, true_imp_iff, false_imp_iff, not_true_eq_false, not_false_eq_true, if_true, if_false, Bool.false_eq_true, ite_true, ite_false, reduceIte, eq_self, Int.toNat_natCast, zst_0, zst_1, zst_2, zst_3, zst_4, true_or, or_true, or_false, false_or, ze_147_0, zB_147_0, zbr_t, zbr_f, zrun_c, zmI_s, zmL_s, zmR_s, zgt_0, zgt_s, zln_0, zln_s, zs1_0, zs1_1i, zs1_1r, zs1_1n, zs1_1l, zs1_s, zs2_0, zs2_1i, zs2_1r, zs2_1n, zs2_1l, zs2_s, zcn_eq, zcn_ne, zcn_lt, zcn_ge, zcn_gt, zcn_le, zpu_0, zpu_1, zpu_2, zx_iconst, zx_lconst, zx_ldc, zx_ldc2, zx_null, zx_iload, zx_lload, zx_aload, zx_istore, zx_lstore, zx_astore, zx_iinc, zx_iadd, zx_isub, zx_imul, zx_idiv, zx_irem, zx_iand, zx_ior, zx_ixor, zx_ishl, zx_ishr, zx_iushr, zx_i2b, zx_i2l, zx_l2i, zx_ladd, zx_lmul, zx_ldiv, zx_lrem, zx_land, zx_lor, zx_lshl, zx_lshr, zx_lcmp, zx_dupi, zx_dupr, zx_dup2l, zx_dup2i, zx_pop, zx_ifc, zx_icmp, zx_ifnullN, zx_ifnullS, zx_ifnonN, zx_ifnonS, zx_goto, zx_gotow, zx_switch, zx_iaload, zx_baload, zx_laload, zx_aaload, zx_iastore, zx_bastore, zx_lastore, zx_aastore, zx_alen, zx_newarray, zx_anewarray, zx_new, zx_getI, zx_getL, zx_getR, zx_putI, zx_putZ, zx_putL, zx_putR, zx_callS, zx_callV, zx_objinit, zx_cpyi, zx_cpyl, zx_mmax, zx_mmin, zx_mminl, zx_ireturn, zx_areturn, zx_lreturn, zx_return, zcs_0, zcs_1, zcv_1, zcs_2, zcv_2, zcs_3, zcv_3, zcs_4, zcv_4, zcs_5, zcv_5, zcs_6, zcv_6, zcs_7, zcv_7, Int.reduceToNat, Nat.reduceDiv, Nat.reduceMod, zJ, zC, zK_wA, zN_wA, zR_wA, zS_wA, zA_wA, zK_wR, zN_wR, zR_wR, zS_wR, zA_wR, zK_cp, zN_cp, zR_cp, zS_cp, zA_cp, zK_mp, zN_mp, zR_mp, zS_mp, zA_mp, zfa, zfmm, zfa_1, zfb_1, zfa_2, zfb_2, zfa_3, zfb_3, zfa_4, zfb_4, zfa_5, zfb_5, zfa_6, zfb_6, zfa_7, zfb_7, zfa_8, zfb_8, zfa_9, zfb_9, zfa_10, zfb_10, zfa_12, zfb_12, zfa_20, zfb_20, zfa_21, zfb_21, zfa_30, zfb_30, zfa_48, zfb_48, zfa_60, zfb_60, zfa_61, zfb_61, zfa_65, zfb_65, zfa_97, zfb_97, zfa_100, zfb_100, zfa_120, zfb_120, zfa_124, zfb_124, zfa_500, zfb_500, zfa_792, zfb_792, zfa_2989, zfb_2989, zfm_2, zfn_2, zfm_3, zfn_3, zfm_4, zfn_4, zfm_6, zfn_6, zfm_7, zfn_7, zfm_8, zfn_8, zfm_12, zfn_12, zfm_49, zfn_49, zfm_60, zfn_60, zfm_61, zfn_61, zfm_792, zfn_792, zfm_2989, zfn_2989, Int.zero_add, Int.add_zero, Int.zero_mul, Int.mul_zero, Int.one_mul, Int.mul_one]
  generalize hm : j * (j + 1) = m at *
  have e1 : Int.tdiv ((m : Nat) : Int) 2 = ((yTri j : Nat) : Int) := by rw [← hm]; exact ytd hj
  (try rw [e1])
  (try simp only [zfa, zfmm, zfa_1, zfb_1, zfa_2, zfb_2, zfa_3, zfb_3, zfa_4, zfb_4, zfa_5, zfb_5, zfa_6, zfb_6, zfa_7, zfb_7, zfa_8, zfb_8, zfa_9, zfb_9, zfa_10, zfb_10, zfa_12, zfb_12, zfa_20, zfb_20, zfa_21, zfb_21, zfa_30, zfb_30, zfa_48, zfb_48, zfa_60, zfb_60, zfa_61, zfb_61, zfa_65, zfb_65, zfa_97, zfb_97, zfa_100, zfb_100, zfa_120, zfb_120, zfa_124, zfb_124, zfa_500, zfb_500, zfa_792, zfb_792, zfa_2989, zfb_2989, zfm_2, zfn_2, zfm_3, zfn_3, zfm_4, zfn_4, zfm_6, zfn_6, zfm_7, zfn_7, zfm_8, zfn_8, zfm_12, zfn_12, zfm_49, zfn_49, zfm_60, zfn_60, zfm_61, zfn_61, zfm_792, zfn_792, zfm_2989, zfn_2989, Int.zero_add, Int.add_zero, Int.zero_mul, Int.mul_zero, Int.one_mul, Int.mul_one])
  repeat (with_reducible refine And.intro ?_ ?_; · first | omega | (simp only [z32, z64]; omega))
  first | exact fin | (simp only [zx_ireturn]; exact fin)
