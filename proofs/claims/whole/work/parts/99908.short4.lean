theorem zDg_e {s d : Nat} (hs : s < 32768) (hd : d < 5) : zand (zshr (s : Int) (3 * (d : Int))) 7 = ((zDg s d : Nat) : Int) := by
  have e : (3 * (d : Int)) = ((3 * d : Nat) : Int) := by omega
  have h2 : s / 2 ^ (3 * d) ≤ s := Nat.div_le_self _ _
  rw [e, zshr_n (by omega) (by omega), zan7 (by omega)]
  unfold zDg
  rw [show (8 : Nat) = 2 ^ 3 from rfl, ← Nat.pow_mul]
theorem zDg_0 (s : Nat) : s % 8 = zDg s 0 := by unfold zDg; rw [Nat.pow_zero, Nat.div_one]
set_option maxRecDepth 100000 in
theorem zl_deA {xs : Nat → Int} {L d b1 b2 : Nat} {H0 : zH} {Q : zQ} {s : Int} {p q : Nat} {v4 v5 v6 : Int} {G : zH} (hL0 : zLay H0) (hp : p < 128) (hq : q < 128) (hm : zmd (zin [125] []) H0 G) (hX : ∃ t : Nat, (zPp p t ∧ ¬ q / 2 ^ t % 2 = 1)) (h : ∀ c : Nat, (zPp p c ∧ ¬ q / 2 ^ c % 2 = 1) → (∀ u : Nat, (zPp p u ∧ ¬ q / 2 ^ u % 2 = 1) → u ≠ c → zbe (zA H0 127) c u) → zEt xs L d b1 b2 false 234 106 [some (zr (some 106)), some (zi s), some (zi p), some (zi q), some (zi v4), some (zi v5), some (zi v6), some (zi c), some (zi (7 : Nat))] [] G Q) : ∀ (kk : Nat) (t : Nat) (b : Int), 7 - t = kk → (t ≤ 7) → ((b = -1 ∧ ∀ u : Nat, u < t → ¬ (zPp p u ∧ ¬ q / 2 ^ u % 2 = 1)) ∨ ∃ c : Nat, b = (c : Int) ∧ c < t ∧ (zPp p c ∧ ¬ q / 2 ^ c % 2 = 1) ∧ ∀ u : Nat, u < t → (zPp p u ∧ ¬ q / 2 ^ u % 2 = 1) → u ≠ c → zbe (zA H0 127) c u) → zEt xs L d b1 b2 false 234 52 [some (zr (some 106)), some (zi s), some (zi p), some (zi q), some (zi v4), some (zi v5), some (zi v6), some (zi b), some (zi t)] [] G Q := by
  intro kk
  induction kk using Nat.strongRecOn with
  | ind kk ih =>
    intro t b hkk ht hb
    refine zgo_at [52, 106] 8 ?_
    try simp -implicitDefEqProofs only [zgn_0, zgn_s, zct_0, zct_s, Nat.reduceEqDiff, Nat.reduceBEq, Nat.reduceAdd, Nat.reduceSub, Nat.reduceMul, Int.reduceAdd, Int.reduceSub, Int.reduceMul, Int.reduceNeg, Int.reduceLT, Int.reduceLE, Int.reduceEq, Nat.zero_add, true_and, and_true, false_and, and_false, true_imp_iff, false_imp_iff, not_true_eq_false, not_false_eq_true, if_true, if_false, Bool.false_eq_true, ite_true, ite_false, reduceIte, eq_self, Int.toNat_natCast, zst_0, zst_1, zst_2, zst_3, zst_4, true_or, or_true, or_false, false_or, ze_234_0, zB_234_0, ze_234_14, zB_234_14, ze_234_22, zB_234_22, ze_234_46, zB_234_46, ze_234_52, zB_234_52, ze_234_96, zB_234_96, ze_234_100, zB_234_100, ze_234_106, zB_234_106, ze_234_143, zB_234_143, zbr_t, zbr_f, zrun_c, zmI_s, zmL_s, zmR_s, zgt_0, zgt_s, zln_0, zln_s, zs1_0, zs1_1i, zs1_1r, zs1_1n, zs1_1l, zs1_s, zs2_0, zs2_1i, zs2_1r, zs2_1n, zs2_1l, zs2_s, zcn_eq, zcn_ne, zcn_lt, zcn_ge, zcn_gt, zcn_le, zpu_0, zpu_1, zpu_2, zx_iconst, zx_lconst, zx_ldc, zx_ldc2, zx_null, zx_iload, zx_lload, zx_aload, zx_istore, zx_lstore, zx_astore, zx_iinc, zx_iadd, zx_isub, zx_imul, zx_idiv, zx_irem, zx_iand, zx_ior, zx_ixor, zx_ishl, zx_ishr, zx_iushr, zx_i2b, zx_i2l, zx_l2i, zx_ladd, zx_lmul, zx_ldiv, zx_lrem, zx_land, zx_lor, zx_lshl, zx_lshr, zx_lcmp, zx_dupi, zx_dupr, zx_dup2l, zx_dup2i, zx_pop, zx_ifc, zx_icmp, zx_ifnullN, zx_ifnullS, zx_ifnonN, zx_ifnonS, zx_goto, zx_gotow, zx_switch, zx_iaload, zx_baload, zx_laload, zx_aaload, zx_iastore, zx_bastore, zx_lastore, zx_aastore, zx_alen, zx_newarray, zx_anewarray, zx_new, zx_getI, zx_getL, zx_getR, zx_putI, zx_putZ, zx_putL, zx_putR, zx_callS, zx_callV, zx_objinit, zx_cpyi, zx_cpyl, zx_mmax, zx_mmin, zx_mminl, zx_ireturn, zx_areturn, zx_lreturn, zx_return, zcs_0, zcs_1, zcv_1, zcs_2, zcv_2, zcs_3, zcv_3, zcs_4, zcv_4, zcs_5, zcv_5, zcs_6, zcv_6, zcs_7, zcv_7, Int.reduceToNat, Nat.reduceDiv, Nat.reduceMod, zJ, zC, zK_wA, zN_wA, zR_wA, zS_wA, zA_wA, zK_wR, zN_wR, zR_wR, zS_wR, zA_wR, zK_cp, zN_cp, zR_cp, zS_cp, zA_cp, zK_mp, zN_mp, zR_mp, zS_mp, zA_mp, zfa, zfmm, zfa_1, zfb_1, zfa_2, zfb_2, zfa_3, zfb_3, zfa_4, zfb_4, zfa_5, zfb_5, zfa_6, zfb_6, zfa_7, zfb_7, zfa_8, zfb_8, zfa_9, zfb_9, zfa_10, zfb_10, zfa_12, zfb_12, zfa_20, zfb_20, zfa_21, zfb_21, zfa_30, zfb_30, zfa_48, zfb_48, zfa_60, zfb_60, zfa_61, zfb_61, zfa_65, zfb_65, zfa_97, zfb_97, zfa_100, zfb_100, zfa_120, zfb_120, zfa_124, zfb_124, zfa_500, zfb_500, zfa_792, zfb_792, zfa_2989, zfb_2989, zfm_2, zfn_2, zfm_3, zfn_3, zfm_4, zfn_4, zfm_6, zfn_6, zfm_7, zfn_7, zfm_8, zfn_8, zfm_12, zfn_12, zfm_49, zfn_49, zfm_60, zfn_60, zfm_61, zfn_61, zfm_792, zfn_792, zfm_2989, zfn_2989, Int.zero_add, Int.add_zero, Int.zero_mul, Int.mul_zero, Int.one_mul, Int.mul_one, lk_106 (zmd_lay hm hL0), lr_106_25 (zmd_lay hm hL0), lk_127 (zmd_lay hm hL0), ln_127 (zmd_lay hm hL0)]
    refine zbr_i (fun q0 => ?_) (fun q0 => ?_)
    · have e0 : t = 7 := by clear hb hX; omega
      subst e0
      rcases hb with ⟨_, hb⟩ | ⟨c, rfl, hc, hR, hb⟩
      · obtain ⟨t, hR⟩ := hX
        exact absurd hR (hb t hR.1.1)
      · exact h c hR (fun u hu hne => hb u hu.1.1 hu hne)
    · have hz := zdf_b p hp q hq
      have ht7 : t < 7 := by clear hb hX; omega
      rw [zdf_e p hp q hq, zb7 (by omega) (by omega)]
      have hbit := hz.2 t ht7
      have hRt : (p &&& (127 ^^^ q)) / 2 ^ t % 2 = 1 ↔ (zPp p t ∧ ¬ q / 2 ^ t % 2 = 1) := hbit.trans ⟨fun a => ⟨⟨ht7, a.1⟩, a.2⟩, fun a => ⟨a.1.2, a.2⟩⟩
      have skip : (¬ (zPp p t ∧ ¬ q / 2 ^ t % 2 = 1) ∨ ∃ c : Nat, b = (c : Int) ∧ c < t ∧ (zPp p c ∧ ¬ q / 2 ^ c % 2 = 1) ∧ zA H0 127 t ≤ zA H0 127 c) → zEt xs L d b1 b2 false 234 52 [some (zr (some 106)), some (zi s), some (zi p), some (zi q), some (zi v4), some (zi v5), some (zi v6), some (zi b), some (zi (t + 1 : Nat))] [] G Q := by
        intro hs
        refine ih (7 - (t + 1)) (by clear hb hX hs; omega) (t + 1) b rfl (by omega) ?_
        rcases hb with ⟨h1, hb⟩ | ⟨c, h1, hc, hR, hb⟩
        · refine Or.inl ⟨h1, fun u hu hRu => ?_⟩
          by_cases e : u = t
          · subst e
            rcases hs with hs | ⟨c, r1, r2, r3, _⟩
            · exact hs hRu
            · exact absurd r3 (hb c r2)
          · exact hb u (by omega) hRu
        · refine Or.inr ⟨c, h1, by omega, hR, fun u hu hRu hne => ?_⟩
          by_cases e : u = t
          · subst e
            rcases hs with hs | ⟨c', r1, r2, r3, r4⟩
            · exact absurd hRu hs
            · have : c' = c := by omega
              subst this
              unfold zbe
              omega
          · exact hb u (by omega) hRu hne
      have take : (zPp p t ∧ ¬ q / 2 ^ t % 2 = 1) → (b = -1 ∨ ∃ c : Nat, b = (c : Int) ∧ zA H0 127 c < zA H0 127 t) → zEt xs L d b1 b2 false 234 52 [some (zr (some 106)), some (zi s), some (zi p), some (zi q), some (zi v4), some (zi v5), some (zi v6), some (zi t), some (zi (t + 1 : Nat))] [] G Q := by
        intro hRt hs
        refine ih (7 - (t + 1)) (by clear hb hX hs; omega) (t + 1) t rfl (by omega) (Or.inr ⟨t, rfl, by omega, hRt, fun u hu hRu hne => ?_⟩)
        rcases hb with ⟨h1, hb⟩ | ⟨c, h1, hc, hR, hb⟩
        · exact absurd hRu (hb u (by omega))
        · rcases hs with hs | ⟨c', r1, r2⟩
          · omega
          · have : c' = c := by omega
            subst this
            by_cases e : u = c'
            · subst e; exact Or.inl r2
            · have := hb u (by omega) hRu e
              unfold zbe at this ⊢
              omega
      refine zbr_i (fun q1 => ?_) (fun q1 => ?_)
      · refine ⟨by clear hb hX skip take; simp only [z32]; omega, ?_⟩
        exact skip (Or.inl (fun r => by have := hRt.mpr r; clear hb hX skip take; omega))
      · have hR : (zPp p t ∧ ¬ q / 2 ^ t % 2 = 1) := hRt.mp (by clear hb hX skip take; omega)
        refine zbr_i (fun q2 => ?_) (fun q2 => ?_)
        · refine ⟨by clear hb hX skip take; simp only [z32]; omega, ?_⟩
          exact take hR (Or.inl q2)
        · rcases hb with ⟨h1, hb⟩ | ⟨c, h1, hc, hRc, hb⟩
          · exact absurd h1 q2
          · subst h1
            have e127 : ∀ u : Nat, zA G 127 u = zA H0 127 u := fun u => hm.2.2.2 127 u rfl
            clear hX
            simp only [Int.toNat_natCast, e127]
            have hc7 : c < 7 := hRc.1.1
            repeat (with_reducible refine And.intro ?_ ?_; · first | omega | (simp only [z32, z64]; omega))
            refine zbr_i (fun q3 => ?_) (fun q3 => ?_)
            · refine ⟨by simp only [z32]; omega, ?_⟩
              exact skip (Or.inr ⟨c, rfl, hc, hRc, q3⟩)
            · refine ⟨by simp only [z32]; omega, ?_⟩
              exact take hR (Or.inr ⟨c, rfl, by omega⟩)
