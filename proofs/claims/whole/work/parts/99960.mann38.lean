theorem zsRow_b {α : Type} {g : α → Nat → Nat} {ok : α → Prop} {B : Nat} (h : ∀ a, ok a → ∀ s, s < B → g a s < B) : ∀ (r : List α), zokRow ok r → ∀ s, s < B → zsRow g r s < B
  | [], _, _, hs => hs
  | a :: r, hk, s, hs => zsRow_b h r hk.2 _ (h a hk.1 s hs)
theorem zsRs_b {α : Type} {g : α → Nat → Nat} {ok : α → Prop} {k : Nat} (h : ∀ a, ok a → ∀ s, s < 2 ^ k → g a s < 2 ^ k) : ∀ (r : List (List α)), zokRs ok r → ∀ s a, s < 2 ^ k → a < 2 ^ k → zsRs zmJ g r s a < 2 ^ k
  | [], hk, _, _, _, _ => hk.elim
  | [r], hk, s, a, hs, ha => zmor ha (zsRow_b h r hk s hs)
  | r :: q :: rs, hk, s, a, hs, ha => zsRs_b h (q :: rs) hk.2 s _ hs (zmor ha (zsRow_b h r hk.1 s hs))
theorem zsI_b {tk : Nat → Nat → Nat} {P : Nat → Prop} {k : Nat} (h : ∀ x, P x → ∀ s, s < 2 ^ k → tk x s < 2 ^ k) : ∀ (n : Nat) (it : zIt n), zokI P n it → ∀ s, s < 2 ^ k → zsI tk zmJ n it s < 2 ^ k
  | 0, x, hk, s, hs => h x hk s hs
  | n + 1, it, hk, s, hs => by
    match it, hk with
    | Sum.inl x, hk => exact h x hk s hs
    | Sum.inr rs, hk => exact zsRs_b (zsI_b h n) rs hk s s hs hs
theorem zsRow_0 {α : Type} {g : α → Nat → Nat} (h : ∀ a, g a 0 = 0) : ∀ (r : List α), zsRow g r 0 = 0
  | [] => rfl
  | a :: r => by
    show zsRow g r (g a 0) = 0
    rw [h a]; exact zsRow_0 h r
theorem zsRs_0 {α : Type} {g : α → Nat → Nat} (h : ∀ a, g a 0 = 0) : ∀ (r : List (List α)), zsRs zmJ g r 0 0 = 0
  | [] => rfl
  | r :: rs => by
    show zsRs zmJ g rs 0 (zmJ 0 (zsRow g r 0)) = 0
    rw [zsRow_0 h r]
    exact zsRs_0 h rs
theorem zsI_0 {tk : Nat → Nat → Nat} (h : ∀ x, tk x 0 = 0) : ∀ (n : Nat) (it : zIt n), zsI tk zmJ n it 0 = 0
  | 0, x => h x
  | n + 1, it => by
    match it with
    | Sum.inl x => exact h x
    | Sum.inr rs => exact zsRs_0 (zsI_0 h n) rs
theorem zsRs_o {α : Type} {g : α → Nat → Nat} : ∀ (r : List (List α)) (s a b : Nat), zsRs zmJ g r s (a ||| b) = a ||| zsRs zmJ g r s b
  | [], _, _, _ => rfl
  | r :: rs, s, a, b => by
    show zsRs zmJ g rs s ((a ||| b) ||| zsRow g r s) = a ||| zsRs zmJ g rs s (b ||| zsRow g r s)
    rw [Nat.or_assoc]
    exact zsRs_o rs s a _
set_option maxRecDepth 100000 in
theorem zl_ieL {xs : Nat → Int} {L d b1 b2 : Nat} {H : zH} {Q : zQ} {n k : Nat} {sa ss : Nat → Nat} {t : Nat → Int} {w : Nat × (Nat → Nat × Nat)} {wb : Nat → Nat → Bool} {e : Nat → Nat → Nat} {x i s : Nat} (hL : zLay H) (hS : zSd H n sa ss) (hws : ∀ x : Nat, x < w.1 → (w.2 x).2 ≤ 12) (hwb : ∀ x p : Nat, x < w.1 → p < n → (wb x p = true ↔ zSmd H t w sa ss x p)) (hE : ∀ c : Nat, k < c → c < 8 → ∀ p : Nat, p < n + 1 → zA H 160 (61 * c + p) = (e c p : Nat)) (hEb : ∀ c : Nat, c < 8 → ∀ p : Nat, p < n + 1 → e c p < 2 ^ (n + 1)) (hd : 2 ≤ d) (hi : i < 120) (hs : s < 2 ^ (n + 1)) (hx : zRlf H 0 t w x i) (hP : zlfP w.1 k x) (h : Q (zmT n wb e x s : Nat) H) : ∀ (kk : Nat) (p : Nat), n + 1 - p = kk → (p ≤ n + 1) → zEt xs L d b1 b2 false 290 30 [some (zr (some 106)), some (zi i), some (zl s), none, some (zl (zmP (zmEl n wb e x) s p : Nat)), none, some (zi p)] [] H Q := by
  intro kk
  induction kk using Nat.strongRecOn with
  | ind kk ih =>
    intro p hkk hp
    refine zgo_at [30] 8 ?_
    try simp -implicitDefEqProofs only [zgn_0, zgn_s, zct_0, zct_s, Nat.reduceEqDiff, Nat.reduceBEq, Nat.reduceAdd, Nat.reduceSub, Nat.reduceMul, Int.reduceAdd, Int.reduceSub, Int.reduceMul, Int.reduceNeg, Int.reduceLT, Int.reduceLE, Int.reduceEq, Nat.zero_add, true_and, and_true, false_and, and_false, true_imp_iff, false_imp_iff, not_true_eq_false, not_false_eq_true, if_true, if_false, Bool.false_eq_true, ite_true, ite_false, reduceIte, eq_self, Int.toNat_natCast, zst_0, zst_1, zst_2, zst_3, zst_4, true_or, or_true, or_false, false_or, ze_290_0, zB_290_0, ze_290_24, zB_290_24, ze_290_30, zB_290_30, ze_290_53, zB_290_53, ze_290_88, zB_290_88, ze_290_118, zB_290_118, ze_290_124, zB_290_124, zbr_t, zbr_f, zrun_c, zmI_s, zmL_s, zmR_s, zgt_0, zgt_s, zln_0, zln_s, zs1_0, zs1_1i, zs1_1r, zs1_1n, zs1_1l, zs1_s, zs2_0, zs2_1i, zs2_1r, zs2_1n, zs2_1l, zs2_s, zcn_eq, zcn_ne, zcn_lt, zcn_ge, zcn_gt, zcn_le, zpu_0, zpu_1, zpu_2, zx_iconst, zx_lconst, zx_ldc, zx_ldc2, zx_null, zx_iload, zx_lload, zx_aload, zx_istore, zx_lstore, zx_astore, zx_iinc, zx_iadd, zx_isub, zx_imul, zx_idiv, zx_irem, zx_iand, zx_ior, zx_ixor, zx_ishl, zx_ishr, zx_iushr, zx_i2b, zx_i2l, zx_l2i, zx_ladd, zx_lmul, zx_ldiv, zx_lrem, zx_land, zx_lor, zx_lshl, zx_lshr, zx_lcmp, zx_dupi, zx_dupr, zx_dup2l, zx_dup2i, zx_pop, zx_ifc, zx_icmp, zx_ifnullN, zx_ifnullS, zx_ifnonN, zx_ifnonS, zx_goto, zx_gotow, zx_switch, zx_iaload, zx_baload, zx_laload, zx_aaload, zx_iastore, zx_bastore, zx_lastore, zx_aastore, zx_alen, zx_newarray, zx_anewarray, zx_new, zx_getI, zx_getL, zx_getR, zx_putI, zx_putZ, zx_putL, zx_putR, zx_callS, zx_callV, zx_objinit, zx_cpyi, zx_cpyl, zx_mmax, zx_mmin, zx_mminl, zx_ireturn, zx_areturn, zx_lreturn, zx_return, zcs_0, zcs_1, zcv_1, zcs_2, zcv_2, zcs_3, zcv_3, zcs_4, zcv_4, zcs_5, zcv_5, zcs_6, zcv_6, zcs_7, zcv_7, Int.reduceToNat, Nat.reduceDiv, Nat.reduceMod, zJ, zC, zK_wA, zN_wA, zR_wA, zS_wA, zA_wA, zK_wR, zN_wR, zR_wR, zS_wR, zA_wR, zK_cp, zN_cp, zR_cp, zS_cp, zA_cp, zK_mp, zN_mp, zR_mp, zS_mp, zA_mp, zfa, zfmm, zfa_1, zfb_1, zfa_2, zfb_2, zfa_3, zfb_3, zfa_4, zfb_4, zfa_5, zfb_5, zfa_6, zfb_6, zfa_7, zfb_7, zfa_8, zfb_8, zfa_9, zfb_9, zfa_10, zfb_10, zfa_12, zfb_12, zfa_20, zfb_20, zfa_21, zfb_21, zfa_30, zfb_30, zfa_48, zfb_48, zfa_60, zfb_60, zfa_61, zfb_61, zfa_65, zfb_65, zfa_97, zfb_97, zfa_100, zfb_100, zfa_120, zfb_120, zfa_124, zfb_124, zfa_500, zfb_500, zfa_792, zfb_792, zfa_2989, zfb_2989, zfm_2, zfn_2, zfm_3, zfn_3, zfm_4, zfn_4, zfm_6, zfn_6, zfm_7, zfn_7, zfm_8, zfn_8, zfm_12, zfn_12, zfm_49, zfn_49, zfm_60, zfn_60, zfm_61, zfn_61, zfm_792, zfn_792, zfm_2989, zfn_2989, Int.zero_add, Int.add_zero, Int.zero_mul, Int.mul_zero, Int.one_mul, Int.mul_one, lk_106 hL, lr_106_57 hL, lk_149 hL, ln_149 hL, lr_106_58 hL, lk_150 hL, ln_150 hL, lr_106_78 hL, lk_160 hL, ln_160 hL, hS.2.1]
    have hn := hS.1
    have hp63 : ∀ a : Nat, a < 2 ^ (n + 1) → a < 9223372036854775808 := fun a ha => zp61 (zp60 hn ha)
    have hlf : zlf x := by unfold zlfP at hP; unfold zlf; omega
    have hEl : ∀ j : Nat, j < n + 1 → zmEl n wb e x j < 2 ^ (n + 1) := by
      intro j hj
      unfold zmEl
      unfold zlf at hlf
      by_cases q : x < 120
      · rw [if_pos q]
        by_cases q2 : j < n ∧ wb x j = true
        · rw [if_pos q2]; exact Nat.pow_lt_pow_right (by omega) (by omega)
        · rw [if_neg q2]; exact Nat.two_pow_pos _
      · rw [if_neg q]; exact hEb _ (by omega) j hj
    have hb : ∀ j : Nat, j ≤ n + 1 → zmP (zmEl n wb e x) s j < 2 ^ (n + 1) := fun j hj => zmP_b j (fun b hb => hEl b (by omega))
    refine zbr_i (fun q => ?_) (fun q => ?_)
    · have e9 : p = n + 1 := by omega
      subst e9
      first | exact h | (simp only [zx_lreturn]; exact h)
    · have hp2 : p < n + 1 := by omega
      have e1 := zmP_s (zmEl n wb e x) s p
      have nxt : ∀ y : Nat, y = zmP (zmEl n wb e x) s (p + 1) → zEt xs L d b1 b2 false 290 30 [some (zr (some 106)), some (zi i), some (zl s), none, some (zl (y : Nat)), none, some (zi (p + 1 : Nat))] [] H Q := fun y hy => by
        rw [hy]
        exact ih _ (by omega) (p + 1) rfl (by omega)
      rw [zlshr_n (by omega) (hp63 _ hs), show ((1 : Int)) = ((1 : Nat) : Int) from rfl, zland_n (zdv_l (hp63 _ hs)) (by omega)]
      refine zbr_i (fun q0 => ?_) (fun q0 => ?_)
      · rw [zlcm_0] at q0
        have qb : s.testBit p = true := by
          apply ztb_m.mp
          have : s / 2 ^ p &&& 1 = s / 2 ^ p % 2 := Nat.and_one_is_mod _
          omega
        rw [if_pos qb] at e1
        rcases hx with ⟨x1, x2, x3, x4, x5⟩ | ⟨x1, x2, x3, x4⟩
        · rw [Nat.zero_add] at x3 x4
          simp only [Nat.zero_add] at x5
          rw [x3]
          repeat (with_reducible refine And.intro ?_ ?_; · first | omega | (simp only [z32, z64]; omega))
          refine zbr_i (fun _ => ?_) (fun q2 => by omega)
          refine zbr_i (fun q3 => ?_) (fun q3 => ?_)
          · have ez : zmEl n wb e x p = 0 := by unfold zmEl; rw [if_pos x1, if_neg (by omega)]
            repeat (with_reducible refine And.intro ?_ ?_; · first | omega | (simp only [z32, z64]; omega))
            exact nxt _ (by rw [e1, ez, Nat.or_zero])
          · repeat (with_reducible refine And.intro ?_ ?_; · first | omega | (simp only [z32, z64]; omega))
            refine zc_isSaid (x := x) (t := t) (w := w) hL (by omega) hS hi (by omega) x4 (hws x x2) x5 (fun r => ?_) (fun r => ?_)
            · have ez : zmEl n wb e x p = 2 ^ (p + 1) := by unfold zmEl; rw [if_pos x1, if_pos ⟨by omega, (hwb x p x2 (by omega)).mpr r⟩]
              try simp -implicitDefEqProofs only [zgn_0, zgn_s, zct_0, zct_s, Nat.reduceEqDiff, Nat.reduceBEq, Nat.reduceAdd, Nat.reduceSub, Nat.reduceMul, Int.reduceAdd, Int.reduceSub, Int.reduceMul, Int.reduceNeg, Int.reduceLT, Int.reduceLE, Int.reduceEq, Nat.zero_add, true_and, and_true, false_and, and_false, true_imp_iff, false_imp_iff, not_true_eq_false, not_false_eq_true, if_true, if_false, Bool.false_eq_true, ite_true, ite_false, reduceIte, eq_self, Int.toNat_natCast, zst_0, zst_1, zst_2, zst_3, zst_4, true_or, or_true, or_false, false_or, ze_290_0, zB_290_0, ze_290_24, zB_290_24, ze_290_30, zB_290_30, ze_290_53, zB_290_53, ze_290_88, zB_290_88, ze_290_118, zB_290_118, ze_290_124, zB_290_124, zbr_t, zbr_f, zrun_c, zmI_s, zmL_s, zmR_s, zgt_0, zgt_s, zln_0, zln_s, zs1_0, zs1_1i, zs1_1r, zs1_1n, zs1_1l, zs1_s, zs2_0, zs2_1i, zs2_1r, zs2_1n, zs2_1l, zs2_s, zcn_eq, zcn_ne, zcn_lt, zcn_ge, zcn_gt, zcn_le, zpu_0, zpu_1, zpu_2, zx_iconst, zx_lconst, zx_ldc, zx_ldc2, zx_null, zx_iload, zx_lload, zx_aload, zx_istore, zx_lstore, zx_astore, zx_iinc, zx_iadd, zx_isub, zx_imul, zx_idiv, zx_irem, zx_iand, zx_ior, zx_ixor, zx_ishl, zx_ishr, zx_iushr, zx_i2b, zx_i2l, zx_l2i, zx_ladd, zx_lmul, zx_ldiv, zx_lrem, zx_land, zx_lor, zx_lshl, zx_lshr, zx_lcmp, zx_dupi, zx_dupr, zx_dup2l, zx_dup2i, zx_pop, zx_ifc, zx_icmp, zx_ifnullN, zx_ifnullS, zx_ifnonN, zx_ifnonS, zx_goto, zx_gotow, zx_switch, zx_iaload, zx_baload, zx_laload, zx_aaload, zx_iastore, zx_bastore, zx_lastore, zx_aastore, zx_alen, zx_newarray, zx_anewarray, zx_new, zx_getI, zx_getL, zx_getR, zx_putI, zx_putZ, zx_putL, zx_putR, zx_callS, zx_callV, zx_objinit, zx_cpyi, zx_cpyl, zx_mmax, zx_mmin, zx_mminl, zx_ireturn, zx_areturn, zx_lreturn, zx_return, zcs_0, zcs_1, zcv_1, zcs_2, zcv_2, zcs_3, zcv_3, zcs_4, zcv_4, zcs_5, zcv_5, zcs_6, zcv_6, zcs_7, zcv_7, Int.reduceToNat, Nat.reduceDiv, Nat.reduceMod, zJ, zC, zK_wA, zN_wA, zR_wA, zS_wA, zA_wA, zK_wR, zN_wR, zR_wR, zS_wR, zA_wR, zK_cp, zN_cp, zR_cp, zS_cp, zA_cp, zK_mp, zN_mp, zR_mp, zS_mp, zA_mp, zfa, zfmm, zfa_1, zfb_1, zfa_2, zfb_2, zfa_3, zfb_3, zfa_4, zfb_4, zfa_5, zfb_5, zfa_6, zfb_6, zfa_7, zfb_7, zfa_8, zfb_8, zfa_9, zfb_9, zfa_10, zfb_10, zfa_12, zfb_12, zfa_20, zfb_20, zfa_21, zfb_21, zfa_30, zfb_30, zfa_48, zfb_48, zfa_60, zfb_60, zfa_61, zfb_61, zfa_65, zfb_65, zfa_97, zfb_97, zfa_100, zfb_100, zfa_120, zfb_120, zfa_124, zfb_124, zfa_500, zfb_500, zfa_792, zfb_792, zfa_2989, zfb_2989, zfm_2, zfn_2, zfm_3, zfn_3, zfm_4, zfn_4, zfm_6, zfn_6, zfm_7, zfn_7, zfm_8, zfn_8, zfm_12, zfn_12, zfm_49, zfn_49, zfm_60, zfn_60, zfm_61, zfn_61, zfm_792, zfn_792, zfm_2989, zfn_2989, Int.zero_add, Int.add_zero, Int.zero_mul, Int.mul_zero, Int.one_mul, Int.mul_one]
              have e2 : zlshl 2 (p : Int) = ((2 ^ (p + 1) : Nat) : Int) := by
                have h9 := hEl p hp2
                rw [ez] at h9
                have := zlshl_n (a := 2) (k := p) (by omega) (by rw [← Nat.pow_succ']; exact hp63 _ h9)
                rw [← Nat.pow_succ'] at this
                exact this
              rw [e2, zlor_n (hp63 _ (hb p (by omega))) (by rw [← ez]; exact hp63 _ (hEl p hp2))]
              repeat (with_reducible refine And.intro ?_ ?_; · first | omega | (simp only [z32, z64]; omega))
              exact nxt _ (by rw [e1, ez])
            · have ez : zmEl n wb e x p = 0 := by unfold zmEl; rw [if_pos x1, if_neg (fun r2 => r ((hwb x p x2 (by omega)).mp r2.2))]
              try simp -implicitDefEqProofs only [zgn_0, zgn_s, zct_0, zct_s, Nat.reduceEqDiff, Nat.reduceBEq, Nat.reduceAdd, Nat.reduceSub, Nat.reduceMul, Int.reduceAdd, Int.reduceSub, Int.reduceMul, Int.reduceNeg, Int.reduceLT, Int.reduceLE, Int.reduceEq, Nat.zero_add, true_and, and_true, false_and, and_false, true_imp_iff, false_imp_iff, not_true_eq_false, not_false_eq_true, if_true, if_false, Bool.false_eq_true, ite_true, ite_false, reduceIte, eq_self, Int.toNat_natCast, zst_0, zst_1, zst_2, zst_3, zst_4, true_or, or_true, or_false, false_or, ze_290_0, zB_290_0, ze_290_24, zB_290_24, ze_290_30, zB_290_30, ze_290_53, zB_290_53, ze_290_88, zB_290_88, ze_290_118, zB_290_118, ze_290_124, zB_290_124, zbr_t, zbr_f, zrun_c, zmI_s, zmL_s, zmR_s, zgt_0, zgt_s, zln_0, zln_s, zs1_0, zs1_1i, zs1_1r, zs1_1n, zs1_1l, zs1_s, zs2_0, zs2_1i, zs2_1r, zs2_1n, zs2_1l, zs2_s, zcn_eq, zcn_ne, zcn_lt, zcn_ge, zcn_gt, zcn_le, zpu_0, zpu_1, zpu_2, zx_iconst, zx_lconst, zx_ldc, zx_ldc2, zx_null, zx_iload, zx_lload, zx_aload, zx_istore, zx_lstore, zx_astore, zx_iinc, zx_iadd, zx_isub, zx_imul, zx_idiv, zx_irem, zx_iand, zx_ior, zx_ixor, zx_ishl, zx_ishr, zx_iushr, zx_i2b, zx_i2l, zx_l2i, zx_ladd, zx_lmul, zx_ldiv, zx_lrem, zx_land, zx_lor, zx_lshl, zx_lshr, zx_lcmp, zx_dupi, zx_dupr, zx_dup2l, zx_dup2i, zx_pop, zx_ifc, zx_icmp, zx_ifnullN, zx_ifnullS, zx_ifnonN, zx_ifnonS, zx_goto, zx_gotow, zx_switch, zx_iaload, zx_baload, zx_laload, zx_aaload, zx_iastore, zx_bastore, zx_lastore, zx_aastore, zx_alen, zx_newarray, zx_anewarray, zx_new, zx_getI, zx_getL, zx_getR, zx_putI, zx_putZ, zx_putL, zx_putR, zx_callS, zx_callV, zx_objinit, zx_cpyi, zx_cpyl, zx_mmax, zx_mmin, zx_mminl, zx_ireturn, zx_areturn, zx_lreturn, zx_return, zcs_0, zcs_1, zcv_1, zcs_2, zcv_2, zcs_3, zcv_3, zcs_4, zcv_4, zcs_5, zcv_5, zcs_6, zcv_6, zcs_7, zcv_7, Int.reduceToNat, Nat.reduceDiv, Nat.reduceMod, zJ, zC, zK_wA, zN_wA, zR_wA, zS_wA, zA_wA, zK_wR, zN_wR, zR_wR, zS_wR, zA_wR, zK_cp, zN_cp, zR_cp, zS_cp, zA_cp, zK_mp, zN_mp, zR_mp, zS_mp, zA_mp, zfa, zfmm, zfa_1, zfb_1, zfa_2, zfb_2, zfa_3, zfb_3, zfa_4, zfb_4, zfa_5, zfb_5, zfa_6, zfb_6, zfa_7, zfb_7, zfa_8, zfb_8, zfa_9, zfb_9, zfa_10, zfb_10, zfa_12, zfb_12, zfa_20, zfb_20, zfa_21, zfb_21, zfa_30, zfb_30, zfa_48, zfb_48, zfa_60, zfb_60, zfa_61, zfb_61, zfa_65, zfb_65, zfa_97, zfb_97, zfa_100, zfb_100, zfa_120, zfb_120, zfa_124, zfb_124, zfa_500, zfb_500, zfa_792, zfb_792, zfa_2989, zfb_2989, zfm_2, zfn_2, zfm_3, zfn_3, zfm_4, zfn_4, zfm_6, zfn_6, zfm_7, zfn_7, zfm_8, zfn_8, zfm_12, zfn_12, zfm_49, zfn_49, zfm_60, zfn_60, zfm_61, zfn_61, zfm_792, zfn_792, zfm_2989, zfn_2989, Int.zero_add, Int.add_zero, Int.zero_mul, Int.mul_zero, Int.one_mul, Int.mul_one]
              repeat (with_reducible refine And.intro ?_ ?_; · first | omega | (simp only [z32, z64]; omega))
              exact nxt _ (by rw [e1, ez, Nat.or_zero])
        · rw [Nat.zero_add] at x3 x4
          have hk : k < x - 124 := by unfold zlfP at hP; omega
          have h160 := hE (x - 124) hk (by omega) p hp2
          have ez : zmEl n wb e x p = e (x - 124) p := by unfold zmEl; rw [if_neg (by omega)]
          rw [x3]
          repeat (with_reducible refine And.intro ?_ ?_; · first | omega | (simp only [z32, z64]; omega))
          refine zbr_i (fun q2 => by omega) (fun _ => ?_)
          rw [x4]
          (try simp only [zfa, zfmm, zfa_1, zfb_1, zfa_2, zfb_2, zfa_3, zfb_3, zfa_4, zfb_4, zfa_5, zfb_5, zfa_6, zfb_6, zfa_7, zfb_7, zfa_8, zfb_8, zfa_9, zfb_9, zfa_10, zfb_10, zfa_12, zfb_12, zfa_20, zfb_20, zfa_21, zfb_21, zfa_30, zfb_30, zfa_48, zfb_48, zfa_60, zfb_60, zfa_61, zfb_61, zfa_65, zfb_65, zfa_97, zfb_97, zfa_100, zfb_100, zfa_120, zfb_120, zfa_124, zfb_124, zfa_500, zfb_500, zfa_792, zfb_792, zfa_2989, zfb_2989, zfm_2, zfn_2, zfm_3, zfn_3, zfm_4, zfn_4, zfm_6, zfn_6, zfm_7, zfn_7, zfm_8, zfn_8, zfm_12, zfn_12, zfm_49, zfn_49, zfm_60, zfn_60, zfm_61, zfn_61, zfm_792, zfn_792, zfm_2989, zfn_2989, Int.zero_add, Int.add_zero, Int.zero_mul, Int.mul_zero, Int.one_mul, Int.mul_one, Int.toNat_natCast])
          repeat (with_reducible refine And.intro ?_ ?_; · first | omega | (simp only [z32, z64]; omega))
          rw [h160, zlor_n (hp63 _ (hb p (by omega))) (hp63 _ (hEb _ (by omega) p hp2))]
          repeat (with_reducible refine And.intro ?_ ?_; · first | omega | (simp only [z32, z64]; omega))
          exact nxt _ (by rw [e1, ez])
      · rw [Classical.not_not, zlcm_0] at q0
        have qb : ¬ s.testBit p = true := fun r => by
          have := ztb_m.mpr r
          omega
        rw [if_neg qb] at e1
        repeat (with_reducible refine And.intro ?_ ?_; · first | omega | (simp only [z32, z64]; omega))
        exact nxt _ e1.symm
