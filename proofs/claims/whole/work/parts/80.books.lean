/-! ===== books that fit, the reference ===== -/
theorem zbo {x a : Int} (hx : 0 ≤ x ∧ x ≤ 255) (ha : 0 ≤ a ∧ a ≤ 7) : (0 ≤ zor x (zshl 1 a) ∧ zor x (zshl 1 a) ≤ 255) ∧ ∀ q : Nat, q < 8 → (zbit (zor x (zshl 1 a)) q = 1 ↔ (zbit x q = 1 ∨ a = q)) := by
  obtain ⟨n, rfl⟩ : ∃ n : Nat, x = n := ⟨x.toNat, by omega⟩
  obtain ⟨k, rfl⟩ : ∃ k : Nat, a = k := ⟨a.toNat, by omega⟩
  obtain ⟨g1, -, g3⟩ := zb_or n (by omega) k (by omega)
  refine ⟨g1, fun q hq => ?_⟩
  unfold zbit
  rw [g3 q hq, Int.toNat_natCast]
  by_cases e : q = k
  · rw [if_pos e]; omega
  · rw [if_neg e]; omega
def zEx (W : Nat → Nat → Nat) (n : Nat) : Nat → Nat → Nat → Nat → Nat → Prop
  | 0, _, _, _, _ => False
  | r + 1, m, w, c, q => w < n ∧ ∃ e : Nat, e < 8 ∧ zbt1 m e = false ∧ ((c = 7 - r ∧ q = e ∧ 0 < zNn W n r (m ||| 2 ^ e) (w + W (7 - r) e)) ∨ (7 - r < c ∧ zEx W n r (m ||| 2 ^ e) (w + W (7 - r) e) c q))
theorem zEx_s (W : Nat → Nat → Nat) (n r m w c q : Nat) : zEx W n (r + 1) m w c q = (w < n ∧ ∃ e : Nat, e < 8 ∧ zbt1 m e = false ∧ ((c = 7 - r ∧ q = e ∧ 0 < zNn W n r (m ||| 2 ^ e) (w + W (7 - r) e)) ∨ (7 - r < c ∧ zEx W n r (m ||| 2 ^ e) (w + W (7 - r) e) c q))) := rfl
theorem zNn_b (W : Nat → Nat → Nat) (n : Nat) : ∀ r m w : Nat, 0 ≤ zNn W n r m w ∧ zNn W n r m w ≤ 8 ^ r
  | 0, m, w => by unfold zNn; split <;> simp
  | r + 1, m, w => by
    rw [zNn_s, Int.pow_succ]
    have hp : (0 : Int) ≤ 8 ^ r := Int.pow_nonneg (by decide)
    split
    · have := zsm_b (f := fun d => if zbt1 m d = true then 0 else zNn W n r (m ||| 2 ^ d) (w + W (7 - r) d)) (B := 8 ^ r) 8 (fun t ht => by
        split
        · omega
        · exact zNn_b W n r _ _)
      omega
    · omega
theorem zsm_pos {f : Nat → Int} : ∀ n : Nat, (∀ t : Nat, t < n → 0 ≤ f t) → (0 < zsm f n ↔ ∃ t : Nat, t < n ∧ 0 < f t)
  | 0, _ => ⟨fun h => by simp [zsm] at h, fun ⟨t, h, _⟩ => by omega⟩
  | n + 1, h => by
    have ih := zsm_pos n (fun t ht => h t (by omega))
    have h0 := zsm_nn n (fun t ht => h t (by omega))
    have h1 := h n (by omega)
    rw [zsm_s]
    constructor
    · intro hp
      by_cases q : 0 < zsm f n
      · obtain ⟨t, a, b⟩ := ih.mp q
        exact ⟨t, by omega, b⟩
      · exact ⟨n, by omega, by omega⟩
    · rintro ⟨t, a, b⟩
      rcases Nat.lt_or_ge t n with q | q
      · have := ih.mpr ⟨t, q, b⟩; omega
      · rw [show t = n by omega] at b; omega
theorem zNn_p (W : Nat → Nat → Nat) {n r m w : Nat} (hw : w < n) : 0 < zNn W n (r + 1) m w ↔ ∃ e : Nat, e < 8 ∧ zbt1 m e = false ∧ 0 < zNn W n r (m ||| 2 ^ e) (w + W (7 - r) e) := by
  rw [zNn_s, if_pos hw, zsm_pos 8 (fun t ht => by split; exact Int.le_refl 0; exact (zNn_b W n r _ _).1)]
  refine exists_congr (fun e => and_congr_right (fun he => ?_))
  cases h : zbt1 m e with
  | true => simp
  | false => simp
theorem zsh_b : ∀ m : Nat, m < 256 → ∀ k : Nat, k < 8 → zand (zshr m k) 1 = if zbt1 m k = true then 1 else 0 := by decide +kernel
set_option maxRecDepth 100000 in
theorem zl_bkS {xs : Nat → Int} {L d b1 b2 : Nat} {H0 : zH} {Q : zQ} {x1 x2 x3 x4 : Int} {l6 : Option zV} (hL0 : zLay H0) (ho : ∀ c : Nat, c < 8 → 0 ≤ zA H0 130 c ∧ zA H0 130 c ≤ 7) (h : ∀ H : zH, zmd (zin [131] []) H0 H → (∀ c : Nat, c < 8 → zA H 131 c = zor (zA H0 131 c) (zshl 1 (zA H0 130 c))) → Q 0 H) : ∀ (kk : Nat) (c : Nat) (v : Int) (H : zH), 8 - c = kk → (c ≤ 8) → (v = (c : Int)) → (zmd (zin [131] []) H0 H) → (∀ j : Nat, j < 8 → zA H 131 j = if j < c then zor (zA H0 131 j) (zshl 1 (zA H0 130 j)) else zA H0 131 j) → zEt xs L d b1 b2 false 243 31 [some (zr (some 106)), some (zi x1), some (zi x2), some (zi x3), some (zi x4), some (zi v), l6] [] H Q := by
  intro kk
  induction kk using Nat.strongRecOn with
  | ind kk ih =>
    intro c v H hkk hc hv hm hA
    refine zgo_at [31] 8 ?_
    try simp -implicitDefEqProofs only [zgn_0, zgn_s, zct_0, zct_s, Nat.reduceEqDiff, Nat.reduceBEq, Nat.reduceAdd, Nat.reduceSub, Nat.reduceMul, Int.reduceAdd, Int.reduceSub, Int.reduceMul, Int.reduceNeg, Int.reduceLT, Int.reduceLE, Int.reduceEq, Nat.zero_add, true_and, and_true, false_and, and_false, true_imp_iff, false_imp_iff, not_true_eq_false, not_false_eq_true, if_true, if_false, Bool.false_eq_true, ite_true, ite_false, reduceIte, eq_self, Int.toNat_natCast, zst_0, zst_1, zst_2, zst_3, zst_4, true_or, or_true, or_false, false_or, ze_243_0, zB_243_0, ze_243_12, zB_243_12, ze_243_31, zB_243_31, ze_243_63, zB_243_63, ze_243_64, zB_243_64, ze_243_70, zB_243_70, ze_243_100, zB_243_100, ze_243_103, zB_243_103, ze_243_123, zB_243_123, ze_243_163, zB_243_163, ze_243_169, zB_243_169, zbr_t, zbr_f, zrun_c, zmI_s, zmL_s, zmR_s, zgt_0, zgt_s, zln_0, zln_s, zs1_0, zs1_1i, zs1_1r, zs1_1n, zs1_1l, zs1_s, zs2_0, zs2_1i, zs2_1r, zs2_1n, zs2_1l, zs2_s, zcn_eq, zcn_ne, zcn_lt, zcn_ge, zcn_gt, zcn_le, zpu_0, zpu_1, zpu_2, zx_iconst, zx_lconst, zx_ldc, zx_ldc2, zx_null, zx_iload, zx_lload, zx_aload, zx_istore, zx_lstore, zx_astore, zx_iinc, zx_iadd, zx_isub, zx_imul, zx_idiv, zx_irem, zx_iand, zx_ior, zx_ixor, zx_ishl, zx_ishr, zx_iushr, zx_i2b, zx_i2l, zx_l2i, zx_ladd, zx_lmul, zx_ldiv, zx_lrem, zx_land, zx_lor, zx_lshl, zx_lshr, zx_lcmp, zx_dupi, zx_dupr, zx_dup2l, zx_dup2i, zx_pop, zx_ifc, zx_icmp, zx_ifnullN, zx_ifnullS, zx_ifnonN, zx_ifnonS, zx_goto, zx_gotow, zx_switch, zx_iaload, zx_baload, zx_laload, zx_aaload, zx_iastore, zx_bastore, zx_lastore, zx_aastore, zx_alen, zx_newarray, zx_anewarray, zx_new, zx_getI, zx_getL, zx_getR, zx_putI, zx_putZ, zx_putL, zx_putR, zx_callS, zx_callV, zx_objinit, zx_cpyi, zx_cpyl, zx_mmax, zx_mmin, zx_mminl, zx_ireturn, zx_areturn, zx_lreturn, zx_return, zcs_0, zcs_1, zcv_1, zcs_2, zcv_2, zcs_3, zcv_3, zcs_4, zcv_4, zcs_5, zcv_5, zcs_6, zcv_6, zcs_7, zcv_7, Int.reduceToNat, Nat.reduceDiv, Nat.reduceMod, zJ, zC, zK_wA, zN_wA, zR_wA, zS_wA, zA_wA, zK_wR, zN_wR, zR_wR, zS_wR, zA_wR, zK_cp, zN_cp, zR_cp, zS_cp, zA_cp, zK_mp, zN_mp, zR_mp, zS_mp, zA_mp, zfa, zfmm, zfa_1, zfb_1, zfa_2, zfb_2, zfa_3, zfb_3, zfa_4, zfb_4, zfa_5, zfb_5, zfa_6, zfb_6, zfa_7, zfb_7, zfa_8, zfb_8, zfa_9, zfb_9, zfa_10, zfb_10, zfa_12, zfb_12, zfa_20, zfb_20, zfa_21, zfb_21, zfa_30, zfb_30, zfa_48, zfb_48, zfa_60, zfb_60, zfa_61, zfb_61, zfa_65, zfb_65, zfa_97, zfb_97, zfa_100, zfb_100, zfa_120, zfb_120, zfa_124, zfb_124, zfa_500, zfb_500, zfa_792, zfb_792, zfa_2989, zfb_2989, zfm_2, zfn_2, zfm_3, zfn_3, zfm_4, zfn_4, zfm_6, zfn_6, zfm_7, zfn_7, zfm_8, zfn_8, zfm_12, zfn_12, zfm_49, zfn_49, zfm_60, zfn_60, zfm_61, zfn_61, zfm_792, zfn_792, zfm_2989, zfn_2989, Int.zero_add, Int.add_zero, Int.zero_mul, Int.mul_zero, Int.one_mul, Int.mul_one, lk_106 (zmd_lay hm hL0), lr_106_31 (zmd_lay hm hL0), lk_130 (zmd_lay hm hL0), ln_130 (zmd_lay hm hL0), lr_106_32 (zmd_lay hm hL0), lk_131 (zmd_lay hm hL0), ln_131 (zmd_lay hm hL0), hm.2.2.2 130 _ rfl]
    refine zbr_i (fun q => ?_) (fun q => ?_)
    · have e9 : c = 8 := by omega
      subst e9
      exact h H hm (fun j hj => by rw [hA j hj, if_pos hj])
    · repeat (with_reducible refine And.intro ?_ ?_; · first | omega | (simp only [z32, z64]; omega))
      have ev : v.toNat = c := by omega
      rw [ev]
      have ac := hA c (by omega)
      rw [if_neg (by omega)] at ac
      rw [ac]
      refine ih _ (by omega) (c + 1) (v + 1) _ rfl (by omega) (by omega) (zmd_w hm rfl) (fun j hj => ?_)
      rw [zA_wA]
      by_cases ej : j = c
      · rw [if_pos ⟨rfl, ej⟩, if_pos (by omega), ej]
      · rw [if_neg (fun q => ej q.2), hA j hj]
        by_cases e2 : j < c
        · rw [if_pos e2, if_pos (by omega)]
        · rw [if_neg e2, if_neg (by omega)]
set_option maxRecDepth 100000 in
theorem zl_bkT {xs : Nat → Int} {L d b1 b2 : Nat} {H : zH} {Q : zQ} {k : Nat} {x2 x3 x4 : Int} (hL : zLay H) (hk : k < 8) (hT : ∀ j : Nat, j < 64 → 0 ≤ zA H 129 j ∧ zA H 129 j ≤ 300) (hx : zEt xs L d b1 b2 false 243 100 [some (zr (some 106)), some (zi k), some (zi x2), some (zi x3), some (zi x4), some (zi (zsm (fun e => zA H 129 (8 * k + e)) 8)), some (zi 8)] [] H Q) : ∀ (kk : Nat) (i : Nat), 8 - i = kk → (i ≤ 8) → zEt xs L d b1 b2 false 243 70 [some (zr (some 106)), some (zi k), some (zi x2), some (zi x3), some (zi x4), some (zi (zsm (fun e => zA H 129 (8 * k + e)) i)), some (zi i)] [] H Q := by
  intro kk
  induction kk using Nat.strongRecOn with
  | ind kk ih =>
    intro i hkk hi
    refine zgo_at [70, 100] 8 ?_
    try simp -implicitDefEqProofs only [zgn_0, zgn_s, zct_0, zct_s, Nat.reduceEqDiff, Nat.reduceBEq, Nat.reduceAdd, Nat.reduceSub, Nat.reduceMul, Int.reduceAdd, Int.reduceSub, Int.reduceMul, Int.reduceNeg, Int.reduceLT, Int.reduceLE, Int.reduceEq, Nat.zero_add, true_and, and_true, false_and, and_false, true_imp_iff, false_imp_iff, not_true_eq_false, not_false_eq_true, if_true, if_false, Bool.false_eq_true, ite_true, ite_false, reduceIte, eq_self, Int.toNat_natCast, zst_0, zst_1, zst_2, zst_3, zst_4, true_or, or_true, or_false, false_or, ze_243_0, zB_243_0, ze_243_12, zB_243_12, ze_243_31, zB_243_31, ze_243_63, zB_243_63, ze_243_64, zB_243_64, ze_243_70, zB_243_70, ze_243_100, zB_243_100, ze_243_103, zB_243_103, ze_243_123, zB_243_123, ze_243_163, zB_243_163, ze_243_169, zB_243_169, zbr_t, zbr_f, zrun_c, zmI_s, zmL_s, zmR_s, zgt_0, zgt_s, zln_0, zln_s, zs1_0, zs1_1i, zs1_1r, zs1_1n, zs1_1l, zs1_s, zs2_0, zs2_1i, zs2_1r, zs2_1n, zs2_1l, zs2_s, zcn_eq, zcn_ne, zcn_lt, zcn_ge, zcn_gt, zcn_le, zpu_0, zpu_1, zpu_2, zx_iconst, zx_lconst, zx_ldc, zx_ldc2, zx_null, zx_iload, zx_lload, zx_aload, zx_istore, zx_lstore, zx_astore, zx_iinc, zx_iadd, zx_isub, zx_imul, zx_idiv, zx_irem, zx_iand, zx_ior, zx_ixor, zx_ishl, zx_ishr, zx_iushr, zx_i2b, zx_i2l, zx_l2i, zx_ladd, zx_lmul, zx_ldiv, zx_lrem, zx_land, zx_lor, zx_lshl, zx_lshr, zx_lcmp, zx_dupi, zx_dupr, zx_dup2l, zx_dup2i, zx_pop, zx_ifc, zx_icmp, zx_ifnullN, zx_ifnullS, zx_ifnonN, zx_ifnonS, zx_goto, zx_gotow, zx_switch, zx_iaload, zx_baload, zx_laload, zx_aaload, zx_iastore, zx_bastore, zx_lastore, zx_aastore, zx_alen, zx_newarray, zx_anewarray, zx_new, zx_getI, zx_getL, zx_getR, zx_putI, zx_putZ, zx_putL, zx_putR, zx_callS, zx_callV, zx_objinit, zx_cpyi, zx_cpyl, zx_mmax, zx_mmin, zx_mminl, zx_ireturn, zx_areturn, zx_lreturn, zx_return, zcs_0, zcs_1, zcv_1, zcs_2, zcv_2, zcs_3, zcv_3, zcs_4, zcv_4, zcs_5, zcv_5, zcs_6, zcv_6, zcs_7, zcv_7, Int.reduceToNat, Nat.reduceDiv, Nat.reduceMod, zJ, zC, zK_wA, zN_wA, zR_wA, zS_wA, zA_wA, zK_wR, zN_wR, zR_wR, zS_wR, zA_wR, zK_cp, zN_cp, zR_cp, zS_cp, zA_cp, zK_mp, zN_mp, zR_mp, zS_mp, zA_mp, zfa, zfmm, zfa_1, zfb_1, zfa_2, zfb_2, zfa_3, zfb_3, zfa_4, zfb_4, zfa_5, zfb_5, zfa_6, zfb_6, zfa_7, zfb_7, zfa_8, zfb_8, zfa_9, zfb_9, zfa_10, zfb_10, zfa_12, zfb_12, zfa_20, zfb_20, zfa_21, zfb_21, zfa_30, zfb_30, zfa_48, zfb_48, zfa_60, zfb_60, zfa_61, zfb_61, zfa_65, zfb_65, zfa_97, zfb_97, zfa_100, zfb_100, zfa_120, zfb_120, zfa_124, zfb_124, zfa_500, zfb_500, zfa_792, zfb_792, zfa_2989, zfb_2989, zfm_2, zfn_2, zfm_3, zfn_3, zfm_4, zfn_4, zfm_6, zfn_6, zfm_7, zfn_7, zfm_8, zfn_8, zfm_12, zfn_12, zfm_49, zfn_49, zfm_60, zfn_60, zfm_61, zfn_61, zfm_792, zfn_792, zfm_2989, zfn_2989, Int.zero_add, Int.add_zero, Int.zero_mul, Int.mul_zero, Int.one_mul, Int.mul_one, lk_106 hL, lr_106_29 hL, lk_129 hL, ln_129 hL]
    refine zbr_i (fun q => ?_) (fun q => ?_)
    · have e9 : i = 8 := by omega
      subst e9
      exact hx
    · have hs := zsm_b (f := fun e => zA H 129 (8 * k + e)) (B := 300) i (fun t ht => hT _ (by omega))
      have ht := hT (8 * k + i) (by omega)
      repeat (with_reducible refine And.intro ?_ ?_; · first | omega | (simp only [z32, z64]; omega))
      have ih2 := ih _ (by omega) (i + 1) rfl (by omega)
      rw [zsm_s] at ih2
      exact ih2
