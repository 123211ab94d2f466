/-! ===== coughs of names ===== -/
/-- the fewest coughs, by how many cues of the name and of what is heard -/
def zDp (inf : Int) (nm hd : Nat → Int) : Nat → Nat → Int
  | 0, j => if j = 0 then 0 else inf
  | k + 1, j => if j = 0 then zDp inf nm hd k 0 + 1 else if zDp inf nm hd k (j - 1) + (if hd (j - 1) = nm k then 0 else 1) < zDp inf nm hd k j + 1 then zDp inf nm hd k (j - 1) + (if hd (j - 1) = nm k then 0 else 1) else zDp inf nm hd k j + 1
theorem zDp_s (inf : Int) (nm hd : Nat → Int) (k j : Nat) : zDp inf nm hd (k + 1) j = if j = 0 then zDp inf nm hd k 0 + 1 else if zDp inf nm hd k (j - 1) + (if hd (j - 1) = nm k then 0 else 1) < zDp inf nm hd k j + 1 then zDp inf nm hd k (j - 1) + (if hd (j - 1) = nm k then 0 else 1) else zDp inf nm hd k j + 1 := rfl
theorem zDp_0 (inf : Int) (nm hd : Nat → Int) : ∀ k : Nat, zDp inf nm hd k 0 = k
  | 0 => rfl
  | k + 1 => by rw [zDp_s, if_pos rfl, zDp_0 inf nm hd k]; omega
theorem zDp_b {inf : Int} {nm hd : Nat → Int} (hinf : 0 ≤ inf) : ∀ k j : Nat, 0 ≤ zDp inf nm hd k j ∧ zDp inf nm hd k j ≤ inf + k
  | 0, j => by unfold zDp; split <;> omega
  | k + 1, j => by
    have h1 := zDp_b (nm := nm) (hd := hd) hinf k j
    have h2 := zDp_b (nm := nm) (hd := hd) hinf k (j - 1)
    have h0 := zDp_b (nm := nm) (hd := hd) hinf k 0
    rw [zDp_s]
    split
    · omega
    · split
      · split <;> omega
      · omega
theorem zDp_i {inf inf' : Int} {nm hd : Nat → Int} {K : Nat} (h1 : (K : Int) < inf) (h2 : (K : Int) < inf') : ∀ k : Nat, k ≤ K → (∀ j : Nat, j ≤ k → zDp inf nm hd k j = zDp inf' nm hd k j ∧ 0 ≤ zDp inf nm hd k j ∧ zDp inf nm hd k j ≤ k) ∧ ∀ j : Nat, k < j → inf ≤ zDp inf nm hd k j ∧ inf' ≤ zDp inf' nm hd k j
  | 0, _ => ⟨fun j hj => by rw [show j = 0 by omega]; exact ⟨rfl, by simp [zDp]⟩, fun j hj => by unfold zDp; rw [if_neg (by omega), if_neg (by omega)]; omega⟩
  | k + 1, hk => by
    obtain ⟨a, b⟩ := zDp_i (nm := nm) (hd := hd) h1 h2 k (by omega)
    refine ⟨fun j hj => ?_, fun j hj => ?_⟩
    · rw [zDp_s, zDp_s]
      by_cases e : j = 0
      · rw [if_pos e, if_pos e]
        have := a 0 (by omega)
        omega
      · rw [if_neg e, if_neg e]
        have p := a (j - 1) (by omega)
        have hx : (if hd (j - 1) = nm k then (0 : Int) else 1) = 0 ∨ (if hd (j - 1) = nm k then (0 : Int) else 1) = 1 := by split <;> simp
        generalize (if hd (j - 1) = nm k then (0 : Int) else 1) = x at hx
        by_cases e2 : j ≤ k
        · have q := a j e2
          rw [← p.1, ← q.1]
          refine ⟨rfl, ?_⟩
          split <;> omega
        · have q := b j (by omega)
          rw [← p.1, if_pos (by omega), if_pos (by omega)]
          omega
    · rw [zDp_s, zDp_s, if_neg (show ¬ j = 0 by omega), if_neg (show ¬ j = 0 by omega)]
      have p := b (j - 1) (by omega)
      have q := b j (by omega)
      have hx : (if hd (j - 1) = nm k then (0 : Int) else 1) = 0 ∨ (if hd (j - 1) = nm k then (0 : Int) else 1) = 1 := by split <;> simp
      generalize (if hd (j - 1) = nm k then (0 : Int) else 1) = x at hx
      constructor <;> split <;> omega
theorem zDp_c {inf : Int} {nm nm' hd hd' : Nat → Int} {K n : Nat} (h1 : ∀ k : Nat, k < K → nm k = nm' k) (h2 : ∀ j : Nat, j < n → hd j = hd' j) : ∀ k j : Nat, k ≤ K → j ≤ n → zDp inf nm hd k j = zDp inf nm' hd' k j
  | 0, _, _, _ => rfl
  | k + 1, j, hk, hj => by
    rw [zDp_s, zDp_s, zDp_c h1 h2 k j (by omega) hj, zDp_c h1 h2 k 0 (by omega) (by omega), zDp_c h1 h2 k (j - 1) (by omega) (by omega), h1 k (by omega)]
    by_cases e : j = 0
    · rw [if_pos e, if_pos e]
    · rw [if_neg e, if_neg e, h2 (j - 1) (by omega)]
/-- coughs of a listed name; -1: none -/
def zcgv (g ls sz hd : Nat → Int) (n : Int) (i : Nat) : Int := if 2 * sz i < n then -1 else zDp (2 * sz i + 1) (zsp g (fun j => ls (12 * i + j))) hd (2 * (sz i).toNat) n.toNat
theorem zcgv_b {g ls sz hd : Nat → Int} {n : Int} {i : Nat} (hs : 1 ≤ sz i ∧ sz i ≤ 12) (hn : 0 ≤ n) : -1 ≤ zcgv g ls sz hd n i ∧ zcgv g ls sz hd n i ≤ 24 := by
  unfold zcgv
  split
  · omega
  · have := ((zDp_i (inf := 2 * sz i + 1) (inf' := 2 * sz i + 1) (nm := zsp g (fun j => ls (12 * i + j))) (hd := hd) (K := 2 * (sz i).toNat) (by omega) (by omega) (2 * (sz i).toNat) (by omega)).1 n.toNat (by omega)).2
    omega
theorem zcgv_c {g g' ls ls' sz sz' hd hd' : Nat → Int} {n : Int} {i : Nat} (h0 : sz i = sz' i) (hs : 1 ≤ sz i ∧ sz i ≤ 12) (h1 : ∀ j : Nat, j < 8 → g j = g' j) (h2 : ∀ j : Nat, (j : Int) < sz i → ls (12 * i + j) = ls' (12 * i + j)) (h3 : ∀ j : Nat, (j : Int) < n → hd j = hd' j) : zcgv g ls sz hd n i = zcgv g' ls' sz' hd' n i := by
  unfold zcgv
  rw [← h0]
  split
  · rfl
  · exact zDp_c (K := 2 * (sz i).toNat) (n := n.toNat) (fun k hk => zsp_c h1 (h2 (k / 2) (by omega))) (fun j hj => h3 j (by omega)) _ _ (by omega) (by omega)
set_option maxRecDepth 100000 in
theorem zl_cgN {xs : Nat → Int} {L d b1 b2 : Nat} {H : zH} {Q : zQ} {i z m n : Nat} (hd : 2 ≤ d) (hL : zLay H) (hi2 : i < 20) (hsz : zA H 18 i = z) (hz : z ≤ 12) (hb : ∀ j : Nat, j < z → 97 ≤ zA H 17 (12 * i + j) ∧ zA H 17 (12 * i + j) ≤ 122) (hx : zEt xs L d b1 b2 false 107 88 [some (zr (some 11)), some (zi i), some (zr (some 6)), some (zi m), some (zi n), some (zi z), none, none, none, none] [] (zMW H 19 0 (2 * z) (zsp (zA H 12) (fun j => zA H 17 (12 * i + j)))) Q) : ∀ (kk : Nat) (k : Nat), z - k = kk → (k ≤ z) → zEt xs L d b1 b2 false 107 47 [some (zr (some 11)), some (zi i), some (zr (some 6)), some (zi m), some (zi n), some (zi k), none, none, none, none] [] (zMW H 19 0 (2 * k) (zsp (zA H 12) (fun j => zA H 17 (12 * i + j)))) Q := by
  intro kk
  induction kk using Nat.strongRecOn with
  | ind kk ih =>
    intro k hkk hk
    refine zgo_at [47, 88] 8 ?_
    try simp only [zgn_0, zgn_s, zct_0, zct_s, Nat.reduceEqDiff, Nat.reduceBEq, Nat.reduceAdd, Nat.reduceSub, Nat.reduceMul, Int.reduceAdd, Int.reduceSub, Int.reduceMul, Int.reduceNeg, Int.reduceLT, Int.reduceLE, Int.reduceEq, Nat.zero_add, true_and, and_true, false_and, and_false, true_imp_iff, false_imp_iff, not_true_eq_false, not_false_eq_true, if_true, if_false, Bool.false_eq_true, ite_true, ite_false, reduceIte, eq_self, Int.toNat_natCast, zst_0, zst_1, zst_2, zst_3, zst_4, true_or, or_true, or_false, false_or, ze_107_0, zB_107_0, ze_107_19, zB_107_19, ze_107_21, zB_107_21, ze_107_44, zB_107_44, ze_107_47, zB_107_47, ze_107_88, zB_107_88, ze_107_114, zB_107_114, ze_107_124, zB_107_124, ze_107_181, zB_107_181, ze_107_182, zB_107_182, ze_107_185, zB_107_185, ze_107_205, zB_107_205, ze_107_211, zB_107_211, zbr_t, zbr_f, zrun_c, zmI_s, zmL_s, zmR_s, zgt_0, zgt_s, zln_0, zln_s, zs1_0, zs1_1i, zs1_1r, zs1_1n, zs1_1l, zs1_s, zs2_0, zs2_1i, zs2_1r, zs2_1n, zs2_1l, zs2_s, zcn_eq, zcn_ne, zcn_lt, zcn_ge, zcn_gt, zcn_le, zpu_0, zpu_1, zpu_2, zx_iconst, zx_lconst, zx_ldc, zx_ldc2, zx_null, zx_iload, zx_lload, zx_aload, zx_istore, zx_lstore, zx_astore, zx_iinc, zx_iadd, zx_isub, zx_imul, zx_idiv, zx_irem, zx_iand, zx_ior, zx_ixor, zx_ishl, zx_ishr, zx_iushr, zx_i2b, zx_i2l, zx_l2i, zx_ladd, zx_lmul, zx_ldiv, zx_lrem, zx_land, zx_lor, zx_lshl, zx_lshr, zx_lcmp, zx_dupi, zx_dupr, zx_dup2l, zx_dup2i, zx_pop, zx_ifc, zx_icmp, zx_ifnullN, zx_ifnullS, zx_ifnonN, zx_ifnonS, zx_goto, zx_gotow, zx_switch, zx_iaload, zx_baload, zx_laload, zx_aaload, zx_iastore, zx_bastore, zx_lastore, zx_aastore, zx_alen, zx_newarray, zx_anewarray, zx_new, zx_getI, zx_getL, zx_getR, zx_putI, zx_putZ, zx_putL, zx_putR, zx_callS, zx_callV, zx_objinit, zx_cpyi, zx_cpyl, zx_mmax, zx_mmin, zx_mminl, zx_ireturn, zx_areturn, zx_lreturn, zx_return, zcs_0, zcs_1, zcv_1, zcs_2, zcv_2, zcs_3, zcv_3, zcs_4, zcv_4, zcs_5, zcv_5, zcs_6, zcv_6, zcs_7, zcv_7, Int.reduceToNat, Nat.reduceDiv, Nat.reduceMod, zJ, zC, zK_wA, zN_wA, zR_wA, zS_wA, zA_wA, zK_wR, zN_wR, zR_wR, zS_wR, zA_wR, zK_cp, zN_cp, zR_cp, zS_cp, zA_cp, zK_mp, zN_mp, zR_mp, zS_mp, zA_mp, zfa, zfmm, zfa_1, zfb_1, zfa_2, zfb_2, zfa_3, zfb_3, zfa_4, zfb_4, zfa_5, zfb_5, zfa_6, zfb_6, zfa_7, zfb_7, zfa_8, zfb_8, zfa_9, zfb_9, zfa_10, zfb_10, zfa_12, zfb_12, zfa_20, zfb_20, zfa_21, zfb_21, zfa_30, zfb_30, zfa_48, zfb_48, zfa_60, zfb_60, zfa_61, zfb_61, zfa_65, zfb_65, zfa_97, zfb_97, zfa_100, zfb_100, zfa_120, zfb_120, zfa_124, zfb_124, zfa_500, zfb_500, zfa_792, zfb_792, zfa_2989, zfb_2989, zfm_2, zfn_2, zfm_3, zfn_3, zfm_4, zfn_4, zfm_6, zfn_6, zfm_7, zfn_7, zfm_8, zfn_8, zfm_12, zfn_12, zfm_49, zfn_49, zfm_60, zfn_60, zfm_61, zfn_61, zfm_792, zfn_792, zfm_2989, zfn_2989, Int.zero_add, Int.add_zero, Int.zero_mul, Int.mul_zero, Int.one_mul, Int.mul_one, lk_11 hL, lr_11_0 hL, lk_12 hL, ln_12 hL, lr_11_7 hL, lk_17 hL, ln_17 hL, lr_11_8 hL, lk_18 hL, ln_18 hL, lr_11_10 hL, lk_19 hL, ln_19 hL, hsz]
    repeat (with_reducible refine And.intro ?_ ?_; · first | omega | (simp only [z32, z64]; omega))
    refine zbr_i (fun q => ?_) (fun q => ?_)
    · have e9 : k = z := by omega
      subst e9
      exact hx
    · rw [show i * 12 + k = 12 * i + k by omega]
      repeat (with_reducible refine And.intro ?_ ?_; · first | omega | (simp only [z32, z64]; omega))
      refine zc_spellInto (by omega) (zLay_mp hL _ _ _ _) (by rw [zK_mp]; exact lk_19 hL) (by omega) (by rw [zN_mp, ln_19 hL]; omega) (by omega) (hb k (by omega)) ?_
      try simp only [zgn_0, zgn_s, zct_0, zct_s, Nat.reduceEqDiff, Nat.reduceBEq, Nat.reduceAdd, Nat.reduceSub, Nat.reduceMul, Int.reduceAdd, Int.reduceSub, Int.reduceMul, Int.reduceNeg, Int.reduceLT, Int.reduceLE, Int.reduceEq, Nat.zero_add, true_and, and_true, false_and, and_false, true_imp_iff, false_imp_iff, not_true_eq_false, not_false_eq_true, if_true, if_false, Bool.false_eq_true, ite_true, ite_false, reduceIte, eq_self, Int.toNat_natCast, zst_0, zst_1, zst_2, zst_3, zst_4, true_or, or_true, or_false, false_or, ze_107_0, zB_107_0, ze_107_19, zB_107_19, ze_107_21, zB_107_21, ze_107_44, zB_107_44, ze_107_47, zB_107_47, ze_107_88, zB_107_88, ze_107_114, zB_107_114, ze_107_124, zB_107_124, ze_107_181, zB_107_181, ze_107_182, zB_107_182, ze_107_185, zB_107_185, ze_107_205, zB_107_205, ze_107_211, zB_107_211, zbr_t, zbr_f, zrun_c, zmI_s, zmL_s, zmR_s, zgt_0, zgt_s, zln_0, zln_s, zs1_0, zs1_1i, zs1_1r, zs1_1n, zs1_1l, zs1_s, zs2_0, zs2_1i, zs2_1r, zs2_1n, zs2_1l, zs2_s, zcn_eq, zcn_ne, zcn_lt, zcn_ge, zcn_gt, zcn_le, zpu_0, zpu_1, zpu_2, zx_iconst, zx_lconst, zx_ldc, zx_ldc2, zx_null, zx_iload, zx_lload, zx_aload, zx_istore, zx_lstore, zx_astore, zx_iinc, zx_iadd, zx_isub, zx_imul, zx_idiv, zx_irem, zx_iand, zx_ior, zx_ixor, zx_ishl, zx_ishr, zx_iushr, zx_i2b, zx_i2l, zx_l2i, zx_ladd, zx_lmul, zx_ldiv, zx_lrem, zx_land, zx_lor, zx_lshl, zx_lshr, zx_lcmp, zx_dupi, zx_dupr, zx_dup2l, zx_dup2i, zx_pop, zx_ifc, zx_icmp, zx_ifnullN, zx_ifnullS, zx_ifnonN, zx_ifnonS, zx_goto, zx_gotow, zx_switch, zx_iaload, zx_baload, zx_laload, zx_aaload, zx_iastore, zx_bastore, zx_lastore, zx_aastore, zx_alen, zx_newarray, zx_anewarray, zx_new, zx_getI, zx_getL, zx_getR, zx_putI, zx_putZ, zx_putL, zx_putR, zx_callS, zx_callV, zx_objinit, zx_cpyi, zx_cpyl, zx_mmax, zx_mmin, zx_mminl, zx_ireturn, zx_areturn, zx_lreturn, zx_return, zcs_0, zcs_1, zcv_1, zcs_2, zcv_2, zcs_3, zcv_3, zcs_4, zcv_4, zcs_5, zcv_5, zcs_6, zcv_6, zcs_7, zcv_7, Int.reduceToNat, Nat.reduceDiv, Nat.reduceMod, zJ, zC, zK_wA, zN_wA, zR_wA, zS_wA, zA_wA, zK_wR, zN_wR, zR_wR, zS_wR, zA_wR, zK_cp, zN_cp, zR_cp, zS_cp, zA_cp, zK_mp, zN_mp, zR_mp, zS_mp, zA_mp, zfa, zfmm, zfa_1, zfb_1, zfa_2, zfb_2, zfa_3, zfb_3, zfa_4, zfb_4, zfa_5, zfb_5, zfa_6, zfb_6, zfa_7, zfb_7, zfa_8, zfb_8, zfa_9, zfb_9, zfa_10, zfb_10, zfa_12, zfb_12, zfa_20, zfb_20, zfa_21, zfb_21, zfa_30, zfb_30, zfa_48, zfb_48, zfa_60, zfb_60, zfa_61, zfb_61, zfa_65, zfb_65, zfa_97, zfb_97, zfa_100, zfb_100, zfa_120, zfb_120, zfa_124, zfb_124, zfa_500, zfb_500, zfa_792, zfb_792, zfa_2989, zfb_2989, zfm_2, zfn_2, zfm_3, zfn_3, zfm_4, zfn_4, zfm_6, zfn_6, zfm_7, zfn_7, zfm_8, zfn_8, zfm_12, zfn_12, zfm_49, zfn_49, zfm_60, zfn_60, zfm_61, zfn_61, zfm_792, zfn_792, zfm_2989, zfn_2989, Int.zero_add, Int.add_zero, Int.zero_mul, Int.mul_zero, Int.one_mul, Int.mul_one, lk_11 hL, lr_11_0 hL, lk_12 hL, ln_12 hL, lr_11_7 hL, lk_17 hL, ln_17 hL, lr_11_8 hL, lk_18 hL, ln_18 hL, lr_11_10 hL, lk_19 hL, ln_19 hL, hsz]
      repeat (with_reducible refine And.intro ?_ ?_; · first | omega | (simp only [z32, z64]; omega))
      have ih2 := ih _ (by omega) (k + 1) rfl (by omega)
      rw [show 2 * (k + 1) = 2 * k + 1 + 1 by omega, ← zMW_s, ← zMW_s, Nat.zero_add, Nat.zero_add, zsp_0, zsp_1] at ih2
      rw [zAn_mp (by omega)]
      exact ih2
set_option maxRecDepth 100000 in
theorem zl_cgI {xs : Nat → Int} {L d b1 b2 : Nat} {H0 : zH} {Q : zQ} {i m n k : Nat} {inf : Int} {nm : Nat → Int} (hL0 : zLay H0) (hm24 : m ≤ 24) (hnm2 : n ≤ m) (hkm : k < m) (hinf : 0 ≤ inf ∧ inf ≤ 1000 ∧ (m : Int) < inf) (hnm : zA H0 19 k = nm k) (hx : ∀ H : zH, zmd (zin [20] []) H0 H → (∀ j : Nat, j ≤ n → zA H 20 j = (zDp inf nm (zA H0 10)) (k + 1) j) → ∀ l7 l8 l9 : Option zV, zEt xs L d b1 b2 false 107 205 [some (zr (some 11)), some (zi i), some (zr (some 6)), some (zi m), some (zi n), some (zi inf), some (zi k), l7, l8, l9] [] H Q) : ∀ (kk : Nat) (jj : Nat) (v : Int) (H : zH) (l8 : Option zV) (l9 : Option zV), jj = kk → (v = (jj : Int) - 1) → (jj ≤ n + 1) → (zmd (zin [20] []) H0 H) → (∀ j : Nat, j ≤ n → zA H 20 j = if j < jj then (zDp inf nm (zA H0 10)) k j else (zDp inf nm (zA H0 10)) (k + 1) j) → zEt xs L d b1 b2 false 107 124 [some (zr (some 11)), some (zi i), some (zr (some 6)), some (zi m), some (zi n), some (zi inf), some (zi k), some (zi v), l8, l9] [] H Q := by
  intro kk
  induction kk using Nat.strongRecOn with
  | ind kk ih =>
    intro jj v H l8 l9 hkk hv hj hm hA
    refine zgo_at [124, 205] 8 ?_
    try simp only [zgn_0, zgn_s, zct_0, zct_s, Nat.reduceEqDiff, Nat.reduceBEq, Nat.reduceAdd, Nat.reduceSub, Nat.reduceMul, Int.reduceAdd, Int.reduceSub, Int.reduceMul, Int.reduceNeg, Int.reduceLT, Int.reduceLE, Int.reduceEq, Nat.zero_add, true_and, and_true, false_and, and_false, true_imp_iff, false_imp_iff, not_true_eq_false, not_false_eq_true, if_true, if_false, Bool.false_eq_true, ite_true, ite_false, reduceIte, eq_self, Int.toNat_natCast, zst_0, zst_1, zst_2, zst_3, zst_4, true_or, or_true, or_false, false_or, ze_107_0, zB_107_0, ze_107_19, zB_107_19, ze_107_21, zB_107_21, ze_107_44, zB_107_44, ze_107_47, zB_107_47, ze_107_88, zB_107_88, ze_107_114, zB_107_114, ze_107_124, zB_107_124, ze_107_181, zB_107_181, ze_107_182, zB_107_182, ze_107_185, zB_107_185, ze_107_205, zB_107_205, ze_107_211, zB_107_211, zbr_t, zbr_f, zrun_c, zmI_s, zmL_s, zmR_s, zgt_0, zgt_s, zln_0, zln_s, zs1_0, zs1_1i, zs1_1r, zs1_1n, zs1_1l, zs1_s, zs2_0, zs2_1i, zs2_1r, zs2_1n, zs2_1l, zs2_s, zcn_eq, zcn_ne, zcn_lt, zcn_ge, zcn_gt, zcn_le, zpu_0, zpu_1, zpu_2, zx_iconst, zx_lconst, zx_ldc, zx_ldc2, zx_null, zx_iload, zx_lload, zx_aload, zx_istore, zx_lstore, zx_astore, zx_iinc, zx_iadd, zx_isub, zx_imul, zx_idiv, zx_irem, zx_iand, zx_ior, zx_ixor, zx_ishl, zx_ishr, zx_iushr, zx_i2b, zx_i2l, zx_l2i, zx_ladd, zx_lmul, zx_ldiv, zx_lrem, zx_land, zx_lor, zx_lshl, zx_lshr, zx_lcmp, zx_dupi, zx_dupr, zx_dup2l, zx_dup2i, zx_pop, zx_ifc, zx_icmp, zx_ifnullN, zx_ifnullS, zx_ifnonN, zx_ifnonS, zx_goto, zx_gotow, zx_switch, zx_iaload, zx_baload, zx_laload, zx_aaload, zx_iastore, zx_bastore, zx_lastore, zx_aastore, zx_alen, zx_newarray, zx_anewarray, zx_new, zx_getI, zx_getL, zx_getR, zx_putI, zx_putZ, zx_putL, zx_putR, zx_callS, zx_callV, zx_objinit, zx_cpyi, zx_cpyl, zx_mmax, zx_mmin, zx_mminl, zx_ireturn, zx_areturn, zx_lreturn, zx_return, zcs_0, zcs_1, zcv_1, zcs_2, zcv_2, zcs_3, zcv_3, zcs_4, zcv_4, zcs_5, zcv_5, zcs_6, zcv_6, zcs_7, zcv_7, Int.reduceToNat, Nat.reduceDiv, Nat.reduceMod, zJ, zC, zK_wA, zN_wA, zR_wA, zS_wA, zA_wA, zK_wR, zN_wR, zR_wR, zS_wR, zA_wR, zK_cp, zN_cp, zR_cp, zS_cp, zA_cp, zK_mp, zN_mp, zR_mp, zS_mp, zA_mp, zfa, zfmm, zfa_1, zfb_1, zfa_2, zfb_2, zfa_3, zfb_3, zfa_4, zfb_4, zfa_5, zfb_5, zfa_6, zfb_6, zfa_7, zfb_7, zfa_8, zfb_8, zfa_9, zfb_9, zfa_10, zfb_10, zfa_12, zfb_12, zfa_20, zfb_20, zfa_21, zfb_21, zfa_30, zfb_30, zfa_48, zfb_48, zfa_60, zfb_60, zfa_61, zfb_61, zfa_65, zfb_65, zfa_97, zfb_97, zfa_100, zfb_100, zfa_120, zfb_120, zfa_124, zfb_124, zfa_500, zfb_500, zfa_792, zfb_792, zfa_2989, zfb_2989, zfm_2, zfn_2, zfm_3, zfn_3, zfm_4, zfn_4, zfm_6, zfn_6, zfm_7, zfn_7, zfm_8, zfn_8, zfm_12, zfn_12, zfm_49, zfn_49, zfm_60, zfn_60, zfm_61, zfn_61, zfm_792, zfn_792, zfm_2989, zfn_2989, Int.zero_add, Int.add_zero, Int.zero_mul, Int.mul_zero, Int.one_mul, Int.mul_one, lk_11 (zmd_lay hm hL0), lr_11_11 (zmd_lay hm hL0), lk_20 (zmd_lay hm hL0), ln_20 (zmd_lay hm hL0), lr_11_10 (zmd_lay hm hL0), lk_19 (zmd_lay hm hL0), ln_19 (zmd_lay hm hL0), lk_6 (zmd_lay hm hL0), lr_6_4 (zmd_lay hm hL0), lk_10 (zmd_lay hm hL0), ln_10 (zmd_lay hm hL0), hm.2.2.2 10 _ rfl, hm.2.2.2 19 _ rfl, hnm]
    have hL := zmd_lay hm hL0
    refine zbr_i (fun q => ?_) (fun q => ?_)
    · refine hx H hm (fun j hj => ?_) _ _ _
      rw [hA j hj, if_neg (by omega)]
    · obtain ⟨j, rfl⟩ : ∃ j : Nat, v = j := ⟨v.toNat, by omega⟩
      have ej : jj = j + 1 := by omega
      subst ej
      rw [Int.toNat_natCast]
      have B1 := zDp_b (nm := nm) (hd := zA H0 10) hinf.1 k j
      have B2 := zDp_b (nm := nm) (hd := zA H0 10) hinf.1 k (j - 1)
      have Z0 := zDp_0 inf nm (zA H0 10) k
      have a1 := hA j (by omega)
      rw [if_pos (by omega)] at a1
      have ih2 := fun (x : Int) (hx : x = (zDp inf nm (zA H0 10)) (k + 1) j) l8 l9 => ih j (by omega) j ((j : Int) + -1) (zwA H 20 j x) l8 l9 rfl (by omega) (by omega) (zmd_w hm rfl) (fun r hr => by
        rw [zA_wA]
        by_cases e : r = j
        · rw [if_pos ⟨rfl, e⟩, if_neg (by omega), hx, e]
        · rw [if_neg (fun q => e q.2), hA r hr]
          by_cases e2 : r < j
          · rw [if_pos e2, if_pos (by omega)]
          · rw [if_neg e2, if_neg (by omega)])
      have e0 := zDp_s inf nm (zA H0 10) k j
      rw [a1]
      repeat (with_reducible refine And.intro ?_ ?_; · first | omega | (simp only [z32, z64]; omega))
      refine zbr_i (fun q1 => ?_) (fun q1 => ?_)
      · have ej0 : j = 0 := by omega
        subst ej0
        rw [if_pos rfl] at e0
        repeat (with_reducible refine And.intro ?_ ?_; · first | omega | (simp only [z32, z64]; omega))
        exact ih2 _ (by rw [e0, if_neg (by omega)]) _ _
      · rw [if_neg (show ¬ j = 0 by omega)] at e0
        have a2 := hA (j - 1) (by omega)
        rw [if_pos (by omega)] at a2
        rw [show ((j : Int) - 1).toNat = j - 1 by omega, a2]
        repeat (with_reducible refine And.intro ?_ ?_; · first | omega | (simp only [z32, z64]; omega))
        refine zbr_i (fun q2 => ?_) (fun q2 => ?_)
        · rw [if_neg q2] at e0
          repeat (with_reducible refine And.intro ?_ ?_; · first | omega | (simp only [z32, z64]; omega))
          exact ih2 _ e0.symm _ _
        · rw [if_pos (Classical.not_not.mp q2), Int.add_zero] at e0
          repeat (with_reducible refine And.intro ?_ ?_; · first | omega | (simp only [z32, z64]; omega))
          exact ih2 _ e0.symm _ _
set_option maxRecDepth 100000 in
theorem zl_mcgI {xs : Nat → Int} {L d b1 b2 : Nat} {H0 : zH} {Q : zQ} {i m n k : Nat} {inf : Int} {nm : Nat → Int} (hL0 : zLay H0) (hm24 : m ≤ 24) (hnm2 : n ≤ m) (hkm : k < m) (hinf : 0 ≤ inf ∧ inf ≤ 1000)  (hx : ∀ H : zH, zmd (zin [138] []) H0 H → (∀ j : Nat, j ≤ n → zA H 138 j = (zDp inf nm (zA H0 113)) (k + 1) j) → ∀ l7 l8 l9 : Option zV, zEt xs L d b1 b2 false 257 156 [some (zr (some 106)), some (zi i), some (zi m), some (zi k), some (zi (nm k)), l7, l8, l9] [] H Q) : ∀ (kk : Nat) (jj : Nat) (v : Int) (H : zH) (l8 : Option zV) (l9 : Option zV), jj = kk → (v = (jj : Int) - 1) → (jj ≤ n + 1) → (zmd (zin [138] []) H0 H) → (∀ j : Nat, j ≤ n → zA H 138 j = if j < jj then (zDp inf nm (zA H0 113)) k j else (zDp inf nm (zA H0 113)) (k + 1) j) → zEt xs L d b1 b2 false 257 73 [some (zr (some 106)), some (zi i), some (zi m), some (zi k), some (zi (nm k)), some (zi v), l8, l9] [] H Q := by
  intro kk
  induction kk using Nat.strongRecOn with
  | ind kk ih =>
    intro jj v H l8 l9 hkk hv hj hm hA
    refine zgo_at [73, 156] 8 ?_
    try simp only [zgn_0, zgn_s, zct_0, zct_s, Nat.reduceEqDiff, Nat.reduceBEq, Nat.reduceAdd, Nat.reduceSub, Nat.reduceMul, Int.reduceAdd, Int.reduceSub, Int.reduceMul, Int.reduceNeg, Int.reduceLT, Int.reduceLE, Int.reduceEq, Nat.zero_add, true_and, and_true, false_and, and_false, true_imp_iff, false_imp_iff, not_true_eq_false, not_false_eq_true, if_true, if_false, Bool.false_eq_true, ite_true, ite_false, reduceIte, eq_self, Int.toNat_natCast, zst_0, zst_1, zst_2, zst_3, zst_4, true_or, or_true, or_false, false_or, ze_257_0, zB_257_0, ze_257_19, zB_257_19, ze_257_21, zB_257_21, ze_257_42, zB_257_42, ze_257_45, zB_257_45, ze_257_52, zB_257_52, ze_257_54, zB_257_54, ze_257_73, zB_257_73, ze_257_121, zB_257_121, ze_257_122, zB_257_122, ze_257_137, zB_257_137, ze_257_139, zB_257_139, ze_257_141, zB_257_141, ze_257_156, zB_257_156, ze_257_162, zB_257_162, zbr_t, zbr_f, zrun_c, zmI_s, zmL_s, zmR_s, zgt_0, zgt_s, zln_0, zln_s, zs1_0, zs1_1i, zs1_1r, zs1_1n, zs1_1l, zs1_s, zs2_0, zs2_1i, zs2_1r, zs2_1n, zs2_1l, zs2_s, zcn_eq, zcn_ne, zcn_lt, zcn_ge, zcn_gt, zcn_le, zpu_0, zpu_1, zpu_2, zx_iconst, zx_lconst, zx_ldc, zx_ldc2, zx_null, zx_iload, zx_lload, zx_aload, zx_istore, zx_lstore, zx_astore, zx_iinc, zx_iadd, zx_isub, zx_imul, zx_idiv, zx_irem, zx_iand, zx_ior, zx_ixor, zx_ishl, zx_ishr, zx_iushr, zx_i2b, zx_i2l, zx_l2i, zx_ladd, zx_lmul, zx_ldiv, zx_lrem, zx_land, zx_lor, zx_lshl, zx_lshr, zx_lcmp, zx_dupi, zx_dupr, zx_dup2l, zx_dup2i, zx_pop, zx_ifc, zx_icmp, zx_ifnullN, zx_ifnullS, zx_ifnonN, zx_ifnonS, zx_goto, zx_gotow, zx_switch, zx_iaload, zx_baload, zx_laload, zx_aaload, zx_iastore, zx_bastore, zx_lastore, zx_aastore, zx_alen, zx_newarray, zx_anewarray, zx_new, zx_getI, zx_getL, zx_getR, zx_putI, zx_putZ, zx_putL, zx_putR, zx_callS, zx_callV, zx_objinit, zx_cpyi, zx_cpyl, zx_mmax, zx_mmin, zx_mminl, zx_ireturn, zx_areturn, zx_lreturn, zx_return, zcs_0, zcs_1, zcv_1, zcs_2, zcv_2, zcs_3, zcv_3, zcs_4, zcv_4, zcs_5, zcv_5, zcs_6, zcv_6, zcs_7, zcv_7, Int.reduceToNat, Nat.reduceDiv, Nat.reduceMod, zJ, zC, zK_wA, zN_wA, zR_wA, zS_wA, zA_wA, zK_wR, zN_wR, zR_wR, zS_wR, zA_wR, zK_cp, zN_cp, zR_cp, zS_cp, zA_cp, zK_mp, zN_mp, zR_mp, zS_mp, zA_mp, zfa, zfmm, zfa_1, zfb_1, zfa_2, zfb_2, zfa_3, zfb_3, zfa_4, zfb_4, zfa_5, zfb_5, zfa_6, zfb_6, zfa_7, zfb_7, zfa_8, zfb_8, zfa_9, zfb_9, zfa_10, zfb_10, zfa_12, zfb_12, zfa_20, zfb_20, zfa_21, zfb_21, zfa_30, zfb_30, zfa_48, zfb_48, zfa_60, zfb_60, zfa_61, zfb_61, zfa_65, zfb_65, zfa_97, zfb_97, zfa_100, zfb_100, zfa_120, zfb_120, zfa_124, zfb_124, zfa_500, zfb_500, zfa_792, zfb_792, zfa_2989, zfb_2989, zfm_2, zfn_2, zfm_3, zfn_3, zfm_4, zfn_4, zfm_6, zfn_6, zfm_7, zfn_7, zfm_8, zfn_8, zfm_12, zfn_12, zfm_49, zfn_49, zfm_60, zfn_60, zfm_61, zfn_61, zfm_792, zfn_792, zfm_2989, zfn_2989, Int.zero_add, Int.add_zero, Int.zero_mul, Int.mul_zero, Int.one_mul, Int.mul_one, lk_106 (zmd_lay hm hL0), lr_106_43 (zmd_lay hm hL0), lk_138 (zmd_lay hm hL0), ln_138 (zmd_lay hm hL0), lr_106_7 (zmd_lay hm hL0), lk_113 (zmd_lay hm hL0), ln_113 (zmd_lay hm hL0), hm.2.2.2 113 _ rfl]
    have hL := zmd_lay hm hL0
    refine zbr_i (fun q => ?_) (fun q => ?_)
    · refine hx H hm (fun j hj => ?_) _ _ _
      rw [hA j hj, if_neg (by omega)]
    · obtain ⟨j, rfl⟩ : ∃ j : Nat, v = j := ⟨v.toNat, by omega⟩
      have ej : jj = j + 1 := by omega
      subst ej
      rw [Int.toNat_natCast]
      have B1 := zDp_b (nm := nm) (hd := zA H0 113) hinf.1 k j
      have B2 := zDp_b (nm := nm) (hd := zA H0 113) hinf.1 k (j - 1)
      have Z0 := zDp_0 inf nm (zA H0 113) k
      have a1 := hA j (by omega)
      rw [if_pos (by omega)] at a1
      have ih2 := fun (x : Int) (hx : x = (zDp inf nm (zA H0 113)) (k + 1) j) l8 l9 => ih j (by omega) j ((j : Int) + -1) (zwA H 138 j x) l8 l9 rfl (by omega) (by omega) (zmd_w hm rfl) (fun r hr => by
        rw [zA_wA]
        by_cases e : r = j
        · rw [if_pos ⟨rfl, e⟩, if_neg (by omega), hx, e]
        · rw [if_neg (fun q => e q.2), hA r hr]
          by_cases e2 : r < j
          · rw [if_pos e2, if_pos (by omega)]
          · rw [if_neg e2, if_neg (by omega)])
      have e0 := zDp_s inf nm (zA H0 113) k j
      rw [a1]
      repeat (with_reducible refine And.intro ?_ ?_; · first | omega | (simp only [z32, z64]; omega))
      refine zbr_i (fun q1 => ?_) (fun q1 => ?_)
      · have ej0 : j = 0 := by omega
        subst ej0
        rw [if_pos rfl] at e0
        repeat (with_reducible refine And.intro ?_ ?_; · first | omega | (simp only [z32, z64]; omega))
        exact ih2 _ e0.symm _ _
      · rw [if_neg (show ¬ j = 0 by omega)] at e0
        have a2 := hA (j - 1) (by omega)
        rw [if_pos (by omega)] at a2
        rw [show ((j : Int) - 1).toNat = j - 1 by omega, a2]
        repeat (with_reducible refine And.intro ?_ ?_; · first | omega | (simp only [z32, z64]; omega))
        refine zbr_i (fun q2 => ?_) (fun q2 => ?_)
        · rw [if_neg q2] at e0
          repeat (with_reducible refine And.intro ?_ ?_; · first | omega | (simp only [z32, z64]; omega))
          refine zbr_i (fun q3 => ?_) (fun q3 => ?_)
          · rw [if_neg (by omega)] at e0
            repeat (with_reducible refine And.intro ?_ ?_; · first | omega | (simp only [z32, z64]; omega))
            exact ih2 _ e0.symm _ _
          · rw [if_pos (by omega)] at e0
            repeat (with_reducible refine And.intro ?_ ?_; · first | omega | (simp only [z32, z64]; omega))
            exact ih2 _ e0.symm _ _
        · rw [if_pos (Classical.not_not.mp q2), Int.add_zero] at e0
          repeat (with_reducible refine And.intro ?_ ?_; · first | omega | (simp only [z32, z64]; omega))
          refine zbr_i (fun q3 => ?_) (fun q3 => ?_)
          · rw [if_neg (by omega)] at e0
            repeat (with_reducible refine And.intro ?_ ?_; · first | omega | (simp only [z32, z64]; omega))
            exact ih2 _ e0.symm _ _
          · rw [if_pos (by omega)] at e0
            repeat (with_reducible refine And.intro ?_ ?_; · first | omega | (simp only [z32, z64]; omega))
            exact ih2 _ e0.symm _ _
