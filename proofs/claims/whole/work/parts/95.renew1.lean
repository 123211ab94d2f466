/-! ===== the new book ===== -/
theorem zbv_d (x y f : BitVec 32) (s : Nat) : ((x ||| y) >>> s) &&& f = ((x >>> s) &&& f) ||| ((y >>> s) &&& f) := by
  apply BitVec.eq_of_getElem_eq
  intro i hi
  simp only [BitVec.getElem_or, BitVec.getElem_and, BitVec.getElem_ushiftRight, BitVec.getLsbD_or, Bool.and_or_distrib_right]
theorem znb_d (c y s : Int) : zand (zushr (zor c y) s) 15 = zor (zand (zushr c s) 15) (zand (zushr y s) 15) := by
  unfold zand zushr zor
  simp only [Int32.ofInt_toInt]
  congr 1
  apply Int32.toBitVec_inj.mp
  simp only [Int32.toBitVec_and, Int32.toBitVec_or, UInt32.toBitVec_toInt32, UInt32.toBitVec_shiftRight, Int32.toBitVec_toUInt32]
  exact zbv_d _ _ _ _
theorem znb_0 : ∀ b : Nat, b < 9 → ∀ k : Nat, k < 8 → ∀ j : Nat, j < 8 → zand (zushr (zshl (b : Int) ((4 * k : Nat) : Int)) ((4 * j : Nat) : Int)) 15 = if j = k then (b : Int) else 0 := by decide +kernel
theorem zor_a0 (x y : Int) : zor (zand x y) 0 = zand x y := by
  unfold zor zand
  simp only [Int32.ofInt_toInt]
  congr 1
  apply Int32.toBitVec_inj.mp
  simp
theorem zor_0b : ∀ b : Nat, b < 9 → zor 0 (b : Int) = b := by decide +kernel
/-- the digit that stands against cue j in the banned ones -/
def znib (c : Int) (j : Nat) : Int := zand (zushr c ((4 * j : Nat) : Int)) 15
theorem znib_s {c : Int} {b k : Nat} (hb : b < 9) (hk : k < 8) (h0 : znib c k = 0) : ∀ j : Nat, j < 8 → znib (zor c (zshl (b : Int) ((4 * k : Nat) : Int))) j = if j = k then (b : Int) else znib c j := by
  intro j hj
  show zand (zushr (zor c (zshl (b : Int) ((4 * k : Nat) : Int))) ((4 * j : Nat) : Int)) 15 = _
  rw [znb_d, znb_0 b hb k hk j hj]
  by_cases e : j = k
  · rw [if_pos e, if_pos e, e]
    have h0 : zand (zushr c ((4 * k : Nat) : Int)) 15 = 0 := h0
    rw [h0, zor_0b b hb]
  · rw [if_neg e, if_neg e, zor_a0]
    rfl
theorem znib_0 : ∀ j : Nat, j < 8 → znib 0 j = 0 := by decide +kernel
/-- what a digit costs: one that is banned too much, another one, the same nothing -/
def zKc (B D : Nat → Int) (k e : Nat) : Int := if B k = e then 1000000 else if D k = e then 0 else 1
theorem zKc_b (B D : Nat → Int) (k e : Nat) : 0 ≤ zKc B D k e ∧ zKc B D k e ≤ 1000000 := by
  unfold zKc
  split
  · omega
  · split <;> omega
set_option maxRecDepth 100000 in
theorem zc_changeTo {xs : Nat → Int} {L d b1 b2 : Nat} {H : zH} {Q : zQ} {k e : Nat} {B D : Nat → Int} {c x : Int} (hk : k < 8) (he : e < 8) (hB : znib c k = B k) (hD : x = D k) (h : Q (zKc B D k e) H) : zEm xs L d b1 b2 95 [zi k, zi e, zi x, zi c] H Q := by
  refine zem_95 (zgo_at [] 8 ?_)
  try simp -implicitDefEqProofs only [zgn_0, zgn_s, zct_0, zct_s, Nat.reduceEqDiff, Nat.reduceBEq, Nat.reduceAdd, Nat.reduceSub, Nat.reduceMul, Int.reduceAdd, Int.reduceSub, Int.reduceMul, Int.reduceNeg, Int.reduceLT, Int.reduceLE, Int.reduceEq, Nat.zero_add, true_and, and_true, false_and, and_false, true_imp_iff, false_imp_iff, not_true_eq_false, not_false_eq_true, if_true, if_false, Bool.false_eq_true, ite_true, ite_false, reduceIte, eq_self, Int.toNat_natCast, zst_0, zst_1, zst_2, zst_3, zst_4, true_or, or_true, or_false, false_or, ze_95_0, zB_95_0, ze_95_15, zB_95_15, ze_95_24, zB_95_24, ze_95_25, zB_95_25, zbr_t, zbr_f, zrun_c, zmI_s, zmL_s, zmR_s, zgt_0, zgt_s, zln_0, zln_s, zs1_0, zs1_1i, zs1_1r, zs1_1n, zs1_1l, zs1_s, zs2_0, zs2_1i, zs2_1r, zs2_1n, zs2_1l, zs2_s, zcn_eq, zcn_ne, zcn_lt, zcn_ge, zcn_gt, zcn_le, zpu_0, zpu_1, zpu_2, zx_iconst, zx_lconst, zx_ldc, zx_ldc2, zx_null, zx_iload, zx_lload, zx_aload, zx_istore, zx_lstore, zx_astore, zx_iinc, zx_iadd, zx_isub, zx_imul, zx_idiv, zx_irem, zx_iand, zx_ior, zx_ixor, zx_ishl, zx_ishr, zx_iushr, zx_i2b, zx_i2l, zx_l2i, zx_ladd, zx_lmul, zx_ldiv, zx_lrem, zx_land, zx_lor, zx_lshl, zx_lshr, zx_lcmp, zx_dupi, zx_dupr, zx_dup2l, zx_dup2i, zx_pop, zx_ifc, zx_icmp, zx_ifnullN, zx_ifnullS, zx_ifnonN, zx_ifnonS, zx_goto, zx_gotow, zx_switch, zx_iaload, zx_baload, zx_laload, zx_aaload, zx_iastore, zx_bastore, zx_lastore, zx_aastore, zx_alen, zx_newarray, zx_anewarray, zx_new, zx_getI, zx_getL, zx_getR, zx_putI, zx_putZ, zx_putL, zx_putR, zx_callS, zx_callV, zx_objinit, zx_cpyi, zx_cpyl, zx_mmax, zx_mmin, zx_mminl, zx_ireturn, zx_areturn, zx_lreturn, zx_return, zcs_0, zcs_1, zcv_1, zcs_2, zcv_2, zcs_3, zcv_3, zcs_4, zcv_4, zcs_5, zcv_5, zcs_6, zcv_6, zcs_7, zcv_7, Int.reduceToNat, Nat.reduceDiv, Nat.reduceMod, zJ, zC, zK_wA, zN_wA, zR_wA, zS_wA, zA_wA, zK_wR, zN_wR, zR_wR, zS_wR, zA_wR, zK_cp, zN_cp, zR_cp, zS_cp, zA_cp, zK_mp, zN_mp, zR_mp, zS_mp, zA_mp, zfa, zfmm, zfa_1, zfb_1, zfa_2, zfb_2, zfa_3, zfb_3, zfa_4, zfb_4, zfa_5, zfb_5, zfa_6, zfb_6, zfa_7, zfb_7, zfa_8, zfb_8, zfa_9, zfb_9, zfa_10, zfb_10, zfa_12, zfb_12, zfa_20, zfb_20, zfa_21, zfb_21, zfa_30, zfb_30, zfa_48, zfb_48, zfa_60, zfb_60, zfa_61, zfb_61, zfa_65, zfb_65, zfa_97, zfb_97, zfa_100, zfb_100, zfa_120, zfb_120, zfa_124, zfb_124, zfa_500, zfb_500, zfa_792, zfb_792, zfa_2989, zfb_2989, zfm_2, zfn_2, zfm_3, zfn_3, zfm_4, zfn_4, zfm_6, zfn_6, zfm_7, zfn_7, zfm_8, zfn_8, zfm_12, zfn_12, zfm_49, zfn_49, zfm_60, zfn_60, zfm_61, zfn_61, zfm_792, zfn_792, zfm_2989, zfn_2989, Int.zero_add, Int.add_zero, Int.zero_mul, Int.mul_zero, Int.one_mul, Int.mul_one]
  repeat (with_reducible refine And.intro ?_ ?_; · first | omega | (simp only [z32, z64]; omega))
  unfold znib at hB
  rw [hB, hD]
  unfold zKc at h
  refine zbr_i (fun q0 => ?_) (fun q0 => ?_)
  · rw [if_neg q0] at h
    refine zbr_i (fun q1 => ?_) (fun q1 => ?_)
    · rw [if_neg (fun e => q1 e.symm)] at h; exact h
    · rw [if_pos (by omega)] at h; exact h
  · rw [if_pos (by omega)] at h; exact h
