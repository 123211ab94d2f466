/-- the things of a set -/
def zPp (p t : Nat) : Prop := t < 7 ∧ p / 2 ^ t % 2 = 1
theorem zb7 {b k : Nat} (hb : b < 2147483648) (hk : k < 31) : zand (zshr (b : Int) (k : Int)) 1 = ((b / 2 ^ k % 2 : Nat) : Int) := by
  have h2 : b / 2 ^ k ≤ b := Nat.div_le_self _ _
  rw [zshr_n (by omega) (by omega)]
  have h := zand_n (a := b / 2 ^ k) (b := 1) (by omega) (by decide)
  rw [Nat.and_one_is_mod] at h
  exact h
/-- the place of a thing in the order -/
noncomputable def zrk (m : Nat) (o : Nat → Nat) (t : Nat) : Nat := Classical.epsilon (fun r => r < m ∧ o r = t)
theorem zrk_e {P : Nat → Prop} {w : Nat → Int} {m : Nat} {o : Nat → Nat} (h : zOr P w m o) {r : Nat} (hr : r < m) : zrk m o (o r) = r := by
  have hs := Classical.epsilon_spec (p := fun q => q < m ∧ o q = o r) ⟨r, hr, rfl⟩
  exact zOr_i h hs.1 hr hs.2
/-- the length of a thing's row -/
noncomputable def zTs (m : Nat) (o : Nat → Nat) (s t : Nat) : Int := (zLn s (zrk m o t) : Int)
/-- one thing more in the order -/
def zIs (o : Nat → Nat) (j n r : Nat) : Nat := if r < j then o r else if r = j then n else o (r - 1)
theorem zIs_a {o : Nat → Nat} {j n r : Nat} (h : r < j) : zIs o j n r = o r := if_pos h
theorem zIs_b {o : Nat → Nat} {j n : Nat} : zIs o j n j = n := by unfold zIs; rw [if_neg (by omega), if_pos rfl]
theorem zIs_c {o : Nat → Nat} {j n r : Nat} (h : j ≤ r) : zIs o j n (r + 1) = o r := by unfold zIs; rw [if_neg (by omega), if_neg (by omega)]; rfl
theorem zOr_s {P : Nat → Prop} {w : Nat → Int} {m n j : Nat} {o : Nat → Nat} (h : zOr (fun t => t < n ∧ P t) w m o) (hP : P n) (hj : j ≤ m) (h1 : ∀ r : Nat, r < j → w n ≤ w (o r)) (h2 : ∀ r : Nat, j ≤ r → r < m → w (o r) < w n) : zOr (fun t => t < n + 1 ∧ P t) w (m + 1) (zIs o j n) := by
  have cs : ∀ r : Nat, r < m + 1 → (r < j ∧ zIs o j n r = o r) ∨ (r = j ∧ zIs o j n r = n) ∨ ∃ q : Nat, j ≤ q ∧ q < m ∧ r = q + 1 ∧ zIs o j n r = o q := by
    intro r hr
    by_cases q : r < j
    · exact Or.inl ⟨q, zIs_a q⟩
    · by_cases q2 : r = j
      · exact Or.inr (Or.inl ⟨q2, by rw [q2]; exact zIs_b⟩)
      · refine Or.inr (Or.inr ⟨r - 1, by omega, by omega, by omega, ?_⟩)
        have := zIs_c (o := o) (j := j) (n := n) (r := r - 1) (by omega)
        rw [show r - 1 + 1 = r by omega] at this
        exact this
  refine ⟨fun r hr => ?_, fun t ht => ?_, fun r r' hr hr' => ?_⟩
  · rcases cs r hr with ⟨a, b⟩ | ⟨a, b⟩ | ⟨q, a, b, c, e⟩
    · rw [b]; have := h.1 r (by omega); exact ⟨by omega, this.2⟩
    · rw [b]; exact ⟨by omega, hP⟩
    · rw [e]; have := h.1 q b; exact ⟨by omega, this.2⟩
  · by_cases e : t = n
    · exact ⟨j, by omega, by rw [e]; exact zIs_b⟩
    · obtain ⟨r, hr, er⟩ := h.2.1 t ⟨by omega, ht.2⟩
      by_cases q : r < j
      · exact ⟨r, by omega, by rw [zIs_a q]; exact er⟩
      · exact ⟨r + 1, by omega, by rw [zIs_c (by omega)]; exact er⟩
  · rcases cs r (by omega) with ⟨a, b⟩ | ⟨a, b⟩ | ⟨q, a, b, c, e⟩ <;> rcases cs r' hr' with ⟨a', b'⟩ | ⟨a', b'⟩ | ⟨q', a', b', c', e'⟩
    · rw [b, b']; exact h.2.2 r r' hr (by omega)
    · rw [b, b']
      have q1 := h1 r a
      have q2 := (h.1 r (by omega)).1
      unfold zbe
      omega
    · rw [b, e']; exact h.2.2 r q' (by omega) b'
    · omega
    · omega
    · rw [b, e']
      have q1 := h2 q' a' b'
      exact Or.inl q1
    · omega
    · omega
    · rw [e, e']; exact h.2.2 q q' (by omega) b'
theorem zOr_j {P : Nat → Prop} {w : Nat → Int} {m : Nat} {o : Nat → Nat} (h : zOr P w m o) (x : Int) : ∃ j : Nat, j ≤ m ∧ (∀ r : Nat, r < j → x ≤ w (o r)) ∧ ∀ r : Nat, j ≤ r → r < m → w (o r) < x := by
  have key : ∀ k : Nat, k ≤ m → ∃ j : Nat, j ≤ k ∧ (∀ r : Nat, r < j → x ≤ w (o r)) ∧ ∀ r : Nat, j ≤ r → r < k → w (o r) < x := by
    intro k
    induction k with
    | zero => intro _; exact ⟨0, Nat.le_refl _, fun r hr => by omega, fun r h1 h2 => by omega⟩
    | succ k ih =>
      intro hk
      obtain ⟨j, h1, h2, h3⟩ := ih (by omega)
      by_cases q : w (o k) < x
      · refine ⟨j, by omega, h2, fun r r1 r2 => ?_⟩
        by_cases e : r = k
        · rw [e]; exact q
        · exact h3 r r1 (by omega)
      · refine ⟨k + 1, Nat.le_refl _, fun r hr => ?_, fun r r1 r2 => by omega⟩
        by_cases e : r = k
        · rw [e]; omega
        · have := h.2.2 r k (by omega) (by omega)
          unfold zbe at this
          omega
  exact key m (Nat.le_refl _)
theorem zOr_p {P P' : Nat → Prop} {w : Nat → Int} {m : Nat} {o : Nat → Nat} (h : zOr P w m o) (e : ∀ t : Nat, P t ↔ P' t) : zOr P' w m o := by
  have : P = P' := funext (fun t => propext (e t))
  rw [← this]; exact h
/-- every set has its order -/
theorem zOr_x (p : Nat) (w : Nat → Int) : ∀ n : Nat, ∃ o : Nat → Nat, zOr (fun t => t < n ∧ p / 2 ^ t % 2 = 1) w (zpk p n) o
  | 0 => ⟨fun _ => 0, fun r hr => absurd hr (Nat.not_lt_zero r), fun t ht => absurd ht.1 (by omega), fun r r' _ h => absurd h (Nat.not_lt_zero r')⟩
  | n + 1 => by
    obtain ⟨o, h⟩ := zOr_x p w n
    rw [zpk_s]
    by_cases q : p / 2 ^ n % 2 = 1
    · obtain ⟨j, h1, h2, h3⟩ := zOr_j h (w n)
      refine ⟨zIs o j n, ?_⟩
      rw [q]
      exact zOr_s (P := fun t => p / 2 ^ t % 2 = 1) h q h1 h2 h3
    · refine ⟨o, ?_⟩
      rw [show p / 2 ^ n % 2 = 0 by omega, Nat.add_zero]
      refine zOr_p h (fun t => ⟨fun a => ⟨by omega, a.2⟩, fun a => ⟨?_, a.2⟩⟩)
      by_cases e : t = n
      · rw [e] at a; exact absurd a.2 q
      · omega
theorem zpk_c : ∀ p : Nat, p < 128 → zpc p = zpk p 7 := by decide +kernel
set_option maxRecDepth 100000 in
theorem zc_bits7 {xs : Nat → Int} {L d b1 b2 : Nat} {H0 : zH} {Q : zQ} {p : Nat} (hp : p < 128) (h : Q (zpk p 7 : Nat) H0) : zEm xs L d b1 b2 233 [zi p] H0 Q := zc_bits (by omega) (by rw [zpk_c p hp]; exact h)
set_option maxRecDepth 100000 in
theorem zl_isLe {xs : Nat → Int} {L d b1 b2 : Nat} {H0 : zH} {Q : zQ} {p : Nat} (hL0 : zLay H0) (hp : p < 128) (h1 : zlx (zPp p) 7 (zA H0 125) (zA H0 126) → Q 1 H0) (h0 : ¬ zlx (zPp p) 7 (zA H0 125) (zA H0 126) → Q 0 H0) : ∀ (kk : Nat) (t : Nat), 7 - t = kk → (t ≤ 7) → (∀ u : Nat, u < t → zPp p u → zA H0 125 u = zA H0 126 u) → zEt xs L d b1 b2 false 235 2 [some (zr (some 106)), some (zi p), some (zi t)] [] H0 Q := by
  intro kk
  induction kk using Nat.strongRecOn with
  | ind kk ih =>
    intro t hkk ht he
    refine zgo_at [2] 8 ?_
    try simp -implicitDefEqProofs only [zgn_0, zgn_s, zct_0, zct_s, Nat.reduceEqDiff, Nat.reduceBEq, Nat.reduceAdd, Nat.reduceSub, Nat.reduceMul, Int.reduceAdd, Int.reduceSub, Int.reduceMul, Int.reduceNeg, Int.reduceLT, Int.reduceLE, Int.reduceEq, Nat.zero_add, true_and, and_true, false_and, and_false, true_imp_iff, false_imp_iff, not_true_eq_false, not_false_eq_true, if_true, if_false, Bool.false_eq_true, ite_true, ite_false, reduceIte, eq_self, Int.toNat_natCast, zst_0, zst_1, zst_2, zst_3, zst_4, true_or, or_true, or_false, false_or, ze_235_0, zB_235_0, ze_235_2, zB_235_2, ze_235_51, zB_235_51, ze_235_52, zB_235_52, ze_235_53, zB_235_53, ze_235_59, zB_235_59, zbr_t, zbr_f, zrun_c, zmI_s, zmL_s, zmR_s, zgt_0, zgt_s, zln_0, zln_s, zs1_0, zs1_1i, zs1_1r, zs1_1n, zs1_1l, zs1_s, zs2_0, zs2_1i, zs2_1r, zs2_1n, zs2_1l, zs2_s, zcn_eq, zcn_ne, zcn_lt, zcn_ge, zcn_gt, zcn_le, zpu_0, zpu_1, zpu_2, zx_iconst, zx_lconst, zx_ldc, zx_ldc2, zx_null, zx_iload, zx_lload, zx_aload, zx_istore, zx_lstore, zx_astore, zx_iinc, zx_iadd, zx_isub, zx_imul, zx_idiv, zx_irem, zx_iand, zx_ior, zx_ixor, zx_ishl, zx_ishr, zx_iushr, zx_i2b, zx_i2l, zx_l2i, zx_ladd, zx_lmul, zx_ldiv, zx_lrem, zx_land, zx_lor, zx_lshl, zx_lshr, zx_lcmp, zx_dupi, zx_dupr, zx_dup2l, zx_dup2i, zx_pop, zx_ifc, zx_icmp, zx_ifnullN, zx_ifnullS, zx_ifnonN, zx_ifnonS, zx_goto, zx_gotow, zx_switch, zx_iaload, zx_baload, zx_laload, zx_aaload, zx_iastore, zx_bastore, zx_lastore, zx_aastore, zx_alen, zx_newarray, zx_anewarray, zx_new, zx_getI, zx_getL, zx_getR, zx_putI, zx_putZ, zx_putL, zx_putR, zx_callS, zx_callV, zx_objinit, zx_cpyi, zx_cpyl, zx_mmax, zx_mmin, zx_mminl, zx_ireturn, zx_areturn, zx_lreturn, zx_return, zcs_0, zcs_1, zcv_1, zcs_2, zcv_2, zcs_3, zcv_3, zcs_4, zcv_4, zcs_5, zcv_5, zcs_6, zcv_6, zcs_7, zcv_7, Int.reduceToNat, Nat.reduceDiv, Nat.reduceMod, zJ, zC, zK_wA, zN_wA, zR_wA, zS_wA, zA_wA, zK_wR, zN_wR, zR_wR, zS_wR, zA_wR, zK_cp, zN_cp, zR_cp, zS_cp, zA_cp, zK_mp, zN_mp, zR_mp, zS_mp, zA_mp, zfa, zfmm, zfa_1, zfb_1, zfa_2, zfb_2, zfa_3, zfb_3, zfa_4, zfb_4, zfa_5, zfb_5, zfa_6, zfb_6, zfa_7, zfb_7, zfa_8, zfb_8, zfa_9, zfb_9, zfa_10, zfb_10, zfa_12, zfb_12, zfa_20, zfb_20, zfa_21, zfb_21, zfa_30, zfb_30, zfa_48, zfb_48, zfa_60, zfb_60, zfa_61, zfb_61, zfa_65, zfb_65, zfa_97, zfb_97, zfa_100, zfb_100, zfa_120, zfb_120, zfa_124, zfb_124, zfa_500, zfb_500, zfa_792, zfb_792, zfa_2989, zfb_2989, zfm_2, zfn_2, zfm_3, zfn_3, zfm_4, zfn_4, zfm_6, zfn_6, zfm_7, zfn_7, zfm_8, zfn_8, zfm_12, zfn_12, zfm_49, zfn_49, zfm_60, zfn_60, zfm_61, zfn_61, zfm_792, zfn_792, zfm_2989, zfn_2989, Int.zero_add, Int.add_zero, Int.zero_mul, Int.mul_zero, Int.one_mul, Int.mul_one, lk_106 hL0, lr_106_23 hL0, lk_125 hL0, ln_125 hL0, lr_106_24 hL0, lk_126 hL0, ln_126 hL0]
    refine zbr_i (fun q0 => ?_) (fun q0 => ?_)
    · have e0 : t = 7 := by omega
      subst e0
      refine ⟨by omega, by omega, h0 (fun ⟨u, r1, r2, r3, r4⟩ => ?_)⟩
      have := he u r1 r2
      omega
    · rw [zb7 (by omega) (by omega)]
      refine zbr_i (fun q1 => ?_) (fun q1 => ?_)
      · repeat (with_reducible refine And.intro ?_ ?_; · first | omega | (simp only [z32, z64]; omega))
        refine ih _ (by omega) (t + 1) rfl (by omega) (fun u hu hP => ?_)
        by_cases e : u = t
        · subst e; exact absurd hP.2 (by omega)
        · exact he u (by omega) hP
      · have hPt : zPp p t := ⟨by omega, by omega⟩
        repeat (with_reducible refine And.intro ?_ ?_; · first | omega | (simp only [z32, z64]; omega))
        refine zbr_i (fun q2 => ?_) (fun q2 => ?_)
        · repeat (with_reducible refine And.intro ?_ ?_; · first | omega | (simp only [z32, z64]; omega))
          refine ih _ (by omega) (t + 1) rfl (by omega) (fun u hu hP => ?_)
          by_cases e : u = t
          · subst e; exact q2
          · exact he u (by omega) hP
        · repeat (with_reducible refine And.intro ?_ ?_; · first | omega | (simp only [z32, z64]; omega))
          refine zbr_i (fun q3 => ?_) (fun q3 => ?_)
          · refine ⟨by omega, by omega, h0 (fun ⟨u, r1, r2, r3, r4⟩ => ?_)⟩
            rcases Nat.lt_trichotomy u t with r | r | r
            · have := he u r r2; omega
            · subst r; omega
            · exact q2 (r3 t r hPt)
          · exact ⟨by omega, by omega, h1 ⟨t, by omega, hPt, he, by omega⟩⟩
set_option maxRecDepth 100000 in
theorem zc_isLess {xs : Nat → Int} {L d b1 b2 : Nat} {H0 : zH} {Q : zQ} {p : Nat} (hL0 : zLay H0) (hp : p < 128) (h1 : zlx (zPp p) 7 (zA H0 125) (zA H0 126) → Q 1 H0) (h0 : ¬ zlx (zPp p) 7 (zA H0 125) (zA H0 126) → Q 0 H0) : zEm xs L d b1 b2 235 [zr (some 106), zi p] H0 Q := by
  refine zem_235 (zgo_at [2] 4 ?_)
  try simp -implicitDefEqProofs only [zgn_0, zgn_s, zct_0, zct_s, Nat.reduceEqDiff, Nat.reduceBEq, Nat.reduceAdd, Nat.reduceSub, Nat.reduceMul, Int.reduceAdd, Int.reduceSub, Int.reduceMul, Int.reduceNeg, Int.reduceLT, Int.reduceLE, Int.reduceEq, Nat.zero_add, true_and, and_true, false_and, and_false, true_imp_iff, false_imp_iff, not_true_eq_false, not_false_eq_true, if_true, if_false, Bool.false_eq_true, ite_true, ite_false, reduceIte, eq_self, Int.toNat_natCast, zst_0, zst_1, zst_2, zst_3, zst_4, true_or, or_true, or_false, false_or, ze_235_0, zB_235_0, ze_235_2, zB_235_2, ze_235_51, zB_235_51, ze_235_52, zB_235_52, ze_235_53, zB_235_53, ze_235_59, zB_235_59, zbr_t, zbr_f, zrun_c, zmI_s, zmL_s, zmR_s, zgt_0, zgt_s, zln_0, zln_s, zs1_0, zs1_1i, zs1_1r, zs1_1n, zs1_1l, zs1_s, zs2_0, zs2_1i, zs2_1r, zs2_1n, zs2_1l, zs2_s, zcn_eq, zcn_ne, zcn_lt, zcn_ge, zcn_gt, zcn_le, zpu_0, zpu_1, zpu_2, zx_iconst, zx_lconst, zx_ldc, zx_ldc2, zx_null, zx_iload, zx_lload, zx_aload, zx_istore, zx_lstore, zx_astore, zx_iinc, zx_iadd, zx_isub, zx_imul, zx_idiv, zx_irem, zx_iand, zx_ior, zx_ixor, zx_ishl, zx_ishr, zx_iushr, zx_i2b, zx_i2l, zx_l2i, zx_ladd, zx_lmul, zx_ldiv, zx_lrem, zx_land, zx_lor, zx_lshl, zx_lshr, zx_lcmp, zx_dupi, zx_dupr, zx_dup2l, zx_dup2i, zx_pop, zx_ifc, zx_icmp, zx_ifnullN, zx_ifnullS, zx_ifnonN, zx_ifnonS, zx_goto, zx_gotow, zx_switch, zx_iaload, zx_baload, zx_laload, zx_aaload, zx_iastore, zx_bastore, zx_lastore, zx_aastore, zx_alen, zx_newarray, zx_anewarray, zx_new, zx_getI, zx_getL, zx_getR, zx_putI, zx_putZ, zx_putL, zx_putR, zx_callS, zx_callV, zx_objinit, zx_cpyi, zx_cpyl, zx_mmax, zx_mmin, zx_mminl, zx_ireturn, zx_areturn, zx_lreturn, zx_return, zcs_0, zcs_1, zcv_1, zcs_2, zcv_2, zcs_3, zcv_3, zcs_4, zcv_4, zcs_5, zcv_5, zcs_6, zcv_6, zcs_7, zcv_7, Int.reduceToNat, Nat.reduceDiv, Nat.reduceMod, zJ, zC, zK_wA, zN_wA, zR_wA, zS_wA, zA_wA, zK_wR, zN_wR, zR_wR, zS_wR, zA_wR, zK_cp, zN_cp, zR_cp, zS_cp, zA_cp, zK_mp, zN_mp, zR_mp, zS_mp, zA_mp, zfa, zfmm, zfa_1, zfb_1, zfa_2, zfb_2, zfa_3, zfb_3, zfa_4, zfb_4, zfa_5, zfb_5, zfa_6, zfb_6, zfa_7, zfb_7, zfa_8, zfb_8, zfa_9, zfb_9, zfa_10, zfb_10, zfa_12, zfb_12, zfa_20, zfb_20, zfa_21, zfb_21, zfa_30, zfb_30, zfa_48, zfb_48, zfa_60, zfb_60, zfa_61, zfb_61, zfa_65, zfb_65, zfa_97, zfb_97, zfa_100, zfb_100, zfa_120, zfb_120, zfa_124, zfb_124, zfa_500, zfb_500, zfa_792, zfb_792, zfa_2989, zfb_2989, zfm_2, zfn_2, zfm_3, zfn_3, zfm_4, zfn_4, zfm_6, zfn_6, zfm_7, zfn_7, zfm_8, zfn_8, zfm_12, zfn_12, zfm_49, zfn_49, zfm_60, zfn_60, zfm_61, zfn_61, zfm_792, zfn_792, zfm_2989, zfn_2989, Int.zero_add, Int.add_zero, Int.zero_mul, Int.mul_zero, Int.one_mul, Int.mul_one]
  exact zl_isLe hL0 hp h1 h0 _ 0 rfl (by omega) (fun u hu => by omega)
