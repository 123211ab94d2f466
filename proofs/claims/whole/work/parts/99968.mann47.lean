/-! ===== numbers of questions: convolution ===== -/
theorem zcvo_s (f g : Nat → Nat) (n : Nat) : zcvo f g (n + 1) = f 0 * g (n + 1) + zcvo (fun k => f (k + 1)) g n := rfl
theorem zcvo_al (g : Nat → Nat) : ∀ (n : Nat) (f f' : Nat → Nat), zcvo (fun k => f k + f' k) g n = zcvo f g n + zcvo f' g n
  | 0, f, f' => Nat.add_mul _ _ _
  | n + 1, f, f' => by
    rw [zcvo_s, zcvo_s, zcvo_s, zcvo_al g n (fun k => f (k + 1)) (fun k => f' (k + 1)), Nat.add_mul]
    omega
theorem zcvo_ar (g g' : Nat → Nat) : ∀ (n : Nat) (f : Nat → Nat), zcvo f (fun k => g k + g' k) n = zcvo f g n + zcvo f g' n
  | 0, f => Nat.mul_add _ _ _
  | n + 1, f => by
    rw [zcvo_s, zcvo_s, zcvo_s, zcvo_ar g g' n (fun k => f (k + 1)), Nat.mul_add]
    omega
theorem zcvo_c (c : Nat) (g : Nat → Nat) : ∀ (n : Nat) (f : Nat → Nat), zcvo (fun k => c * f k) g n = c * zcvo f g n
  | 0, f => Nat.mul_assoc _ _ _
  | n + 1, f => by
    rw [zcvo_s, zcvo_s, zcvo_c c g n (fun k => f (k + 1)), Nat.mul_add, Nat.mul_assoc]
theorem zcvo_as (g h : Nat → Nat) : ∀ (n : Nat) (f : Nat → Nat), zcvo (zcvo f g) h n = zcvo f (zcvo g h) n
  | 0, f => Nat.mul_assoc _ _ _
  | n + 1, f => by
    rw [zcvo_s f (zcvo g h) n, zcvo_s g h n, zcvo_s (zcvo f g) h n, ← zcvo_as g h n (fun k => f (k + 1))]
    have e : (fun k => zcvo f g (k + 1)) = (fun k => (fun k => f 0 * (fun k => g (k + 1)) k) k + zcvo (fun k => f (k + 1)) g k) := by
      funext k
      exact zcvo_s f g k
    rw [e, zcvo_al h n (fun k => f 0 * (fun k => g (k + 1)) k) (zcvo (fun k => f (k + 1)) g), zcvo_c (f 0) h n (fun k => g (k + 1)), Nat.mul_add, ← Nat.mul_assoc]
    show f 0 * g 0 * h (n + 1) + (_ + _) = _
    omega
theorem zcvo_0 (g : Nat → Nat) : ∀ (n : Nat), zcvo (fun _ => 0) g n = 0
  | 0 => Nat.zero_mul _
  | n + 1 => by
    rw [zcvo_s, zcvo_0 g n, Nat.zero_mul]
theorem zcvo_1 : ∀ (n : Nat) (f : Nat → Nat), zcvo f zc1 n = f n
  | 0, f => Nat.mul_one _
  | n + 1, f => by
    rw [zcvo_s, zcvo_1 n (fun k => f (k + 1))]
    show f 0 * (if n + 1 = 0 then 1 else 0) + f (n + 1) = f (n + 1)
    rw [if_neg (by omega), Nat.mul_zero, Nat.zero_add]
theorem zcvo_l1 (g : Nat → Nat) : ∀ (n : Nat), zcvo zc1 g n = g n
  | 0 => Nat.one_mul _
  | n + 1 => by
    rw [zcvo_s]
    have e : (fun k => zc1 (k + 1)) = (fun _ => 0) := by
      funext k
      exact if_neg (by omega)
    rw [e, zcvo_0]
    exact Nat.one_mul _
theorem zcvo_X : ∀ (n : Nat) (f : Nat → Nat), zcvo f zcX (n + 1) = f n
  | 0, f => by
    rw [zcvo_s]
    show f 0 * 1 + f 1 * 0 = f 0
    omega
  | n + 1, f => by
    rw [zcvo_s, zcvo_X n (fun k => f (k + 1))]
    show f 0 * (if n + 1 + 1 = 1 then 1 else 0) + f (n + 1) = f (n + 1)
    rw [if_neg (by omega)]
    omega
theorem zcvo_X0 (f : Nat → Nat) : zcvo f zcX 0 = 0 := Nat.mul_zero _
/-- partial sums -/
def zcps (f g : Nat → Nat) (j : Nat) : Nat → Nat
  | 0 => 0
  | k + 1 => zcps f g j k + (if k ≤ j then f k * g (j - k) else 0)
theorem zcps_s (f g : Nat → Nat) (j k : Nat) : zcps f g j (k + 1) = zcps f g j k + (if k ≤ j then f k * g (j - k) else 0) := rfl
theorem zcps_sh (f g : Nat → Nat) (j : Nat) : ∀ k : Nat, zcps f g (j + 1) (k + 1) = f 0 * g (j + 1) + zcps (fun k => f (k + 1)) g j k
  | 0 => by
    rw [zcps_s, if_pos (by omega)]
    show 0 + f 0 * g (j + 1 - 0) = f 0 * g (j + 1) + 0
    rw [Nat.sub_zero]
    omega
  | k + 1 => by
    rw [zcps_s, zcps_sh f g j k, zcps_s (fun k => f (k + 1)) g j k, show j + 1 - (k + 1) = j - k by omega]
    by_cases h : k ≤ j
    · rw [if_pos h, if_pos (by omega)]; omega
    · rw [if_neg h, if_neg (by omega)]; omega
theorem zcps_e (g : Nat → Nat) : ∀ (j k : Nat) (f : Nat → Nat), j < k → zcps f g j k = zcvo f g j
  | 0, 0, f, h => by omega
  | 0, k + 1, f, _ => by
    have h : ∀ k : Nat, zcps f g 0 (k + 1) = f 0 * g 0 := by
      intro k
      induction k with
      | zero => rw [zcps_s, if_pos (by omega)]; show 0 + f 0 * g 0 = f 0 * g 0; omega
      | succ k ih => rw [zcps_s, ih, if_neg (by omega)]; omega
    exact h k
  | j + 1, 0, f, h => by omega
  | j + 1, k + 1, f, h => by
    rw [zcps_sh, zcps_e g j k (fun k => f (k + 1)) (by omega), zcvo_s]
/-! trees as numbers -/
def zcT (e : Nat → Nat → Nat) (x : Nat) (s : Nat → Nat) : Nat → Nat := zcvo s (zcL e x)
theorem zcs_row {α : Type} {g : α → (Nat → Nat) → Nat → Nat} {f : α → Nat → Nat} (h : ∀ a s, g a s = zcvo s (f a)) : ∀ (r : List α) (s : Nat → Nat), zsRow g r s = zcvo s (zcRow f r)
  | [], s => by
    funext n
    exact (zcvo_1 n s).symm
  | a :: r, s => by
    show zsRow g r (g a s) = zcvo s (zcvo (f a) (zcRow f r))
    rw [zcs_row h r, h a s]
    funext n
    exact zcvo_as _ _ n s
theorem zcs_rs {α : Type} {g : α → (Nat → Nat) → Nat → Nat} {f : α → Nat → Nat} (h : ∀ a s, g a s = zcvo s (f a)) : ∀ (rs : List (List α)) (s a : Nat → Nat), zsRs zca g rs s a = zca a (zcvo s (zcRs f rs))
  | [], s, a => by
    funext n
    show a n = a n + zcvo s (fun _ => 0) n
    have : ∀ (n : Nat) (s : Nat → Nat), zcvo s (fun _ => 0) n = 0 := by
      intro n
      induction n with
      | zero => intro s; exact Nat.mul_zero _
      | succ n ih => intro s; rw [zcvo_s, ih, Nat.mul_zero]
    rw [this]
    rfl
  | r :: rs, s, a => by
    show zsRs zca g rs s (zca a (zsRow g r s)) = _
    rw [zcs_rs h rs, zcs_row h r]
    funext n
    show a n + zcvo s (zcRow f r) n + zcvo s (zcRs f rs) n = a n + zcvo s (fun k => zcRow f r k + zcRs f rs k) n
    rw [zcvo_ar]
    omega
theorem zcs_i (e : Nat → Nat → Nat) : ∀ (n : Nat) (it : zIt n) (s : Nat → Nat), zsI (zcT e) zca n it s = zcvo s (zcI e n it)
  | 0, (x : Nat), s => rfl
  | n + 1, Sum.inl x, s => rfl
  | n + 1, Sum.inr rs, s => by
    show zsRs zca (zsI (zcT e) zca n) rs s s = zcvo s (zca zc1 (zcRs (zcI e n) rs))
    rw [zcs_rs (fun a s => zcs_i e n a s) rs s s]
    funext k
    show s k + zcvo s (zcRs (zcI e n) rs) k = zcvo s (fun j => zc1 j + zcRs (zcI e n) rs j) k
    rw [zcvo_ar, zcvo_1]
/-! saturated numbers -/
theorem zsat_b (a : Nat) : zsat a ≤ 1000000000001 := by unfold zsat; split <;> omega
theorem zsat_0 : zsat 0 = 0 := rfl
theorem zsat_1 : zsat 1 = 1 := rfl
theorem zsat_z {a : Nat} : zsat a = 0 ↔ a = 0 := by unfold zsat; split <;> omega
theorem zsat_a (a b : Nat) : zsat (zsat a + zsat b) = zsat (a + b) := by
  unfold zsat
  repeat' split
  all_goals omega
theorem zsat_i {a : Nat} (h : a ≤ 1000000000001) : zsat a = a := by unfold zsat; split <;> omega
theorem zsat_m (a b : Nat) : zsat (zsat a * zsat b) = zsat (a * b) := by
  rcases Nat.eq_zero_or_pos a with h | ha
  · subst h; rw [zsat_0, Nat.zero_mul, Nat.zero_mul]
  rcases Nat.eq_zero_or_pos b with h | hb
  · subst h; rw [zsat_0, Nat.mul_zero, Nat.mul_zero]
  have big : ∀ x y : Nat, 1000000000001 ≤ x → 1 ≤ y → 1000000000001 ≤ x * y := fun x y hx hy => Nat.le_trans hx (Nat.le_mul_of_pos_right x hy)
  have h1 : ∀ x, 1 ≤ x → 1 ≤ zsat x := fun x hx => by unfold zsat; split <;> omega
  have sb : ∀ x, 1000000000001 ≤ x → zsat x = 1000000000001 := fun x hx => by unfold zsat; rw [if_pos hx]
  by_cases qa : 1000000000001 ≤ a
  · rw [sb a qa, sb _ (big _ _ (Nat.le_refl _) (h1 b hb)), sb _ (big _ _ qa hb)]
  · by_cases qb : 1000000000001 ≤ b
    · rw [sb b qb, Nat.mul_comm (zsat a), Nat.mul_comm a, sb _ (big _ _ (Nat.le_refl _) (h1 a ha)), sb _ (big _ _ qb ha)]
    · rw [zsat_i (a := a) (by omega), zsat_i (a := b) (by omega)]
theorem zdiv_lt {a b : Nat} (hb : 0 < b) : 1000000000001 / b < a ↔ 1000000000001 < a * b := by
  rw [Nat.div_lt_iff_lt_mul hb]
theorem zlcm_leq (x y : Int) : zlcm x y ≤ 0 ↔ x ≤ y := by
  unfold zlcm
  repeat' split
  all_goals omega
theorem zlcm_gtq (x y : Int) : 0 < zlcm x y ↔ y < x := by
  unfold zlcm
  repeat' split
  all_goals omega
theorem zsat_B {x : Nat} (h : 1000000000001 ≤ x) : zsat x = 1000000000001 := if_pos h
theorem ztdiv (b : Nat) : Int.tdiv 1000000000001 (b : Int) = ((1000000000001 / b : Nat) : Int) := (Int.ofNat_tdiv 1000000000001 b).symm
set_option maxRecDepth 100000 in
theorem zc_times {xs : Nat → Int} {L d b1 b2 : Nat} {H : zH} {Q : zQ} {a b : Nat} (ha : a ≤ 1000000000001) (hb : b ≤ 1000000000001) (h : Q (zsat (a * b) : Nat) H) : zEm xs L d b1 b2 134 [zl a, zl b] H Q := by
  refine zem_134 (zgo_at [] 6 ?_)
  try simp -implicitDefEqProofs only [zgn_0, zgn_s, zct_0, zct_s, Nat.reduceEqDiff, Nat.reduceBEq, Nat.reduceAdd, Nat.reduceSub, Nat.reduceMul, Int.reduceAdd, Int.reduceSub, Int.reduceMul, Int.reduceNeg, Int.reduceLT, Int.reduceLE, Int.reduceEq, Nat.zero_add, true_and, and_true, false_and, and_false, true_imp_iff, false_imp_iff, not_true_eq_false, not_false_eq_true, if_true, if_false, Bool.false_eq_true, ite_true, ite_false, reduceIte, eq_self, Int.toNat_natCast, zst_0, zst_1, zst_2, zst_3, zst_4, true_or, or_true, or_false, false_or, ze_134_0, zB_134_0, ze_134_12, zB_134_12, ze_134_14, zB_134_14, ze_134_30, zB_134_30, ze_134_39, zB_134_39, zbr_t, zbr_f, zrun_c, zmI_s, zmL_s, zmR_s, zgt_0, zgt_s, zln_0, zln_s, zs1_0, zs1_1i, zs1_1r, zs1_1n, zs1_1l, zs1_s, zs2_0, zs2_1i, zs2_1r, zs2_1n, zs2_1l, zs2_s, zcn_eq, zcn_ne, zcn_lt, zcn_ge, zcn_gt, zcn_le, zpu_0, zpu_1, zpu_2, zx_iconst, zx_lconst, zx_ldc, zx_ldc2, zx_null, zx_iload, zx_lload, zx_aload, zx_istore, zx_lstore, zx_astore, zx_iinc, zx_iadd, zx_isub, zx_imul, zx_idiv, zx_irem, zx_iand, zx_ior, zx_ixor, zx_ishl, zx_ishr, zx_iushr, zx_i2b, zx_i2l, zx_l2i, zx_ladd, zx_lmul, zx_ldiv, zx_lrem, zx_land, zx_lor, zx_lshl, zx_lshr, zx_lcmp, zx_dupi, zx_dupr, zx_dup2l, zx_dup2i, zx_pop, zx_ifc, zx_icmp, zx_ifnullN, zx_ifnullS, zx_ifnonN, zx_ifnonS, zx_goto, zx_gotow, zx_switch, zx_iaload, zx_baload, zx_laload, zx_aaload, zx_iastore, zx_bastore, zx_lastore, zx_aastore, zx_alen, zx_newarray, zx_anewarray, zx_new, zx_getI, zx_getL, zx_getR, zx_putI, zx_putZ, zx_putL, zx_putR, zx_callS, zx_callV, zx_objinit, zx_cpyi, zx_cpyl, zx_mmax, zx_mmin, zx_mminl, zx_ireturn, zx_areturn, zx_lreturn, zx_return, zcs_0, zcs_1, zcv_1, zcs_2, zcv_2, zcs_3, zcv_3, zcs_4, zcv_4, zcs_5, zcv_5, zcs_6, zcv_6, zcs_7, zcv_7, Int.reduceToNat, Nat.reduceDiv, Nat.reduceMod, zJ, zC, zK_wA, zN_wA, zR_wA, zS_wA, zA_wA, zK_wR, zN_wR, zR_wR, zS_wR, zA_wR, zK_cp, zN_cp, zR_cp, zS_cp, zA_cp, zK_mp, zN_mp, zR_mp, zS_mp, zA_mp, zfa, zfmm, zfa_1, zfb_1, zfa_2, zfb_2, zfa_3, zfb_3, zfa_4, zfb_4, zfa_5, zfb_5, zfa_6, zfb_6, zfa_7, zfb_7, zfa_8, zfb_8, zfa_9, zfb_9, zfa_10, zfb_10, zfa_12, zfb_12, zfa_20, zfb_20, zfa_21, zfb_21, zfa_30, zfb_30, zfa_48, zfb_48, zfa_60, zfb_60, zfa_61, zfb_61, zfa_65, zfb_65, zfa_97, zfb_97, zfa_100, zfb_100, zfa_120, zfb_120, zfa_124, zfb_124, zfa_500, zfb_500, zfa_792, zfb_792, zfa_2989, zfb_2989, zfm_2, zfn_2, zfm_3, zfn_3, zfm_4, zfn_4, zfm_6, zfn_6, zfm_7, zfn_7, zfm_8, zfn_8, zfm_12, zfn_12, zfm_49, zfn_49, zfm_60, zfn_60, zfm_61, zfn_61, zfm_792, zfn_792, zfm_2989, zfn_2989, Int.zero_add, Int.add_zero, Int.zero_mul, Int.mul_zero, Int.one_mul, Int.mul_one]
  refine zbr_i (fun q => ?_) (fun q => ?_)
  · rw [zlcm_leq] at q
    have a0 : a = 0 := by omega
    subst a0
    rw [Nat.zero_mul] at h
    first | exact h | (simp only [zx_lreturn]; exact h)
  · rw [zlcm_leq] at q
    refine zbr_i (fun q1 => ?_) (fun q1 => ?_)
    · rw [zlcm_gtq] at q1
      have hb0 : 0 < b := by omega
      have hle : 1000000000001 / b ≤ 1000000000001 := Nat.div_le_self _ _
      have hz := zdiv_lt (a := a) hb0
      rw [ztdiv]
      generalize 1000000000001 / b = dq at *
      have hq1 : ((b : Nat) : Int) ≠ 0 := by omega
      have hq2 : z64 ((dq : Nat) : Int) := by simp only [z64]; omega
      refine ⟨hq1, hq2, ?_⟩
      refine zbr_i (fun q2 => ?_) (fun q2 => ?_)
      · rw [zlcm_leq] at q2
        have hm : a * b ≤ 1000000000001 := Nat.le_of_not_lt (fun r => by have := hz.mpr r; omega)
        rw [zsat_i hm] at h
        repeat (with_reducible refine And.intro ?_ ?_; · first | omega | (simp only [z32, z64]; omega))
        rw [if_neg (show ¬ (1000000000001 : Int) < ((a * b : Nat) : Int) by omega)]
        first | exact h | (simp only [zx_lreturn]; exact h)
      · rw [zlcm_leq] at q2
        have hm : 1000000000001 < a * b := hz.mp (by omega)
        rw [zsat_B (by omega)] at h
        first | exact h | (simp only [zx_lreturn]; exact h)
    · rw [zlcm_gtq] at q1
      have a0 : b = 0 := by omega
      subst a0
      rw [Nat.mul_zero] at h
      first | exact h | (simp only [zx_lreturn]; exact h)
set_option maxRecDepth 100000 in
theorem zc_plus {xs : Nat → Int} {L d b1 b2 : Nat} {H : zH} {Q : zQ} {a b : Nat} (ha : a ≤ 1000000000001) (hb : b ≤ 1000000000001) (h : Q (zsat (a + b) : Nat) H) : zEm xs L d b1 b2 294 [zl a, zl b] H Q := by
  refine zem_294 (zgo_at [] 6 ?_)
  try simp -implicitDefEqProofs only [zgn_0, zgn_s, zct_0, zct_s, Nat.reduceEqDiff, Nat.reduceBEq, Nat.reduceAdd, Nat.reduceSub, Nat.reduceMul, Int.reduceAdd, Int.reduceSub, Int.reduceMul, Int.reduceNeg, Int.reduceLT, Int.reduceLE, Int.reduceEq, Nat.zero_add, true_and, and_true, false_and, and_false, true_imp_iff, false_imp_iff, not_true_eq_false, not_false_eq_true, if_true, if_false, Bool.false_eq_true, ite_true, ite_false, reduceIte, eq_self, Int.toNat_natCast, zst_0, zst_1, zst_2, zst_3, zst_4, true_or, or_true, or_false, false_or, ze_294_0, zB_294_0, ze_294_16, zB_294_16, ze_294_19, zB_294_19, zbr_t, zbr_f, zrun_c, zmI_s, zmL_s, zmR_s, zgt_0, zgt_s, zln_0, zln_s, zs1_0, zs1_1i, zs1_1r, zs1_1n, zs1_1l, zs1_s, zs2_0, zs2_1i, zs2_1r, zs2_1n, zs2_1l, zs2_s, zcn_eq, zcn_ne, zcn_lt, zcn_ge, zcn_gt, zcn_le, zpu_0, zpu_1, zpu_2, zx_iconst, zx_lconst, zx_ldc, zx_ldc2, zx_null, zx_iload, zx_lload, zx_aload, zx_istore, zx_lstore, zx_astore, zx_iinc, zx_iadd, zx_isub, zx_imul, zx_idiv, zx_irem, zx_iand, zx_ior, zx_ixor, zx_ishl, zx_ishr, zx_iushr, zx_i2b, zx_i2l, zx_l2i, zx_ladd, zx_lmul, zx_ldiv, zx_lrem, zx_land, zx_lor, zx_lshl, zx_lshr, zx_lcmp, zx_dupi, zx_dupr, zx_dup2l, zx_dup2i, zx_pop, zx_ifc, zx_icmp, zx_ifnullN, zx_ifnullS, zx_ifnonN, zx_ifnonS, zx_goto, zx_gotow, zx_switch, zx_iaload, zx_baload, zx_laload, zx_aaload, zx_iastore, zx_bastore, zx_lastore, zx_aastore, zx_alen, zx_newarray, zx_anewarray, zx_new, zx_getI, zx_getL, zx_getR, zx_putI, zx_putZ, zx_putL, zx_putR, zx_callS, zx_callV, zx_objinit, zx_cpyi, zx_cpyl, zx_mmax, zx_mmin, zx_mminl, zx_ireturn, zx_areturn, zx_lreturn, zx_return, zcs_0, zcs_1, zcv_1, zcs_2, zcv_2, zcs_3, zcv_3, zcs_4, zcv_4, zcs_5, zcv_5, zcs_6, zcv_6, zcs_7, zcv_7, Int.reduceToNat, Nat.reduceDiv, Nat.reduceMod, zJ, zC, zK_wA, zN_wA, zR_wA, zS_wA, zA_wA, zK_wR, zN_wR, zR_wR, zS_wR, zA_wR, zK_cp, zN_cp, zR_cp, zS_cp, zA_cp, zK_mp, zN_mp, zR_mp, zS_mp, zA_mp, zfa, zfmm, zfa_1, zfb_1, zfa_2, zfb_2, zfa_3, zfb_3, zfa_4, zfb_4, zfa_5, zfb_5, zfa_6, zfb_6, zfa_7, zfb_7, zfa_8, zfb_8, zfa_9, zfb_9, zfa_10, zfb_10, zfa_12, zfb_12, zfa_20, zfb_20, zfa_21, zfb_21, zfa_30, zfb_30, zfa_48, zfb_48, zfa_60, zfb_60, zfa_61, zfb_61, zfa_65, zfb_65, zfa_97, zfb_97, zfa_100, zfb_100, zfa_120, zfb_120, zfa_124, zfb_124, zfa_500, zfb_500, zfa_792, zfb_792, zfa_2989, zfb_2989, zfm_2, zfn_2, zfm_3, zfn_3, zfm_4, zfn_4, zfm_6, zfn_6, zfm_7, zfn_7, zfm_8, zfn_8, zfm_12, zfn_12, zfm_49, zfn_49, zfm_60, zfn_60, zfm_61, zfn_61, zfm_792, zfn_792, zfm_2989, zfn_2989, Int.zero_add, Int.add_zero, Int.zero_mul, Int.mul_zero, Int.one_mul, Int.mul_one]
  repeat (with_reducible refine And.intro ?_ ?_; · first | omega | (simp only [z32, z64]; omega))
  refine zbr_i (fun q => ?_) (fun q => ?_)
  · rw [zlcm_leq] at q
    rw [zsat_i (by omega)] at h
    repeat (with_reducible refine And.intro ?_ ?_; · first | omega | (simp only [z32, z64]; omega))
    first | exact h | (simp only [zx_lreturn]; exact h)
  · rw [zlcm_leq] at q
    rw [zsat_B (by omega)] at h
    first | exact h | (simp only [zx_lreturn]; exact h)
set_option maxRecDepth 100000 in
theorem zc_by {xs : Nat → Int} {L d b1 b2 : Nat} {H : zH} {Q : zQ} {a b : Nat} (ha : a ≤ 1000000000001) (hb : b ≤ 1000000000001) (h : Q (zsat (a * b) : Nat) H) : zEm xs L d b1 b2 295 [zl a, zl b] H Q := by
  refine zem_295 (zgo_at [] 8 ?_)
  try simp -implicitDefEqProofs only [zgn_0, zgn_s, zct_0, zct_s, Nat.reduceEqDiff, Nat.reduceBEq, Nat.reduceAdd, Nat.reduceSub, Nat.reduceMul, Int.reduceAdd, Int.reduceSub, Int.reduceMul, Int.reduceNeg, Int.reduceLT, Int.reduceLE, Int.reduceEq, Nat.zero_add, true_and, and_true, false_and, and_false, true_imp_iff, false_imp_iff, not_true_eq_false, not_false_eq_true, if_true, if_false, Bool.false_eq_true, ite_true, ite_false, reduceIte, eq_self, Int.toNat_natCast, zst_0, zst_1, zst_2, zst_3, zst_4, true_or, or_true, or_false, false_or, ze_295_0, zB_295_0, ze_295_22, zB_295_22, ze_295_38, zB_295_38, ze_295_41, zB_295_41, zbr_t, zbr_f, zrun_c, zmI_s, zmL_s, zmR_s, zgt_0, zgt_s, zln_0, zln_s, zs1_0, zs1_1i, zs1_1r, zs1_1n, zs1_1l, zs1_s, zs2_0, zs2_1i, zs2_1r, zs2_1n, zs2_1l, zs2_s, zcn_eq, zcn_ne, zcn_lt, zcn_ge, zcn_gt, zcn_le, zpu_0, zpu_1, zpu_2, zx_iconst, zx_lconst, zx_ldc, zx_ldc2, zx_null, zx_iload, zx_lload, zx_aload, zx_istore, zx_lstore, zx_astore, zx_iinc, zx_iadd, zx_isub, zx_imul, zx_idiv, zx_irem, zx_iand, zx_ior, zx_ixor, zx_ishl, zx_ishr, zx_iushr, zx_i2b, zx_i2l, zx_l2i, zx_ladd, zx_lmul, zx_ldiv, zx_lrem, zx_land, zx_lor, zx_lshl, zx_lshr, zx_lcmp, zx_dupi, zx_dupr, zx_dup2l, zx_dup2i, zx_pop, zx_ifc, zx_icmp, zx_ifnullN, zx_ifnullS, zx_ifnonN, zx_ifnonS, zx_goto, zx_gotow, zx_switch, zx_iaload, zx_baload, zx_laload, zx_aaload, zx_iastore, zx_bastore, zx_lastore, zx_aastore, zx_alen, zx_newarray, zx_anewarray, zx_new, zx_getI, zx_getL, zx_getR, zx_putI, zx_putZ, zx_putL, zx_putR, zx_callS, zx_callV, zx_objinit, zx_cpyi, zx_cpyl, zx_mmax, zx_mmin, zx_mminl, zx_ireturn, zx_areturn, zx_lreturn, zx_return, zcs_0, zcs_1, zcv_1, zcs_2, zcv_2, zcs_3, zcv_3, zcs_4, zcv_4, zcs_5, zcv_5, zcs_6, zcv_6, zcs_7, zcv_7, Int.reduceToNat, Nat.reduceDiv, Nat.reduceMod, zJ, zC, zK_wA, zN_wA, zR_wA, zS_wA, zA_wA, zK_wR, zN_wR, zR_wR, zS_wR, zA_wR, zK_cp, zN_cp, zR_cp, zS_cp, zA_cp, zK_mp, zN_mp, zR_mp, zS_mp, zA_mp, zfa, zfmm, zfa_1, zfb_1, zfa_2, zfb_2, zfa_3, zfb_3, zfa_4, zfb_4, zfa_5, zfb_5, zfa_6, zfb_6, zfa_7, zfb_7, zfa_8, zfb_8, zfa_9, zfb_9, zfa_10, zfb_10, zfa_12, zfb_12, zfa_20, zfb_20, zfa_21, zfb_21, zfa_30, zfb_30, zfa_48, zfb_48, zfa_60, zfb_60, zfa_61, zfb_61, zfa_65, zfb_65, zfa_97, zfb_97, zfa_100, zfb_100, zfa_120, zfb_120, zfa_124, zfb_124, zfa_500, zfb_500, zfa_792, zfb_792, zfa_2989, zfb_2989, zfm_2, zfn_2, zfm_3, zfn_3, zfm_4, zfn_4, zfm_6, zfn_6, zfm_7, zfn_7, zfm_8, zfn_8, zfm_12, zfn_12, zfm_49, zfn_49, zfm_60, zfn_60, zfm_61, zfn_61, zfm_792, zfn_792, zfm_2989, zfn_2989, Int.zero_add, Int.add_zero, Int.zero_mul, Int.mul_zero, Int.one_mul, Int.mul_one]
  refine zbr_i (fun q => ?_) (fun q => ?_)
  · rw [zlcm_e] at q
    have a0 : a = 0 := by omega
    have hm : a * b = 0 := by rw [a0, Nat.zero_mul]
    generalize a * b = m at *
    repeat (with_reducible refine And.intro ?_ ?_; · first | omega | (simp only [z32, z64]; omega))
    refine zbr_i (fun q => ?_) (fun q => ?_)
    · rw [zsat_i (by omega)] at h
      repeat (with_reducible refine And.intro ?_ ?_; · first | omega | (simp only [z32, z64]; omega))
      first | exact h | (simp only [zx_lreturn]; exact h)
    · rw [zlcm_leq] at q
      omega
  · rw [zlcm_e] at q
    have ha0 : 0 < a := by omega
    have hle : 1000000000001 / a ≤ 1000000000001 := Nat.div_le_self _ _
    have hz := zdiv_lt (a := b) ha0
    rw [ztdiv]
    generalize 1000000000001 / a = dq at *
    have hq1 : ((a : Nat) : Int) ≠ 0 := by omega
    have hq2 : z64 ((dq : Nat) : Int) := by simp only [z64]; omega
    refine ⟨hq1, hq2, ?_⟩
    refine zbr_i (fun q2 => ?_) (fun q2 => ?_)
    · rw [zlcm_leq] at q2
      have hm : b * a ≤ 1000000000001 := Nat.le_of_not_lt (fun r => by have := hz.mpr r; omega)
      rw [Nat.mul_comm] at hm
      generalize a * b = m at *
      repeat (with_reducible refine And.intro ?_ ?_; · first | omega | (simp only [z32, z64]; omega))
      refine zbr_i (fun q => ?_) (fun q => ?_)
      · rw [zlcm_leq] at q
        rw [zsat_i (by omega)] at h
        repeat (with_reducible refine And.intro ?_ ?_; · first | omega | (simp only [z32, z64]; omega))
        first | exact h | (simp only [zx_lreturn]; exact h)
      · rw [zlcm_leq] at q
        rw [zsat_B (by omega)] at h
        first | exact h | (simp only [zx_lreturn]; exact h)
    · rw [zlcm_leq] at q2
      have hm : 1000000000001 < b * a := hz.mp (by omega)
      rw [Nat.mul_comm] at hm
      rw [zsat_B (by omega)] at h
      first | exact h | (simp only [zx_lreturn]; exact h)
