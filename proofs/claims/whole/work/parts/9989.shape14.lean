/-- the codes of a tree: the leaf, and the sum's moved up -/
def zTK (S K : Nat → Nat) (j : Nat) : Nat := if j < S 1 then 8 * K j else if j = S 1 then 1 else 8 * K (j - 1)
def zTS (S : Nat → Nat) (i : Nat) : Nat := if i ≤ 1 then S i else S i + 1
theorem zTK_a {S K : Nat → Nat} {j : Nat} (h : j < S 1) : zTK S K j = 8 * K j := if_pos h
theorem zTK_b {S K : Nat → Nat} : zTK S K (S 1) = 1 := by unfold zTK; rw [if_neg (by omega), if_pos rfl]
theorem zTK_c {S K : Nat → Nat} {j : Nat} (h : S 1 ≤ j) : zTK S K (j + 1) = 8 * K j := by unfold zTK; rw [if_neg (by omega), if_neg (by omega)]; rfl
theorem zTS_a {S : Nat → Nat} {i : Nat} (h : i ≤ 1) : zTS S i = S i := if_pos h
theorem zTS_b {S : Nat → Nat} {i : Nat} (h : 2 ≤ i) : zTS S i = S i + 1 := if_neg (by omega)
theorem zGd_tr {S K : Nat → Nat} {A : Nat → Prop} (g : zGd S K A) (hK : ∀ j : Nat, j < S 8 → K j < 4096) : zGd (zTS S) (zTK S K) (fun x => x = 1 ∨ ∃ s : Nat, A s ∧ x = 8 * s) := by
  have e8 : zTS S 8 = S 8 + 1 := zTS_b (by omega)
  have h1 : S 1 ≤ S 8 := zGd_le g (by omega) (by omega)
  have cs : ∀ j : Nat, j < S 8 + 1 → (j < S 1 ∧ zTK S K j = 8 * K j) ∨ (j = S 1 ∧ zTK S K j = 1) ∨ ∃ i : Nat, S 1 ≤ i ∧ i < S 8 ∧ j = i + 1 ∧ zTK S K j = 8 * K i := by
    intro j hj
    by_cases q : j < S 1
    · exact Or.inl ⟨q, zTK_a q⟩
    · by_cases q2 : j = S 1
      · exact Or.inr (Or.inl ⟨q2, by rw [q2]; exact zTK_b⟩)
      · refine Or.inr (Or.inr ⟨j - 1, by omega, by omega, by omega, ?_⟩)
        have := zTK_c (S := S) (K := K) (j := j - 1) (by omega)
        rw [show j - 1 + 1 = j by omega] at this
        exact this
  refine ⟨?_, fun i hi => ?_, fun i j hi q1 q2 => ?_, fun j hj => ?_, fun i j hi hj he => ?_, fun x => ?_⟩
  · rw [zTS_a (by omega)]; exact g.1
  · have := g.2.1 i hi
    by_cases q : i ≤ 1
    · rw [zTS_a q]
      by_cases q2 : i + 1 ≤ 1
      · rw [zTS_a q2]; exact this
      · rw [zTS_b (by omega)]; omega
    · rw [zTS_b (by omega), zTS_b (by omega)]; omega
  · by_cases q : i = 0
    · subst q
      rw [zTS_a (by omega)] at q1 q2
      rw [Nat.zero_add] at q2
      rw [zTK_a q2, ztot_8 (by have := hK j (by omega); omega)]
      exact g.2.2.1 0 j (by omega) q1 q2
    · have m1 : S 1 ≤ S i := zGd_le g (by omega) (by omega)
      have m2 : S (i + 1) ≤ S 8 := zGd_le g (by omega) (by omega)
      rw [zTS_b (i := i + 1) (by omega)] at q2
      have q1' : (i = 1 ∧ S 1 ≤ j) ∨ (2 ≤ i ∧ S i + 1 ≤ j) := by
        by_cases q3 : i = 1
        · subst q3; rw [zTS_a (by omega)] at q1; exact Or.inl ⟨rfl, q1⟩
        · rw [zTS_b (by omega)] at q1; exact Or.inr ⟨by omega, q1⟩
      rcases cs j (by omega) with ⟨r1, r2⟩ | ⟨r1, r2⟩ | ⟨k, r1, r2, r3, r4⟩
      · omega
      · rw [r2]
        have : i = 1 := by omega
        rw [this]; rfl
      · rw [r4, ztot_8 (by have := hK k r2; omega)]
        refine g.2.2.1 i k hi ?_ (by omega)
        rcases q1' with ⟨rfl, _⟩ | ⟨_, q⟩ <;> omega
  · rw [e8] at hj
    rcases cs j hj with ⟨r1, r2⟩ | ⟨r1, r2⟩ | ⟨k, r1, r2, r3, r4⟩
    · rw [r2]; have := hK j (by omega); omega
    · rw [r2]; omega
    · rw [r4]; have := hK k r2; omega
  · rw [e8] at hi hj
    have inj := g.2.2.2.2.1
    rcases cs i hi with ⟨r1, r2⟩ | ⟨r1, r2⟩ | ⟨k, r1, r2, r3, r4⟩ <;> rcases cs j hj with ⟨p1, p2⟩ | ⟨p1, p2⟩ | ⟨l, p1, p2, p3, p4⟩
    · exact inj i j (by omega) (by omega) (by omega)
    · omega
    · have := inj i l (by omega) (by omega) (by omega); omega
    · omega
    · omega
    · omega
    · have := inj k j (by omega) (by omega) (by omega); omega
    · omega
    · have := inj k l (by omega) (by omega) (by omega); omega
  · rw [e8]
    constructor
    · rintro (rfl | ⟨s, hs, rfl⟩)
      · exact ⟨S 1, by omega, zTK_b⟩
      · obtain ⟨k, hk, rfl⟩ := (g.2.2.2.2.2 s).mp hs
        by_cases q : k < S 1
        · exact ⟨k, by omega, zTK_a q⟩
        · exact ⟨k + 1, by omega, zTK_c (by omega)⟩
    · rintro ⟨j, hj, rfl⟩
      rcases cs j hj with ⟨r1, r2⟩ | ⟨r1, r2⟩ | ⟨k, r1, r2, r3, r4⟩
      · exact Or.inr ⟨K j, (g.2.2.2.2.2 _).mpr ⟨j, by omega, rfl⟩, r2⟩
      · exact Or.inl r2
      · exact Or.inr ⟨K k, (g.2.2.2.2.2 _).mpr ⟨k, r2, rfl⟩, r4⟩
set_option maxRecDepth 100000 in
theorem zl_stA {xs : Nat → Int} {L d b1 b2 : Nat} {H0 : zH} {Q : zQ} {p0 c0 s0 p1 c1 s1 n1 : Nat} {S1 K1 : Nat → Nat} {A1 : Nat → Prop} {t b : Nat} (o0 : zSO H0 p0 c0 s0 331) (o1 : zSO H0 p1 c1 s1 n1) (hcs : c0 ≠ s0) (x1 : c1 ≠ c0 ∧ c1 ≠ s0) (y1 : s1 ≠ c0 ∧ s1 ≠ s0) (hn1 : n1 ≤ 792) (g1 : zSh H0 c1 s1 n1 S1 K1 A1) (hK : ∀ j : Nat, j < S1 8 → K1 j < 4096) (ht : t ≤ 7) (hb : b = if t = 0 then 0 else 1) (h : ∀ G : zH, zmd (zin [c0, s0] []) H0 G → (∀ j : Nat, j < S1 (t + 1) + b → zA G c0 j = zTK S1 K1 j) → (∀ j : Nat, j ≤ t → zA G s0 j = zTS S1 j) → zEt xs L d b1 b2 false 71 86 [some (zr (some p0)), some (zr (some p1)), some (zi (S1 (t + 1) + b : Nat)), some (zi t), some (zi (S1 (t + 1) : Nat))] [] G Q) : ∀ (kk : Nat) (i : Nat) (G : zH), S1 (t + 1) - i = kk → (S1 t ≤ i ∧ i ≤ S1 (t + 1)) → (zmd (zin [c0, s0] []) H0 G) → (∀ j : Nat, j < i + b → zA G c0 j = zTK S1 K1 j) → (∀ j : Nat, j ≤ t → zA G s0 j = zTS S1 j) → zEt xs L d b1 b2 false 71 40 [some (zr (some p0)), some (zr (some p1)), some (zi (i + b : Nat)), some (zi t), some (zi i)] [] G Q := by
  intro kk
  induction kk using Nat.strongRecOn with
  | ind kk ih =>
    intro i G hkk hi hm hc hs
    obtain ⟨q01, q02, q03, q04, q05, q06, q07⟩ := zSO_md hm o0
    obtain ⟨q11, q12, q13, q14, q15, q16, q17⟩ := zSO_md hm o1
    have h330 := zpig g1.2.2.2.2.2.1 (fun j hj => zGd_t g1.2 hj) (X := 4096) hK
    rw [zqn_4] at h330
    have u1 := g1.1.2.2
    have es1 : ∀ i : Nat, i ≤ 8 → zA G s1 i = S1 i := fun i hi => by rw [hm.2.2.2 s1 i (zincs.mpr y1)]; exact g1.1.1 i hi
    have ec1 : ∀ j : Nat, j < S1 8 → zA G c1 j = K1 j := fun j hj => by rw [hm.2.2.2 c1 j (zincs.mpr x1)]; exact g1.1.2.1 j hj
    refine zgo_at [40, 86] 8 ?_
    try simp -implicitDefEqProofs only [zgn_0, zgn_s, zct_0, zct_s, Nat.reduceEqDiff, Nat.reduceBEq, Nat.reduceAdd, Nat.reduceSub, Nat.reduceMul, Int.reduceAdd, Int.reduceSub, Int.reduceMul, Int.reduceNeg, Int.reduceLT, Int.reduceLE, Int.reduceEq, Nat.zero_add, true_and, and_true, false_and, and_false, true_imp_iff, false_imp_iff, not_true_eq_false, not_false_eq_true, if_true, if_false, Bool.false_eq_true, ite_true, ite_false, reduceIte, eq_self, Int.toNat_natCast, zst_0, zst_1, zst_2, zst_3, zst_4, true_or, or_true, or_false, false_or, ze_71_0, zB_71_0, ze_71_4, zB_71_4, ze_71_32, zB_71_32, ze_71_40, zB_71_40, ze_71_86, zB_71_86, ze_71_92, zB_71_92, zbr_t, zbr_f, zrun_c, zmI_s, zmL_s, zmR_s, zgt_0, zgt_s, zln_0, zln_s, zs1_0, zs1_1i, zs1_1r, zs1_1n, zs1_1l, zs1_s, zs2_0, zs2_1i, zs2_1r, zs2_1n, zs2_1l, zs2_s, zcn_eq, zcn_ne, zcn_lt, zcn_ge, zcn_gt, zcn_le, zpu_0, zpu_1, zpu_2, zx_iconst, zx_lconst, zx_ldc, zx_ldc2, zx_null, zx_iload, zx_lload, zx_aload, zx_istore, zx_lstore, zx_astore, zx_iinc, zx_iadd, zx_isub, zx_imul, zx_idiv, zx_irem, zx_iand, zx_ior, zx_ixor, zx_ishl, zx_ishr, zx_iushr, zx_i2b, zx_i2l, zx_l2i, zx_ladd, zx_lmul, zx_ldiv, zx_lrem, zx_land, zx_lor, zx_lshl, zx_lshr, zx_lcmp, zx_dupi, zx_dupr, zx_dup2l, zx_dup2i, zx_pop, zx_ifc, zx_icmp, zx_ifnullN, zx_ifnullS, zx_ifnonN, zx_ifnonS, zx_goto, zx_gotow, zx_switch, zx_iaload, zx_baload, zx_laload, zx_aaload, zx_iastore, zx_bastore, zx_lastore, zx_aastore, zx_alen, zx_newarray, zx_anewarray, zx_new, zx_getI, zx_getL, zx_getR, zx_putI, zx_putZ, zx_putL, zx_putR, zx_callS, zx_callV, zx_objinit, zx_cpyi, zx_cpyl, zx_mmax, zx_mmin, zx_mminl, zx_ireturn, zx_areturn, zx_lreturn, zx_return, zcs_0, zcs_1, zcv_1, zcs_2, zcv_2, zcs_3, zcv_3, zcs_4, zcv_4, zcs_5, zcv_5, zcs_6, zcv_6, zcs_7, zcv_7, Int.reduceToNat, Nat.reduceDiv, Nat.reduceMod, zJ, zC, zK_wA, zN_wA, zR_wA, zS_wA, zA_wA, zK_wR, zN_wR, zR_wR, zS_wR, zA_wR, zK_cp, zN_cp, zR_cp, zS_cp, zA_cp, zK_mp, zN_mp, zR_mp, zS_mp, zA_mp, zfa, zfmm, zfa_1, zfb_1, zfa_2, zfb_2, zfa_3, zfb_3, zfa_4, zfb_4, zfa_5, zfb_5, zfa_6, zfb_6, zfa_7, zfb_7, zfa_8, zfb_8, zfa_9, zfb_9, zfa_10, zfb_10, zfa_12, zfb_12, zfa_20, zfb_20, zfa_21, zfb_21, zfa_30, zfb_30, zfa_48, zfb_48, zfa_60, zfb_60, zfa_61, zfb_61, zfa_65, zfb_65, zfa_97, zfb_97, zfa_100, zfb_100, zfa_120, zfb_120, zfa_124, zfb_124, zfa_500, zfb_500, zfa_792, zfb_792, zfa_2989, zfb_2989, zfm_2, zfn_2, zfm_3, zfn_3, zfm_4, zfn_4, zfm_6, zfn_6, zfm_7, zfn_7, zfm_8, zfn_8, zfm_12, zfn_12, zfm_49, zfn_49, zfm_60, zfn_60, zfm_61, zfn_61, zfm_792, zfn_792, zfm_2989, zfn_2989, Int.zero_add, Int.add_zero, Int.zero_mul, Int.mul_zero, Int.one_mul, Int.mul_one, q01, q02, q03, q04, q05, q06, q07, q11, q12, q13, q14, q15, q16, q17, es1 (t + 1) (by omega)]
    have m1 := zGd_le g1.2 (i := t + 1) (k := 8) (by omega) (by omega)
    have hb1 : b ≤ 1 := by rw [hb]; split <;> omega
    repeat (with_reducible refine And.intro ?_ ?_; · first | omega | (simp only [z32, z64]; omega))
    refine zbr_i (fun q => ?_) (fun q => ?_)
    · have e9 : i = S1 (t + 1) := by omega
      subst e9
      exact h G hm hc hs
    · refine ⟨by omega, zbr_i (fun q1 => by omega) (fun q1 => ?_)⟩
      have hKi := hK i (by omega)
      rw [ec1 i (by omega), zsl3 hKi]
      repeat (with_reducible refine And.intro ?_ ?_; · first | omega | (simp only [z32, z64]; omega))
      have m0 := zGd_le g1.2 (i := 0) (k := t) (by omega) (by omega)
      have ek : zTK S1 K1 (i + b) = 8 * K1 i := by
        by_cases e : t = 0
        · subst e
          rw [if_pos rfl] at hb
          subst hb
          exact zTK_a (by have := hi.2; rw [Nat.zero_add] at this; rw [Nat.zero_add] at q; omega)
        · rw [if_neg e] at hb
          subst hb
          exact zTK_c (by have := zGd_le g1.2 (i := 1) (k := t) (by omega) (by omega); omega)
      have fin := ih (S1 (t + 1) - (i + 1)) (by omega) (i + 1) (zwA G c0 (i + b) ((8 * K1 i : Nat) : Int)) rfl (by omega) (zmd_w hm zincs_c) (fun j hj => ?_) (fun j hj => ?_)
      · rw [show i + 1 + b = i + b + 1 by omega] at fin
        exact fin
      · rw [zA_wA]
        by_cases e : j = i + b
        · rw [if_pos ⟨rfl, e⟩, e, ek]
        · rw [if_neg (fun q => e q.2)]; exact hc j (by omega)
      · rw [zA_wA, if_neg (fun q => hcs q.1.symm)]; exact hs j hj
set_option maxRecDepth 100000 in
theorem zl_stB {xs : Nat → Int} {L d b1 b2 : Nat} {H0 : zH} {Q : zQ} {p0 c0 s0 p1 c1 s1 n1 : Nat} {S1 K1 : Nat → Nat} {A1 : Nat → Prop} (o0 : zSO H0 p0 c0 s0 331) (o1 : zSO H0 p1 c1 s1 n1) (hcs : c0 ≠ s0) (x1 : c1 ≠ c0 ∧ c1 ≠ s0) (y1 : s1 ≠ c0 ∧ s1 ≠ s0) (hn1 : n1 ≤ 792) (g1 : zSh H0 c1 s1 n1 S1 K1 A1) (hK : ∀ j : Nat, j < S1 8 → K1 j < 4096) (h : ∀ (G : zH), zmd (zin [c0, s0] []) H0 G → zSh G c0 s0 331 (zTS S1) (zTK S1 K1) (fun x => x = 1 ∨ ∃ s : Nat, A1 s ∧ x = 8 * s) → Q 0 G) : ∀ (kk : Nat) (t : Nat) (n : Nat) (G : zH) (w4 : Option zV), 8 - t = kk → (t ≤ 8) → (n = S1 t + if t ≤ 1 then 0 else 1) → (zmd (zin [c0, s0] []) H0 G) → (∀ j : Nat, j < n → zA G c0 j = zTK S1 K1 j) → (∀ j : Nat, j < t → zA G s0 j = zTS S1 j) → zEt xs L d b1 b2 false 71 4 [some (zr (some p0)), some (zr (some p1)), some (zi n), some (zi t), w4] [] G Q := by
  intro kk
  induction kk using Nat.strongRecOn with
  | ind kk ih =>
    intro t n G w4 hkk ht hn hm hc hs
    obtain ⟨q01, q02, q03, q04, q05, q06, q07⟩ := zSO_md hm o0
    obtain ⟨q11, q12, q13, q14, q15, q16, q17⟩ := zSO_md hm o1
    have h330 := zpig g1.2.2.2.2.2.1 (fun j hj => zGd_t g1.2 hj) (X := 4096) hK
    rw [zqn_4] at h330
    have u1 := g1.1.2.2
    have es1 : ∀ i : Nat, i ≤ 8 → zA G s1 i = S1 i := fun i hi => by rw [hm.2.2.2 s1 i (zincs.mpr y1)]; exact g1.1.1 i hi
    have ec1 : ∀ j : Nat, j < S1 8 → zA G c1 j = K1 j := fun j hj => by rw [hm.2.2.2 c1 j (zincs.mpr x1)]; exact g1.1.2.1 j hj
    refine zgo_at [4, 32, 40] 8 ?_
    try simp -implicitDefEqProofs only [zgn_0, zgn_s, zct_0, zct_s, Nat.reduceEqDiff, Nat.reduceBEq, Nat.reduceAdd, Nat.reduceSub, Nat.reduceMul, Int.reduceAdd, Int.reduceSub, Int.reduceMul, Int.reduceNeg, Int.reduceLT, Int.reduceLE, Int.reduceEq, Nat.zero_add, true_and, and_true, false_and, and_false, true_imp_iff, false_imp_iff, not_true_eq_false, not_false_eq_true, if_true, if_false, Bool.false_eq_true, ite_true, ite_false, reduceIte, eq_self, Int.toNat_natCast, zst_0, zst_1, zst_2, zst_3, zst_4, true_or, or_true, or_false, false_or, ze_71_0, zB_71_0, ze_71_4, zB_71_4, ze_71_32, zB_71_32, ze_71_40, zB_71_40, ze_71_86, zB_71_86, ze_71_92, zB_71_92, zbr_t, zbr_f, zrun_c, zmI_s, zmL_s, zmR_s, zgt_0, zgt_s, zln_0, zln_s, zs1_0, zs1_1i, zs1_1r, zs1_1n, zs1_1l, zs1_s, zs2_0, zs2_1i, zs2_1r, zs2_1n, zs2_1l, zs2_s, zcn_eq, zcn_ne, zcn_lt, zcn_ge, zcn_gt, zcn_le, zpu_0, zpu_1, zpu_2, zx_iconst, zx_lconst, zx_ldc, zx_ldc2, zx_null, zx_iload, zx_lload, zx_aload, zx_istore, zx_lstore, zx_astore, zx_iinc, zx_iadd, zx_isub, zx_imul, zx_idiv, zx_irem, zx_iand, zx_ior, zx_ixor, zx_ishl, zx_ishr, zx_iushr, zx_i2b, zx_i2l, zx_l2i, zx_ladd, zx_lmul, zx_ldiv, zx_lrem, zx_land, zx_lor, zx_lshl, zx_lshr, zx_lcmp, zx_dupi, zx_dupr, zx_dup2l, zx_dup2i, zx_pop, zx_ifc, zx_icmp, zx_ifnullN, zx_ifnullS, zx_ifnonN, zx_ifnonS, zx_goto, zx_gotow, zx_switch, zx_iaload, zx_baload, zx_laload, zx_aaload, zx_iastore, zx_bastore, zx_lastore, zx_aastore, zx_alen, zx_newarray, zx_anewarray, zx_new, zx_getI, zx_getL, zx_getR, zx_putI, zx_putZ, zx_putL, zx_putR, zx_callS, zx_callV, zx_objinit, zx_cpyi, zx_cpyl, zx_mmax, zx_mmin, zx_mminl, zx_ireturn, zx_areturn, zx_lreturn, zx_return, zcs_0, zcs_1, zcv_1, zcs_2, zcv_2, zcs_3, zcv_3, zcs_4, zcv_4, zcs_5, zcv_5, zcs_6, zcv_6, zcs_7, zcv_7, Int.reduceToNat, Nat.reduceDiv, Nat.reduceMod, zJ, zC, zK_wA, zN_wA, zR_wA, zS_wA, zA_wA, zK_wR, zN_wR, zR_wR, zS_wR, zA_wR, zK_cp, zN_cp, zR_cp, zS_cp, zA_cp, zK_mp, zN_mp, zR_mp, zS_mp, zA_mp, zfa, zfmm, zfa_1, zfb_1, zfa_2, zfb_2, zfa_3, zfb_3, zfa_4, zfb_4, zfa_5, zfb_5, zfa_6, zfb_6, zfa_7, zfb_7, zfa_8, zfb_8, zfa_9, zfb_9, zfa_10, zfb_10, zfa_12, zfb_12, zfa_20, zfb_20, zfa_21, zfb_21, zfa_30, zfb_30, zfa_48, zfb_48, zfa_60, zfb_60, zfa_61, zfb_61, zfa_65, zfb_65, zfa_97, zfb_97, zfa_100, zfb_100, zfa_120, zfb_120, zfa_124, zfb_124, zfa_500, zfb_500, zfa_792, zfb_792, zfa_2989, zfb_2989, zfm_2, zfn_2, zfm_3, zfn_3, zfm_4, zfn_4, zfm_6, zfn_6, zfm_7, zfn_7, zfm_8, zfn_8, zfm_12, zfn_12, zfm_49, zfn_49, zfm_60, zfn_60, zfm_61, zfn_61, zfm_792, zfn_792, zfm_2989, zfn_2989, Int.zero_add, Int.add_zero, Int.zero_mul, Int.mul_zero, Int.one_mul, Int.mul_one, q01, q02, q03, q04, q05, q06, q07, q11, q12, q13, q14, q15, q16, q17]
    have m8 := zGd_le g1.2 (i := t) (k := 8) (by omega) (by omega)
    have hn2 : n ≤ S1 8 + 1 := by rw [hn]; split <;> omega
    refine zbr_i (fun q => ?_) (fun q => ?_)
    · have e9 : t = 8 := by omega
      subst e9
      rw [if_neg (by omega)] at hn
      subst hn
      repeat (with_reducible refine And.intro ?_ ?_; · first | omega | (simp only [z32, z64]; omega))
      refine h _ (zmd_w hm zincs_s) ⟨⟨fun i hi => ?_, fun j hj => ?_, ?_⟩, zGd_tr g1.2 hK⟩
      · rw [zA_wA]
        by_cases e : i = 8
        · rw [if_pos ⟨rfl, e⟩, e, zTS_b (by omega)]
        · rw [if_neg (fun q => e q.2)]; exact hs i (by omega)
      · rw [zTS_b (by omega)] at hj
        rw [zA_wA, if_neg (fun q => hcs q.1)]; exact hc j hj
      · rw [zTS_b (by omega)]; omega
    · have hsn : ∀ j : Nat, j ≤ t → zA (zwA G s0 t n) s0 j = zTS S1 j := by
        intro j hj
        rw [zA_wA]
        by_cases e : j = t
        · rw [if_pos ⟨rfl, e⟩, e, hn]
          by_cases e1 : t ≤ 1
          · rw [if_pos e1, zTS_a e1]; rfl
          · rw [if_neg e1, zTS_b (by omega)]
        · rw [if_neg (fun q => e q.2)]; exact hs j (by omega)
      have m81 := zGd_le g1.2 (i := t + 1) (k := 8) (by omega) (by omega)
      have mt := g1.2.2.1 t (by omega)
      have hcn : ∀ j : Nat, j < n → zA (zwA G s0 t n) c0 j = zTK S1 K1 j := fun j hj => by rw [zA_wA, if_neg (fun q => hcs q.1)]; exact hc j hj
      have go : ∀ (G' : zH) (b : Nat), b = (if t = 0 then 0 else 1) → zmd (zin [c0, s0] []) H0 G' → (∀ j : Nat, j < S1 t + b → zA G' c0 j = zTK S1 K1 j) → (∀ j : Nat, j ≤ t → zA G' s0 j = zTS S1 j) → zEt xs L d b1 b2 false 71 40 [some (zr (some p0)), some (zr (some p1)), some (zi (S1 t + b : Nat)), some (zi t), some (zi (S1 t : Nat))] [] G' Q := by
        intro G' b hb hm' hc' hs'
        refine zl_stA (t := t) (b := b) o0 o1 hcs x1 y1 hn1 g1 hK (by omega) hb (fun G2 hm2 hc2 hs2 => ?_) _ (S1 t) G' rfl ⟨by omega, by omega⟩ hm' hc' hs'
        refine zgo_at [4] 4 ?_
        try simp -implicitDefEqProofs only [zgn_0, zgn_s, zct_0, zct_s, Nat.reduceEqDiff, Nat.reduceBEq, Nat.reduceAdd, Nat.reduceSub, Nat.reduceMul, Int.reduceAdd, Int.reduceSub, Int.reduceMul, Int.reduceNeg, Int.reduceLT, Int.reduceLE, Int.reduceEq, Nat.zero_add, true_and, and_true, false_and, and_false, true_imp_iff, false_imp_iff, not_true_eq_false, not_false_eq_true, if_true, if_false, Bool.false_eq_true, ite_true, ite_false, reduceIte, eq_self, Int.toNat_natCast, zst_0, zst_1, zst_2, zst_3, zst_4, true_or, or_true, or_false, false_or, ze_71_0, zB_71_0, ze_71_4, zB_71_4, ze_71_32, zB_71_32, ze_71_40, zB_71_40, ze_71_86, zB_71_86, ze_71_92, zB_71_92, zbr_t, zbr_f, zrun_c, zmI_s, zmL_s, zmR_s, zgt_0, zgt_s, zln_0, zln_s, zs1_0, zs1_1i, zs1_1r, zs1_1n, zs1_1l, zs1_s, zs2_0, zs2_1i, zs2_1r, zs2_1n, zs2_1l, zs2_s, zcn_eq, zcn_ne, zcn_lt, zcn_ge, zcn_gt, zcn_le, zpu_0, zpu_1, zpu_2, zx_iconst, zx_lconst, zx_ldc, zx_ldc2, zx_null, zx_iload, zx_lload, zx_aload, zx_istore, zx_lstore, zx_astore, zx_iinc, zx_iadd, zx_isub, zx_imul, zx_idiv, zx_irem, zx_iand, zx_ior, zx_ixor, zx_ishl, zx_ishr, zx_iushr, zx_i2b, zx_i2l, zx_l2i, zx_ladd, zx_lmul, zx_ldiv, zx_lrem, zx_land, zx_lor, zx_lshl, zx_lshr, zx_lcmp, zx_dupi, zx_dupr, zx_dup2l, zx_dup2i, zx_pop, zx_ifc, zx_icmp, zx_ifnullN, zx_ifnullS, zx_ifnonN, zx_ifnonS, zx_goto, zx_gotow, zx_switch, zx_iaload, zx_baload, zx_laload, zx_aaload, zx_iastore, zx_bastore, zx_lastore, zx_aastore, zx_alen, zx_newarray, zx_anewarray, zx_new, zx_getI, zx_getL, zx_getR, zx_putI, zx_putZ, zx_putL, zx_putR, zx_callS, zx_callV, zx_objinit, zx_cpyi, zx_cpyl, zx_mmax, zx_mmin, zx_mminl, zx_ireturn, zx_areturn, zx_lreturn, zx_return, zcs_0, zcs_1, zcv_1, zcs_2, zcv_2, zcs_3, zcv_3, zcs_4, zcv_4, zcs_5, zcv_5, zcs_6, zcv_6, zcs_7, zcv_7, Int.reduceToNat, Nat.reduceDiv, Nat.reduceMod, zJ, zC, zK_wA, zN_wA, zR_wA, zS_wA, zA_wA, zK_wR, zN_wR, zR_wR, zS_wR, zA_wR, zK_cp, zN_cp, zR_cp, zS_cp, zA_cp, zK_mp, zN_mp, zR_mp, zS_mp, zA_mp, zfa, zfmm, zfa_1, zfb_1, zfa_2, zfb_2, zfa_3, zfb_3, zfa_4, zfb_4, zfa_5, zfb_5, zfa_6, zfb_6, zfa_7, zfb_7, zfa_8, zfb_8, zfa_9, zfb_9, zfa_10, zfb_10, zfa_12, zfb_12, zfa_20, zfb_20, zfa_21, zfb_21, zfa_30, zfb_30, zfa_48, zfb_48, zfa_60, zfb_60, zfa_61, zfb_61, zfa_65, zfb_65, zfa_97, zfb_97, zfa_100, zfb_100, zfa_120, zfb_120, zfa_124, zfb_124, zfa_500, zfb_500, zfa_792, zfb_792, zfa_2989, zfb_2989, zfm_2, zfn_2, zfm_3, zfn_3, zfm_4, zfn_4, zfm_6, zfn_6, zfm_7, zfn_7, zfm_8, zfn_8, zfm_12, zfn_12, zfm_49, zfn_49, zfm_60, zfn_60, zfm_61, zfn_61, zfm_792, zfn_792, zfm_2989, zfn_2989, Int.zero_add, Int.add_zero, Int.zero_mul, Int.mul_zero, Int.one_mul, Int.mul_one]
        repeat (with_reducible refine And.intro ?_ ?_; · first | omega | (simp only [z32, z64]; omega))
        refine ih _ (by omega) (t + 1) (S1 (t + 1) + b) G2 _ rfl (by omega) ?_ hm2 hc2 (fun j hj => hs2 j (by omega))
        rw [hb]
        by_cases e : t = 0
        · rw [if_pos e, if_pos (by omega)]
        · rw [if_neg e, if_neg (by omega)]
      have hm1 : zmd (zin [c0, s0] []) H0 (zwA G s0 t n) := zmd_w hm zincs_s
      have e32 : zA (zwA G s0 t n) s1 t = S1 t := by rw [hm1.2.2.2 s1 t (zincs.mpr y1)]; exact g1.1.1 t (by omega)
      repeat (with_reducible refine And.intro ?_ ?_; · first | omega | (simp only [z32, z64]; omega))
      refine zbr_i (fun q1 => ?_) (fun q1 => ?_)
      · refine zgo_at [40] 4 ?_
        try simp -implicitDefEqProofs only [zgn_0, zgn_s, zct_0, zct_s, Nat.reduceEqDiff, Nat.reduceBEq, Nat.reduceAdd, Nat.reduceSub, Nat.reduceMul, Int.reduceAdd, Int.reduceSub, Int.reduceMul, Int.reduceNeg, Int.reduceLT, Int.reduceLE, Int.reduceEq, Nat.zero_add, true_and, and_true, false_and, and_false, true_imp_iff, false_imp_iff, not_true_eq_false, not_false_eq_true, if_true, if_false, Bool.false_eq_true, ite_true, ite_false, reduceIte, eq_self, Int.toNat_natCast, zst_0, zst_1, zst_2, zst_3, zst_4, true_or, or_true, or_false, false_or, ze_71_0, zB_71_0, ze_71_4, zB_71_4, ze_71_32, zB_71_32, ze_71_40, zB_71_40, ze_71_86, zB_71_86, ze_71_92, zB_71_92, zbr_t, zbr_f, zrun_c, zmI_s, zmL_s, zmR_s, zgt_0, zgt_s, zln_0, zln_s, zs1_0, zs1_1i, zs1_1r, zs1_1n, zs1_1l, zs1_s, zs2_0, zs2_1i, zs2_1r, zs2_1n, zs2_1l, zs2_s, zcn_eq, zcn_ne, zcn_lt, zcn_ge, zcn_gt, zcn_le, zpu_0, zpu_1, zpu_2, zx_iconst, zx_lconst, zx_ldc, zx_ldc2, zx_null, zx_iload, zx_lload, zx_aload, zx_istore, zx_lstore, zx_astore, zx_iinc, zx_iadd, zx_isub, zx_imul, zx_idiv, zx_irem, zx_iand, zx_ior, zx_ixor, zx_ishl, zx_ishr, zx_iushr, zx_i2b, zx_i2l, zx_l2i, zx_ladd, zx_lmul, zx_ldiv, zx_lrem, zx_land, zx_lor, zx_lshl, zx_lshr, zx_lcmp, zx_dupi, zx_dupr, zx_dup2l, zx_dup2i, zx_pop, zx_ifc, zx_icmp, zx_ifnullN, zx_ifnullS, zx_ifnonN, zx_ifnonS, zx_goto, zx_gotow, zx_switch, zx_iaload, zx_baload, zx_laload, zx_aaload, zx_iastore, zx_bastore, zx_lastore, zx_aastore, zx_alen, zx_newarray, zx_anewarray, zx_new, zx_getI, zx_getL, zx_getR, zx_putI, zx_putZ, zx_putL, zx_putR, zx_callS, zx_callV, zx_objinit, zx_cpyi, zx_cpyl, zx_mmax, zx_mmin, zx_mminl, zx_ireturn, zx_areturn, zx_lreturn, zx_return, zcs_0, zcs_1, zcv_1, zcs_2, zcv_2, zcs_3, zcv_3, zcs_4, zcv_4, zcs_5, zcv_5, zcs_6, zcv_6, zcs_7, zcv_7, Int.reduceToNat, Nat.reduceDiv, Nat.reduceMod, zJ, zC, zK_wA, zN_wA, zR_wA, zS_wA, zA_wA, zK_wR, zN_wR, zR_wR, zS_wR, zA_wR, zK_cp, zN_cp, zR_cp, zS_cp, zA_cp, zK_mp, zN_mp, zR_mp, zS_mp, zA_mp, zfa, zfmm, zfa_1, zfb_1, zfa_2, zfb_2, zfa_3, zfb_3, zfa_4, zfb_4, zfa_5, zfb_5, zfa_6, zfb_6, zfa_7, zfb_7, zfa_8, zfb_8, zfa_9, zfb_9, zfa_10, zfb_10, zfa_12, zfb_12, zfa_20, zfb_20, zfa_21, zfb_21, zfa_30, zfb_30, zfa_48, zfb_48, zfa_60, zfb_60, zfa_61, zfb_61, zfa_65, zfb_65, zfa_97, zfb_97, zfa_100, zfb_100, zfa_120, zfb_120, zfa_124, zfb_124, zfa_500, zfb_500, zfa_792, zfb_792, zfa_2989, zfb_2989, zfm_2, zfn_2, zfm_3, zfn_3, zfm_4, zfn_4, zfm_6, zfn_6, zfm_7, zfn_7, zfm_8, zfn_8, zfm_12, zfn_12, zfm_49, zfn_49, zfm_60, zfn_60, zfm_61, zfn_61, zfm_792, zfn_792, zfm_2989, zfn_2989, Int.zero_add, Int.add_zero, Int.zero_mul, Int.mul_zero, Int.one_mul, Int.mul_one, q01, q02, q03, q04, q05, q06, q07, q11, q12, q13, q14, q15, q16, q17, e32]
        repeat (with_reducible refine And.intro ?_ ?_; · first | omega | (simp only [z32, z64]; omega))
        by_cases e : t = 0
        · subst e
          have en : n = S1 0 + 0 := by rw [hn]; rfl
          rw [en] at hcn hsn hm1
          subst en
          exact go _ 0 rfl hm1 hcn hsn
        · have en : n = S1 t + 1 := by rw [hn, if_neg (by omega)]
          subst en
          exact go _ 1 (by rw [if_neg e]) hm1 hcn hsn
      · have et : t = 1 := by omega
        subst et
        have en : n = S1 1 := by rw [hn, if_pos (by omega), Nat.add_zero]
        subst en
        repeat (with_reducible refine And.intro ?_ ?_; · first | omega | (simp only [z32, z64]; omega))
        refine zgo_at [40] 4 ?_
        have hm2 : zmd (zin [c0, s0] []) H0 (zwA (zwA G s0 1 (S1 1 : Nat)) c0 (S1 1) 1) := zmd_w hm1 zincs_c
        have e33 : zA (zwA (zwA G s0 1 (S1 1 : Nat)) c0 (S1 1) 1) s1 1 = S1 1 := by rw [hm2.2.2.2 s1 1 (zincs.mpr y1)]; exact g1.1.1 1 (by omega)
        try simp -implicitDefEqProofs only [zgn_0, zgn_s, zct_0, zct_s, Nat.reduceEqDiff, Nat.reduceBEq, Nat.reduceAdd, Nat.reduceSub, Nat.reduceMul, Int.reduceAdd, Int.reduceSub, Int.reduceMul, Int.reduceNeg, Int.reduceLT, Int.reduceLE, Int.reduceEq, Nat.zero_add, true_and, and_true, false_and, and_false, true_imp_iff, false_imp_iff, not_true_eq_false, not_false_eq_true, if_true, if_false, Bool.false_eq_true, ite_true, ite_false, reduceIte, eq_self, Int.toNat_natCast, zst_0, zst_1, zst_2, zst_3, zst_4, true_or, or_true, or_false, false_or, ze_71_0, zB_71_0, ze_71_4, zB_71_4, ze_71_32, zB_71_32, ze_71_40, zB_71_40, ze_71_86, zB_71_86, ze_71_92, zB_71_92, zbr_t, zbr_f, zrun_c, zmI_s, zmL_s, zmR_s, zgt_0, zgt_s, zln_0, zln_s, zs1_0, zs1_1i, zs1_1r, zs1_1n, zs1_1l, zs1_s, zs2_0, zs2_1i, zs2_1r, zs2_1n, zs2_1l, zs2_s, zcn_eq, zcn_ne, zcn_lt, zcn_ge, zcn_gt, zcn_le, zpu_0, zpu_1, zpu_2, zx_iconst, zx_lconst, zx_ldc, zx_ldc2, zx_null, zx_iload, zx_lload, zx_aload, zx_istore, zx_lstore, zx_astore, zx_iinc, zx_iadd, zx_isub, zx_imul, zx_idiv, zx_irem, zx_iand, zx_ior, zx_ixor, zx_ishl, zx_ishr, zx_iushr, zx_i2b, zx_i2l, zx_l2i, zx_ladd, zx_lmul, zx_ldiv, zx_lrem, zx_land, zx_lor, zx_lshl, zx_lshr, zx_lcmp, zx_dupi, zx_dupr, zx_dup2l, zx_dup2i, zx_pop, zx_ifc, zx_icmp, zx_ifnullN, zx_ifnullS, zx_ifnonN, zx_ifnonS, zx_goto, zx_gotow, zx_switch, zx_iaload, zx_baload, zx_laload, zx_aaload, zx_iastore, zx_bastore, zx_lastore, zx_aastore, zx_alen, zx_newarray, zx_anewarray, zx_new, zx_getI, zx_getL, zx_getR, zx_putI, zx_putZ, zx_putL, zx_putR, zx_callS, zx_callV, zx_objinit, zx_cpyi, zx_cpyl, zx_mmax, zx_mmin, zx_mminl, zx_ireturn, zx_areturn, zx_lreturn, zx_return, zcs_0, zcs_1, zcv_1, zcs_2, zcv_2, zcs_3, zcv_3, zcs_4, zcv_4, zcs_5, zcv_5, zcs_6, zcv_6, zcs_7, zcv_7, Int.reduceToNat, Nat.reduceDiv, Nat.reduceMod, zJ, zC, zK_wA, zN_wA, zR_wA, zS_wA, zK_wR, zN_wR, zR_wR, zS_wR, zA_wR, zK_cp, zN_cp, zR_cp, zS_cp, zA_cp, zK_mp, zN_mp, zR_mp, zS_mp, zA_mp, zfa, zfmm, zfa_1, zfb_1, zfa_2, zfb_2, zfa_3, zfb_3, zfa_4, zfb_4, zfa_5, zfb_5, zfa_6, zfb_6, zfa_7, zfb_7, zfa_8, zfb_8, zfa_9, zfb_9, zfa_10, zfb_10, zfa_12, zfb_12, zfa_20, zfb_20, zfa_21, zfb_21, zfa_30, zfb_30, zfa_48, zfb_48, zfa_60, zfb_60, zfa_61, zfb_61, zfa_65, zfb_65, zfa_97, zfb_97, zfa_100, zfb_100, zfa_120, zfb_120, zfa_124, zfb_124, zfa_500, zfb_500, zfa_792, zfb_792, zfa_2989, zfb_2989, zfm_2, zfn_2, zfm_3, zfn_3, zfm_4, zfn_4, zfm_6, zfn_6, zfm_7, zfn_7, zfm_8, zfn_8, zfm_12, zfn_12, zfm_49, zfn_49, zfm_60, zfn_60, zfm_61, zfn_61, zfm_792, zfn_792, zfm_2989, zfn_2989, Int.zero_add, Int.add_zero, Int.zero_mul, Int.mul_zero, Int.one_mul, Int.mul_one, q01, q02, q03, q04, q05, q06, q07, q11, q12, q13, q14, q15, q16, q17]
        rw [e33]
        repeat (with_reducible refine And.intro ?_ ?_; · first | omega | (simp only [z32, z64]; omega))
        refine go _ 1 (by rw [if_neg (by omega)]) hm2 (fun j hj => ?_) (fun j hj => ?_)
        · rw [zA_wA]
          by_cases e : j = S1 1
          · rw [if_pos ⟨rfl, e⟩, e, zTK_b]; rfl
          · rw [if_neg (fun q => e q.2)]; exact hcn j (by omega)
        · rw [zA_wA, if_neg (fun q => hcs q.1.symm)]; exact hsn j hj
set_option maxRecDepth 100000 in
theorem zc_setTree {xs : Nat → Int} {L d b1 b2 : Nat} {H0 : zH} {Q : zQ} {p0 c0 s0 p1 c1 s1 n1 : Nat} {S1 K1 : Nat → Nat} {A1 : Nat → Prop} (o0 : zSO H0 p0 c0 s0 331) (o1 : zSO H0 p1 c1 s1 n1) (hcs : c0 ≠ s0) (x1 : c1 ≠ c0 ∧ c1 ≠ s0) (y1 : s1 ≠ c0 ∧ s1 ≠ s0) (hn1 : n1 ≤ 792) (g1 : zSh H0 c1 s1 n1 S1 K1 A1) (hK : ∀ j : Nat, j < S1 8 → K1 j < 4096) (h : ∀ (G : zH), zmd (zin [c0, s0] []) H0 G → zSh G c0 s0 331 (zTS S1) (zTK S1 K1) (fun x => x = 1 ∨ ∃ s : Nat, A1 s ∧ x = 8 * s) → Q 0 G) : zEm xs L d b1 b2 71 [zr (some p0), zr (some p1)] H0 Q := by
  refine zem_71 (zgo_at [4] 4 ?_)
  try simp -implicitDefEqProofs only [zgn_0, zgn_s, zct_0, zct_s, Nat.reduceEqDiff, Nat.reduceBEq, Nat.reduceAdd, Nat.reduceSub, Nat.reduceMul, Int.reduceAdd, Int.reduceSub, Int.reduceMul, Int.reduceNeg, Int.reduceLT, Int.reduceLE, Int.reduceEq, Nat.zero_add, true_and, and_true, false_and, and_false, true_imp_iff, false_imp_iff, not_true_eq_false, not_false_eq_true, if_true, if_false, Bool.false_eq_true, ite_true, ite_false, reduceIte, eq_self, Int.toNat_natCast, zst_0, zst_1, zst_2, zst_3, zst_4, true_or, or_true, or_false, false_or, ze_71_0, zB_71_0, ze_71_4, zB_71_4, ze_71_32, zB_71_32, ze_71_40, zB_71_40, ze_71_86, zB_71_86, ze_71_92, zB_71_92, zbr_t, zbr_f, zrun_c, zmI_s, zmL_s, zmR_s, zgt_0, zgt_s, zln_0, zln_s, zs1_0, zs1_1i, zs1_1r, zs1_1n, zs1_1l, zs1_s, zs2_0, zs2_1i, zs2_1r, zs2_1n, zs2_1l, zs2_s, zcn_eq, zcn_ne, zcn_lt, zcn_ge, zcn_gt, zcn_le, zpu_0, zpu_1, zpu_2, zx_iconst, zx_lconst, zx_ldc, zx_ldc2, zx_null, zx_iload, zx_lload, zx_aload, zx_istore, zx_lstore, zx_astore, zx_iinc, zx_iadd, zx_isub, zx_imul, zx_idiv, zx_irem, zx_iand, zx_ior, zx_ixor, zx_ishl, zx_ishr, zx_iushr, zx_i2b, zx_i2l, zx_l2i, zx_ladd, zx_lmul, zx_ldiv, zx_lrem, zx_land, zx_lor, zx_lshl, zx_lshr, zx_lcmp, zx_dupi, zx_dupr, zx_dup2l, zx_dup2i, zx_pop, zx_ifc, zx_icmp, zx_ifnullN, zx_ifnullS, zx_ifnonN, zx_ifnonS, zx_goto, zx_gotow, zx_switch, zx_iaload, zx_baload, zx_laload, zx_aaload, zx_iastore, zx_bastore, zx_lastore, zx_aastore, zx_alen, zx_newarray, zx_anewarray, zx_new, zx_getI, zx_getL, zx_getR, zx_putI, zx_putZ, zx_putL, zx_putR, zx_callS, zx_callV, zx_objinit, zx_cpyi, zx_cpyl, zx_mmax, zx_mmin, zx_mminl, zx_ireturn, zx_areturn, zx_lreturn, zx_return, zcs_0, zcs_1, zcv_1, zcs_2, zcv_2, zcs_3, zcv_3, zcs_4, zcv_4, zcs_5, zcv_5, zcs_6, zcv_6, zcs_7, zcv_7, Int.reduceToNat, Nat.reduceDiv, Nat.reduceMod, zJ, zC, zK_wA, zN_wA, zR_wA, zS_wA, zA_wA, zK_wR, zN_wR, zR_wR, zS_wR, zA_wR, zK_cp, zN_cp, zR_cp, zS_cp, zA_cp, zK_mp, zN_mp, zR_mp, zS_mp, zA_mp, zfa, zfmm, zfa_1, zfb_1, zfa_2, zfb_2, zfa_3, zfb_3, zfa_4, zfb_4, zfa_5, zfb_5, zfa_6, zfb_6, zfa_7, zfb_7, zfa_8, zfb_8, zfa_9, zfb_9, zfa_10, zfb_10, zfa_12, zfb_12, zfa_20, zfb_20, zfa_21, zfb_21, zfa_30, zfb_30, zfa_48, zfb_48, zfa_60, zfb_60, zfa_61, zfb_61, zfa_65, zfb_65, zfa_97, zfb_97, zfa_100, zfb_100, zfa_120, zfb_120, zfa_124, zfb_124, zfa_500, zfb_500, zfa_792, zfb_792, zfa_2989, zfb_2989, zfm_2, zfn_2, zfm_3, zfn_3, zfm_4, zfn_4, zfm_6, zfn_6, zfm_7, zfn_7, zfm_8, zfn_8, zfm_12, zfn_12, zfm_49, zfn_49, zfm_60, zfn_60, zfm_61, zfn_61, zfm_792, zfn_792, zfm_2989, zfn_2989, Int.zero_add, Int.add_zero, Int.zero_mul, Int.mul_zero, Int.one_mul, Int.mul_one]
  exact zl_stB o0 o1 hcs x1 y1 hn1 g1 hK h _ 0 0 H0 _ rfl (by omega) (by rw [g1.2.1]; rfl) (zmd_rf _ _) (fun j hj => by omega) (fun j hj => by omega)
set_option maxRecDepth 100000 in
theorem zc_setLike {xs : Nat → Int} {L d b1 b2 : Nat} {H0 : zH} {Q : zQ} {p0 c0 s0 p1 c1 s1 n1 : Nat} {S1 K1 : Nat → Nat} {A1 : Nat → Prop} (o0 : zSO H0 p0 c0 s0 331) (o1 : zSO H0 p1 c1 s1 331) (hcs : c0 ≠ s0) (x1 : c1 ≠ c0 ∧ c1 ≠ s0) (y1 : s1 ≠ c0 ∧ s1 ≠ s0) (g1 : zSh H0 c1 s1 331 S1 K1 A1) (h : ∀ (G : zH), zmd (zin [c0, s0] []) H0 G → zSh G c0 s0 331 S1 K1 A1 → Q 0 G) : zEm xs L d b1 b2 67 [zr (some p0), zr (some p1)] H0 Q := by
  obtain ⟨q01, q02, q03, q04, q05, q06, q07⟩ := o0
  obtain ⟨q11, q12, q13, q14, q15, q16, q17⟩ := o1
  have u1 := g1.1.2.2
  have e8 : zA H0 s1 8 = S1 8 := g1.1.1 8 (by omega)
  refine zem_67 (zgo_at [] 4 ?_)
  try simp -implicitDefEqProofs only [zgn_0, zgn_s, zct_0, zct_s, Nat.reduceEqDiff, Nat.reduceBEq, Nat.reduceAdd, Nat.reduceSub, Nat.reduceMul, Int.reduceAdd, Int.reduceSub, Int.reduceMul, Int.reduceNeg, Int.reduceLT, Int.reduceLE, Int.reduceEq, Nat.zero_add, true_and, and_true, false_and, and_false, true_imp_iff, false_imp_iff, not_true_eq_false, not_false_eq_true, if_true, if_false, Bool.false_eq_true, ite_true, ite_false, reduceIte, eq_self, Int.toNat_natCast, zst_0, zst_1, zst_2, zst_3, zst_4, true_or, or_true, or_false, false_or, ze_67_0, zB_67_0, zbr_t, zbr_f, zrun_c, zmI_s, zmL_s, zmR_s, zgt_0, zgt_s, zln_0, zln_s, zs1_0, zs1_1i, zs1_1r, zs1_1n, zs1_1l, zs1_s, zs2_0, zs2_1i, zs2_1r, zs2_1n, zs2_1l, zs2_s, zcn_eq, zcn_ne, zcn_lt, zcn_ge, zcn_gt, zcn_le, zpu_0, zpu_1, zpu_2, zx_iconst, zx_lconst, zx_ldc, zx_ldc2, zx_null, zx_iload, zx_lload, zx_aload, zx_istore, zx_lstore, zx_astore, zx_iinc, zx_iadd, zx_isub, zx_imul, zx_idiv, zx_irem, zx_iand, zx_ior, zx_ixor, zx_ishl, zx_ishr, zx_iushr, zx_i2b, zx_i2l, zx_l2i, zx_ladd, zx_lmul, zx_ldiv, zx_lrem, zx_land, zx_lor, zx_lshl, zx_lshr, zx_lcmp, zx_dupi, zx_dupr, zx_dup2l, zx_dup2i, zx_pop, zx_ifc, zx_icmp, zx_ifnullN, zx_ifnullS, zx_ifnonN, zx_ifnonS, zx_goto, zx_gotow, zx_switch, zx_iaload, zx_baload, zx_laload, zx_aaload, zx_iastore, zx_bastore, zx_lastore, zx_aastore, zx_alen, zx_newarray, zx_anewarray, zx_new, zx_getI, zx_getL, zx_getR, zx_putI, zx_putZ, zx_putL, zx_putR, zx_callS, zx_callV, zx_objinit, zx_cpyi, zx_cpyl, zx_mmax, zx_mmin, zx_mminl, zx_ireturn, zx_areturn, zx_lreturn, zx_return, zcs_0, zcs_1, zcv_1, zcs_2, zcv_2, zcs_3, zcv_3, zcs_4, zcv_4, zcs_5, zcv_5, zcs_6, zcv_6, zcs_7, zcv_7, Int.reduceToNat, Nat.reduceDiv, Nat.reduceMod, zJ, zC, zK_wA, zN_wA, zR_wA, zS_wA, zA_wA, zK_wR, zN_wR, zR_wR, zS_wR, zA_wR, zK_cp, zN_cp, zR_cp, zS_cp, zA_cp, zK_mp, zN_mp, zR_mp, zS_mp, zA_mp, zfa, zfmm, zfa_1, zfb_1, zfa_2, zfb_2, zfa_3, zfb_3, zfa_4, zfb_4, zfa_5, zfb_5, zfa_6, zfb_6, zfa_7, zfb_7, zfa_8, zfb_8, zfa_9, zfb_9, zfa_10, zfb_10, zfa_12, zfb_12, zfa_20, zfb_20, zfa_21, zfb_21, zfa_30, zfb_30, zfa_48, zfb_48, zfa_60, zfb_60, zfa_61, zfb_61, zfa_65, zfb_65, zfa_97, zfb_97, zfa_100, zfb_100, zfa_120, zfb_120, zfa_124, zfb_124, zfa_500, zfb_500, zfa_792, zfb_792, zfa_2989, zfb_2989, zfm_2, zfn_2, zfm_3, zfn_3, zfm_4, zfn_4, zfm_6, zfn_6, zfm_7, zfn_7, zfm_8, zfn_8, zfm_12, zfn_12, zfm_49, zfn_49, zfm_60, zfn_60, zfm_61, zfn_61, zfm_792, zfn_792, zfm_2989, zfn_2989, Int.zero_add, Int.add_zero, Int.zero_mul, Int.mul_zero, Int.one_mul, Int.mul_one, q01, q02, q03, q04, q05, q06, q07, q11, q12, q13, q14, q15, q16, q17, e8]
  rw [if_neg (by omega)]
  repeat (with_reducible refine And.intro ?_ ?_; · first | omega | (simp only [z32, z64]; omega))
  simp only [zx_return, Int.toNat_natCast]
  refine h _ (zmd_cp (zmd_cp (zmd_rf _ _) (fun _ => zincs_c)) (fun _ => zincs_s)) ⟨⟨fun i hi => ?_, fun j hj => ?_, u1⟩, g1.2⟩
  · rw [zA_cp, if_pos ⟨rfl, by omega, by omega⟩, Nat.zero_add, Nat.sub_zero, zA_cp, if_neg (fun q => y1.1 q.1)]
    exact g1.1.1 i hi
  · rw [zA_cp, if_neg (fun q => hcs q.1), zA_cp, if_pos ⟨rfl, by omega, by omega⟩, Nat.zero_add, Nat.sub_zero]
    exact g1.1.2.1 j hj
