/-- what the reference's reading may change -/
def zS2 (a j : Nat) : Bool := (decide (a = 149 ∨ a = 150 ∨ a = 151 ∨ a = 153) && decide (120 ≤ j)) || (decide (a = 152) && decide (1440 ≤ j)) || (decide (a = 154 ∨ a = 155) && decide (400 ≤ j)) || (decide (a = 106) && decide (66 ≤ j ∧ j ≤ 71))
/-- and where it fails -/
def zSf (a j : Nat) : Bool := zS2 a j || decide (a = 106 ∧ (j = 73 ∨ j = 74))
theorem zSf_m {G G' : zH} (h : zmd zS2 G G') : zmd zSf G G' := zmd_mono h (fun a j h => (Bool.or_eq_false_iff.mp h).1)
/-- the reference stands at a token -/
def zSt (G : zH) (n : Nat) (t : Nat → Int) (a it l : Nat) : Prop := zLay G ∧ zTx G n t ∧ a ≤ n ∧ (a < n → ¬ (t a = 32 ∨ t a = 10)) ∧ zA G 106 70 = a ∧ zA G 106 68 = zso t n a ∧ zA G 106 71 = (zen t n a : Nat) ∧ (zso t n a = 1 → zA G 106 69 = t a - 65) ∧ zA G 106 66 = it ∧ zA G 106 67 = l
theorem zen_b {t : Nat → Int} {n a : Nat} (h : a < n) : a < zen t n a ∧ zen t n a ≤ n := by
  unfold zen
  rw [if_neg (by omega)]
  by_cases q : 97 ≤ t a ∧ t a ≤ 122
  · rw [if_pos q]
    exact zwe_b94 h q
  · rw [if_neg q]
    omega
theorem zwe_l {t : Nat → Int} {n a j : Nat} (h : a + j < zwe t n a) : zltr (t (a + j)) := by
  obtain ⟨a1, a2, a3⟩ := zfi_p (P := fun j => ¬ zltr (t (a + j))) (n - a)
  unfold zwe at h
  exact Classical.not_not.mp (a2 j (by omega))
/-- what one item's first part may change -/
def zLk (it c : Nat) (b : Int) (a j : Nat) : Bool := decide ((a = 106 ∧ j = 66) ∨ ((a = 149 ∨ a = 150 ∨ a = 151 ∨ a = 153) ∧ j = 120 + it) ∨ (a = 152 ∧ 12 * (120 + it) ≤ j ∧ j < 12 * (120 + it) + 12) ∨ (b = -1 ∧ a = 154 ∧ j = 400 + c) ∨ (b ≠ -1 ∧ a = 151 ∧ (j : Int) = 120 + b))
set_option maxRecDepth 100000 in
theorem zl_riA {xs : Nat → Int} {L d b1 b2 : Nat} {H0 : zH} {Q : zQ} {nm dp c b : Int} {n a it s : Nat} {t : Nat → Int} (hL0 : zLay H0) (hT : zTx H0 n t) (hit : it < 120) (ha : zA H0 106 70 = a) (hs : zA H0 153 (120 + it) = s) (hs2 : s ≤ 12) (has : a + s ≤ n) (h : zEt xs L d b1 b2 false 286 232 [some (zr (some 106)), some (zi nm), some (zi dp), some (zi c), some (zi b), some (zi (120 + it : Nat)), some (zi s)] [] (zMW H0 152 (12 * (120 + it)) s (fun j => zsb (t (a + j)))) Q) : ∀ (kk : Nat) (j : Nat), s - j = kk → (j ≤ s) → zEt xs L d b1 b2 false 286 189 [some (zr (some 106)), some (zi nm), some (zi dp), some (zi c), some (zi b), some (zi (120 + it : Nat)), some (zi j)] [] (zMW H0 152 (12 * (120 + it)) j (fun j => zsb (t (a + j)))) Q := by
  intro kk
  induction kk using Nat.strongRecOn with
  | ind kk ih =>
    intro j hkk hj
    refine zgo_at [189, 232] 8 ?_
    try simp -implicitDefEqProofs only [zgn_0, zgn_s, zct_0, zct_s, Nat.reduceEqDiff, Nat.reduceBEq, Nat.reduceAdd, Nat.reduceSub, Nat.reduceMul, Int.reduceAdd, Int.reduceSub, Int.reduceMul, Int.reduceNeg, Int.reduceLT, Int.reduceLE, Int.reduceEq, Nat.zero_add, true_and, and_true, false_and, and_false, true_imp_iff, false_imp_iff, not_true_eq_false, not_false_eq_true, if_true, if_false, Bool.false_eq_true, ite_true, ite_false, reduceIte, eq_self, Int.toNat_natCast, zst_0, zst_1, zst_2, zst_3, zst_4, true_or, or_true, or_false, false_or, ze_286_0, zB_286_0, ze_286_22, zB_286_22, ze_286_45, zB_286_45, ze_286_51, zB_286_51, ze_286_83, zB_286_83, ze_286_97, zB_286_97, ze_286_133, zB_286_133, ze_286_145, zB_286_145, ze_286_146, zB_286_146, ze_286_184, zB_286_184, ze_286_185, zB_286_185, ze_286_189, zB_286_189, ze_286_232, zB_286_232, ze_286_245, zB_286_245, ze_286_246, zB_286_246, ze_286_259, zB_286_259, ze_286_283, zB_286_283, ze_286_298, zB_286_298, zbr_t, zbr_f, zrun_c, zmI_s, zmL_s, zmR_s, zgt_0, zgt_s, zln_0, zln_s, zs1_0, zs1_1i, zs1_1r, zs1_1n, zs1_1l, zs1_s, zs2_0, zs2_1i, zs2_1r, zs2_1n, zs2_1l, zs2_s, zcn_eq, zcn_ne, zcn_lt, zcn_ge, zcn_gt, zcn_le, zpu_0, zpu_1, zpu_2, zx_iconst, zx_lconst, zx_ldc, zx_ldc2, zx_null, zx_iload, zx_lload, zx_aload, zx_istore, zx_lstore, zx_astore, zx_iinc, zx_iadd, zx_isub, zx_imul, zx_idiv, zx_irem, zx_iand, zx_ior, zx_ixor, zx_ishl, zx_ishr, zx_iushr, zx_i2b, zx_i2l, zx_l2i, zx_ladd, zx_lmul, zx_ldiv, zx_lrem, zx_land, zx_lor, zx_lshl, zx_lshr, zx_lcmp, zx_dupi, zx_dupr, zx_dup2l, zx_dup2i, zx_pop, zx_ifc, zx_icmp, zx_ifnullN, zx_ifnullS, zx_ifnonN, zx_ifnonS, zx_goto, zx_gotow, zx_switch, zx_iaload, zx_baload, zx_laload, zx_aaload, zx_iastore, zx_bastore, zx_lastore, zx_aastore, zx_alen, zx_newarray, zx_anewarray, zx_new, zx_getI, zx_getL, zx_getR, zx_putI, zx_putZ, zx_putL, zx_putR, zx_callS, zx_callV, zx_objinit, zx_cpyi, zx_cpyl, zx_mmax, zx_mmin, zx_mminl, zx_ireturn, zx_areturn, zx_lreturn, zx_return, zcs_0, zcs_1, zcv_1, zcs_2, zcv_2, zcs_3, zcv_3, zcs_4, zcv_4, zcs_5, zcv_5, zcs_6, zcv_6, zcs_7, zcv_7, Int.reduceToNat, Nat.reduceDiv, Nat.reduceMod, zJ, zC, zK_wA, zN_wA, zR_wA, zS_wA, zA_wA, zK_wR, zN_wR, zR_wR, zS_wR, zA_wR, zK_cp, zN_cp, zR_cp, zS_cp, zA_cp, zK_mp, zN_mp, zR_mp, zS_mp, zA_mp, zfa, zfmm, zfa_1, zfb_1, zfa_2, zfb_2, zfa_3, zfb_3, zfa_4, zfb_4, zfa_5, zfb_5, zfa_6, zfb_6, zfa_7, zfb_7, zfa_8, zfb_8, zfa_9, zfb_9, zfa_10, zfb_10, zfa_12, zfb_12, zfa_20, zfb_20, zfa_21, zfb_21, zfa_30, zfb_30, zfa_48, zfb_48, zfa_60, zfb_60, zfa_61, zfb_61, zfa_65, zfb_65, zfa_97, zfb_97, zfa_100, zfb_100, zfa_120, zfb_120, zfa_124, zfb_124, zfa_500, zfb_500, zfa_792, zfb_792, zfa_2989, zfb_2989, zfm_2, zfn_2, zfm_3, zfn_3, zfm_4, zfn_4, zfm_6, zfn_6, zfm_7, zfn_7, zfm_8, zfn_8, zfm_12, zfn_12, zfm_49, zfn_49, zfm_60, zfn_60, zfm_61, zfn_61, zfm_792, zfn_792, zfm_2989, zfn_2989, Int.zero_add, Int.add_zero, Int.zero_mul, Int.mul_zero, Int.one_mul, Int.mul_one, lk_106 hL0, lr_106_0 hL0, lk_107 hL0, ln_107 hL0, lr_106_60 hL0, lk_152 hL0, ln_152 hL0, lr_106_61 hL0, lk_153 hL0, ln_153 hL0, ha, hs]
    have h4 := hT.1
    repeat (with_reducible refine And.intro ?_ ?_; · first | omega | (simp only [z32, z64]; omega))
    refine zbr_i (fun q => ?_) (fun q => ?_)
    · have e9 : j = s := by omega
      subst e9
      exact h
    · have hb := hT.2.2 (a + j) (by omega)
      have hz : -128 ≤ zsb (t (a + j)) ∧ zsb (t (a + j)) ≤ 127 := by
        unfold zsb
        split <;> omega
      rw [hb.2]
      repeat (with_reducible refine And.intro ?_ ?_; · first | omega | (simp only [z32, z64]; omega))
      have e1 := zMW_s H0 152 (12 * (120 + it)) j (fun j => zsb (t (a + j)))
      rw [e1]
      exact ih _ (by omega) (j + 1) rfl (by omega)
set_option maxRecDepth 100000 in
theorem zc_riB {xs : Nat → Int} {L d b1 b2 : Nat} {H0 : zH} {Q : zQ} {nm dp b : Int} {n a it l c : Nat} {t : Nat → Int} {w6 w5 : Option zV} (hSt : zSt H0 n t a it l) (hit : it < 120) (hc : c < 400) (hb : b = -1 ∨ ∃ k : Nat, b = k ∧ k < 120) (han : a < n) (hso : zso t n a = 1 ∨ zso t n a = 2 ∨ zso t n a = 6) (h : ∀ G : zH, zmd (zLk it c b) H0 G → zA G 106 66 = (it + 1 : Nat) → zA G 149 (120 + it) = (if zso t n a = 2 then 0 else if zso t n a = 1 then 1 else 2) → zA G 150 (120 + it) = zA H0 106 69 → zA G 151 (120 + it) = -1 → zA G 153 (120 + it) = (if zso t n a = 2 then ((zwe t n a - a : Nat) : Int) else 0) → (zso t n a = 2 → ∀ j : Nat, j < zwe t n a - a → zA G 152 (12 * (120 + it) + j) = t (a + j)) → (b = -1 → zA G 154 (400 + c) = it) → (∀ k : Nat, b = k → k ≠ it → zA G 151 (120 + k) = it) → ∀ w6 : Int, zEt xs L d b1 b2 false 286 232 [some (zr (some 106)), some (zi nm), some (zi dp), some (zi (c : Nat)), some (zi b), some (zi (120 + it : Nat)), some (zi w6)] [] G Q) : zEt xs L d b1 b2 false 286 51 [some (zr (some 106)), some (zi nm), some (zi dp), some (zi (c : Nat)), some (zi b), w5, w6] [] H0 Q := by
  obtain ⟨hL0, hT, h1, h2, h3, h4, h5, h6, h7, h8⟩ := hSt
  have h400 := hT.1
  have core : ∀ (ak jk : Nat) (kd : Int) (s : Nat), (b = -1 ∧ ak = 154 ∧ jk = 400 + c) ∨ (∃ k : Nat, b = k ∧ k < 120 ∧ ak = 151 ∧ jk = 120 + k) → kd = (if zso t n a = 2 then 0 else if zso t n a = 1 then 1 else 2) → s = (if zso t n a = 2 then zwe t n a - a else 0) → zEt xs L d b1 b2 false 286 189 [some (zr (some 106)), some (zi nm), some (zi dp), some (zi (c : Nat)), some (zi b), some (zi (120 + it : Nat)), some (zi (0 : Nat))] [] (zwA (zwA (zwA (zwA (zwA (zwA H0 ak jk (it : Nat)) 106 66 (it + 1 : Nat)) 151 (120 + it) (-1)) 149 (120 + it) kd) 150 (120 + it) (zA H0 106 69)) 153 (120 + it) (s : Nat)) Q := by
    intro ak jk kd s hlk hkd hs
    have hs12 : s ≤ 12 ∧ a + s ≤ n := by
      rw [hs]
      by_cases q : zso t n a = 2
      · rw [if_pos q]
        have := (zso_i (t := t) (n := n) (a := a)).2.2.1.mp q
        have h9 := zwe_b94 (n := n) han this.2.1
        omega
      · rw [if_neg q]; omega
    have hfr : ∀ (ak' jk' : Nat), ak' = ak → jk' = jk → zLk it c b ak' jk' = true := by
      intro x y e1 e2
      unfold zLk
      rcases hlk with ⟨q1, q2, q3⟩ | ⟨k, q1, _, q2, q3⟩
      · exact decide_eq_true (by omega)
      · exact decide_eq_true (by omega)
    have mf : zmd (zLk it c b) H0 (zwA (zwA (zwA (zwA (zwA (zwA H0 ak jk (it : Nat)) 106 66 (it + 1 : Nat)) 151 (120 + it) (-1)) 149 (120 + it) kd) 150 (120 + it) (zA H0 106 69)) 153 (120 + it) (s : Nat)) :=
      zmd_w (zmd_w (zmd_w (zmd_w (zmd_w (zmd_w (zmd_rf _ _) (hfr _ _ rfl rfl)) (decide_eq_true (by omega))) (decide_eq_true (by omega))) (decide_eq_true (by omega))) (decide_eq_true (by omega))) (decide_eq_true (by omega))
    have hk0 : ak = 154 ∨ ak = 151 := by rcases hlk with ⟨_, q, _⟩ | ⟨_, _, _, q, _⟩ <;> omega
    have hLl := zmd_lay mf hL0
    have f107 : ∀ j, zLk it c b 107 j = false := fun j => decide_eq_false (by omega)
    have f72 : zLk it c b 106 72 = false := decide_eq_false (by omega)
    have b0 := zMW_0 (zwA (zwA (zwA (zwA (zwA (zwA H0 ak jk (it : Nat)) 106 66 (it + 1 : Nat)) 151 (120 + it) (-1)) 149 (120 + it) kd) 150 (120 + it) (zA H0 106 69)) 153 (120 + it) (s : Nat)) 152 (12 * (120 + it)) (fun j => zsb (t (a + j)))
    rw [← b0]
    refine zl_riA (a := a) (s := s) hLl (zTx_md mf f72 f107 hT) hit (by rw [mf.2.2.2 106 70 (decide_eq_false (by omega))]; exact h3) (by rw [zA_wA, if_pos ⟨rfl, rfl⟩]) hs12.1 hs12.2 ?_ _ 0 rfl (by omega)
    have e152 : ∀ (x y : Nat), x ≠ 152 → zA (zMW (zwA (zwA (zwA (zwA (zwA (zwA H0 ak jk (it : Nat)) 106 66 (it + 1 : Nat)) 151 (120 + it) (-1)) 149 (120 + it) kd) 150 (120 + it) (zA H0 106 69)) 153 (120 + it) (s : Nat)) 152 (12 * (120 + it)) s (fun j => zsb (t (a + j)))) x y = zA (zwA (zwA (zwA (zwA (zwA (zwA H0 ak jk (it : Nat)) 106 66 (it + 1 : Nat)) 151 (120 + it) (-1)) 149 (120 + it) kd) 150 (120 + it) (zA H0 106 69)) 153 (120 + it) (s : Nat)) x y := fun x y hx => by rw [zA_mp, if_neg (fun q => hx q.1)]
    refine h _ ?_ ?_ ?_ ?_ ?_ ?_ (fun q j hj => ?_) (fun q => ?_) (fun k q1 q2 => ?_) s
    · refine zmd_tr mf ⟨rfl, rfl, fun _ _ => rfl, fun x y hx => ?_⟩
      rw [zA_mp, if_neg (fun q => ?_)]
      have : zLk it c b x y = true := decide_eq_true (by omega)
      rw [this] at hx
      cases hx
    · rw [e152 _ _ (by omega)]; simp [zA_wA]
    · rw [e152 _ _ (by omega)]; simp [zA_wA, hkd]
    · rw [e152 _ _ (by omega)]; simp [zA_wA]
    · rw [e152 _ _ (by omega)]; simp [zA_wA]
    · rw [e152 _ _ (by omega), zA_wA, if_pos ⟨rfl, rfl⟩, hs]
      by_cases q : zso t n a = 2
      · rw [if_pos q, if_pos q]
      · rw [if_neg q, if_neg q]; rfl
    · rw [if_pos q] at hs
      rw [zA_mp, if_pos ⟨rfl, by omega, by omega⟩, show 12 * (120 + it) + j - 12 * (120 + it) = j by omega]
      have := zwe_l (t := t) (n := n) (a := a) (j := j) (by omega)
      exact zsb_eq ⟨by have := this.1; omega, by have := this.2; omega⟩
    · rcases hlk with ⟨_, q3, q4⟩ | ⟨k, q3, _⟩
      · rw [e152 _ _ (by omega)]
        subst q3 q4
        simp [zA_wA]
      · omega
    · rcases hlk with ⟨q3, _⟩ | ⟨k', q3, q5, q4, q6⟩
      · omega
      · have ek : k' = k := by omega
        subst ek
        rw [e152 _ _ (by omega)]
        subst q4 q6
        simp [zA_wA]
        intro e9
        exact absurd e9 q2
  have hd2 : zso t n a = 2 → zA H0 106 71 - zA H0 106 70 = ((zwe t n a - a : Nat) : Int) := by
    intro q
    have q' := (zso_i (t := t) (n := n) (a := a)).2.2.1.mp q
    have h9 := zwe_b94 (n := n) han q'.2.1
    rw [h5, h3, (zso_w (by omega) q'.2.1).2]
    omega
  have fin : ∀ (ak jk : Nat), (b = -1 ∧ ak = 154 ∧ jk = 400 + c) ∨ (∃ k : Nat, b = k ∧ k < 120 ∧ ak = 151 ∧ jk = 120 + k) → ∀ (kd sz : Int), kd = (if zso t n a = 2 then 0 else if zso t n a = 1 then 1 else 2) → (zso t n a = 2 → sz = zA H0 106 71 - zA H0 106 70) → (zso t n a ≠ 2 → sz = 0) → zEt xs L d b1 b2 false 286 189 [some (zr (some 106)), some (zi nm), some (zi dp), some (zi (c : Nat)), some (zi b), some (zi (120 + it : Nat)), some (zi (0 : Nat))] [] (zwA (zwA (zwA (zwA (zwA (zwA H0 ak jk (it : Nat)) 106 66 (it + 1 : Nat)) 151 (120 + it) (-1)) 149 (120 + it) kd) 150 (120 + it) (zA H0 106 69)) 153 (120 + it) sz) Q := by
    intro ak jk hlk kd sz hkd g1 g2
    have c1 := core ak jk kd (if zso t n a = 2 then zwe t n a - a else 0) hlk hkd rfl
    have e : sz = ((if zso t n a = 2 then zwe t n a - a else 0 : Nat) : Int) := by
      by_cases q : zso t n a = 2
      · rw [if_pos q, g1 q, hd2 q]
      · rw [if_neg q, g2 q]; rfl
    rw [e]
    exact c1
  have hz32 : zso t n a = 2 → z32 (zA H0 106 71 - zA H0 106 70) := by
    intro q
    rw [hd2 q]
    have q' := (zso_i (t := t) (n := n) (a := a)).2.2.1.mp q
    simp only [z32]
    omega
  have ec : ((400 : Int) + (c : Nat)).toNat = 400 + c := by omega
  rcases hb with hb | ⟨k, hb, hk⟩
  · subst hb
    refine zgo_at [189] 10 ?_
    try simp -implicitDefEqProofs only [zgn_0, zgn_s, zct_0, zct_s, Nat.reduceEqDiff, Nat.reduceBEq, Nat.reduceAdd, Nat.reduceSub, Nat.reduceMul, Int.reduceAdd, Int.reduceSub, Int.reduceMul, Int.reduceNeg, Int.reduceLT, Int.reduceLE, Int.reduceEq, Nat.zero_add, true_and, and_true, false_and, and_false, true_imp_iff, false_imp_iff, not_true_eq_false, not_false_eq_true, if_true, if_false, Bool.false_eq_true, ite_true, ite_false, reduceIte, eq_self, Int.toNat_natCast, zst_0, zst_1, zst_2, zst_3, zst_4, true_or, or_true, or_false, false_or, ze_286_0, zB_286_0, ze_286_22, zB_286_22, ze_286_45, zB_286_45, ze_286_51, zB_286_51, ze_286_83, zB_286_83, ze_286_97, zB_286_97, ze_286_133, zB_286_133, ze_286_145, zB_286_145, ze_286_146, zB_286_146, ze_286_184, zB_286_184, ze_286_185, zB_286_185, ze_286_189, zB_286_189, ze_286_232, zB_286_232, ze_286_245, zB_286_245, ze_286_246, zB_286_246, ze_286_259, zB_286_259, ze_286_283, zB_286_283, ze_286_298, zB_286_298, zbr_t, zbr_f, zrun_c, zmI_s, zmL_s, zmR_s, zgt_0, zgt_s, zln_0, zln_s, zs1_0, zs1_1i, zs1_1r, zs1_1n, zs1_1l, zs1_s, zs2_0, zs2_1i, zs2_1r, zs2_1n, zs2_1l, zs2_s, zcn_eq, zcn_ne, zcn_lt, zcn_ge, zcn_gt, zcn_le, zpu_0, zpu_1, zpu_2, zx_iconst, zx_lconst, zx_ldc, zx_ldc2, zx_null, zx_iload, zx_lload, zx_aload, zx_istore, zx_lstore, zx_astore, zx_iinc, zx_iadd, zx_isub, zx_imul, zx_idiv, zx_irem, zx_iand, zx_ior, zx_ixor, zx_ishl, zx_ishr, zx_iushr, zx_i2b, zx_i2l, zx_l2i, zx_ladd, zx_lmul, zx_ldiv, zx_lrem, zx_land, zx_lor, zx_lshl, zx_lshr, zx_lcmp, zx_dupi, zx_dupr, zx_dup2l, zx_dup2i, zx_pop, zx_ifc, zx_icmp, zx_ifnullN, zx_ifnullS, zx_ifnonN, zx_ifnonS, zx_goto, zx_gotow, zx_switch, zx_iaload, zx_baload, zx_laload, zx_aaload, zx_iastore, zx_bastore, zx_lastore, zx_aastore, zx_alen, zx_newarray, zx_anewarray, zx_new, zx_getI, zx_getL, zx_getR, zx_putI, zx_putZ, zx_putL, zx_putR, zx_callS, zx_callV, zx_objinit, zx_cpyi, zx_cpyl, zx_mmax, zx_mmin, zx_mminl, zx_ireturn, zx_areturn, zx_lreturn, zx_return, zcs_0, zcs_1, zcv_1, zcs_2, zcv_2, zcs_3, zcv_3, zcs_4, zcv_4, zcs_5, zcv_5, zcs_6, zcv_6, zcs_7, zcv_7, Int.reduceToNat, Nat.reduceDiv, Nat.reduceMod, zJ, zC, zK_wA, zN_wA, zR_wA, zS_wA, zA_wA, zK_wR, zN_wR, zR_wR, zS_wR, zA_wR, zK_cp, zN_cp, zR_cp, zS_cp, zA_cp, zK_mp, zN_mp, zR_mp, zS_mp, zA_mp, zfa, zfmm, zfa_1, zfb_1, zfa_2, zfb_2, zfa_3, zfb_3, zfa_4, zfb_4, zfa_5, zfb_5, zfa_6, zfb_6, zfa_7, zfb_7, zfa_8, zfb_8, zfa_9, zfb_9, zfa_10, zfb_10, zfa_12, zfb_12, zfa_20, zfb_20, zfa_21, zfb_21, zfa_30, zfb_30, zfa_48, zfb_48, zfa_60, zfb_60, zfa_61, zfb_61, zfa_65, zfb_65, zfa_97, zfb_97, zfa_100, zfb_100, zfa_120, zfb_120, zfa_124, zfb_124, zfa_500, zfb_500, zfa_792, zfb_792, zfa_2989, zfb_2989, zfm_2, zfn_2, zfm_3, zfn_3, zfm_4, zfn_4, zfm_6, zfn_6, zfm_7, zfn_7, zfm_8, zfn_8, zfm_12, zfn_12, zfm_49, zfn_49, zfm_60, zfn_60, zfm_61, zfn_61, zfm_792, zfn_792, zfm_2989, zfn_2989, Int.zero_add, Int.add_zero, Int.zero_mul, Int.mul_zero, Int.one_mul, Int.mul_one, lk_106 hL0, lr_106_57 hL0, lk_149 hL0, ln_149 hL0, lr_106_58 hL0, lk_150 hL0, ln_150 hL0, lr_106_59 hL0, lk_151 hL0, ln_151 hL0, lr_106_61 hL0, lk_153 hL0, ln_153 hL0, lr_106_62 hL0, lk_154 hL0, ln_154 hL0, h7, h4]
    repeat (with_reducible refine And.intro ?_ ?_; · first | omega | (simp only [z32, z64]; omega))
    simp only [ec]
    refine zbr_i (fun q => ?_) (fun q => ?_)
    · refine zbr_i (fun q1 => ?_) (fun q1 => ?_)
      · repeat (with_reducible refine And.intro ?_ ?_; · first | omega | (simp only [z32, z64]; omega))
        refine zbr_i (fun q2 => ?_) (fun q2 => absurd (Classical.not_not.mp q2) q)
        repeat (with_reducible refine And.intro ?_ ?_; · first | omega | (simp only [z32, z64]; omega))
        exact fin 154 (400 + c) (Or.inl ⟨rfl, rfl, rfl⟩) 2 0 (by rw [if_neg q, if_neg q1]) (fun r => absurd r q) (fun _ => rfl)
      · repeat (with_reducible refine And.intro ?_ ?_; · first | omega | (simp only [z32, z64]; omega))
        refine zbr_i (fun q2 => ?_) (fun q2 => absurd (Classical.not_not.mp q2) q)
        repeat (with_reducible refine And.intro ?_ ?_; · first | omega | (simp only [z32, z64]; omega))
        exact fin 154 (400 + c) (Or.inl ⟨rfl, rfl, rfl⟩) 1 0 (by rw [if_neg q, if_pos (Classical.not_not.mp q1)]) (fun r => absurd r q) (fun _ => rfl)
    · have hq := hz32 (Classical.not_not.mp q)
      repeat (with_reducible refine And.intro ?_ ?_; · first | omega | (simp only [z32, z64]; omega))
      refine zbr_i (fun q2 => absurd q2 q) (fun q2 => ?_)
      refine ⟨hq, ?_⟩
      repeat (with_reducible refine And.intro ?_ ?_; · first | omega | (simp only [z32, z64]; omega))
      exact fin 154 (400 + c) (Or.inl ⟨rfl, rfl, rfl⟩) 0 _ (by rw [if_pos (Classical.not_not.mp q)]) (fun _ => rfl) (fun r => absurd (Classical.not_not.mp q) r)
  · subst hb
    refine zgo_at [189] 10 ?_
    try simp -implicitDefEqProofs only [zgn_0, zgn_s, zct_0, zct_s, Nat.reduceEqDiff, Nat.reduceBEq, Nat.reduceAdd, Nat.reduceSub, Nat.reduceMul, Int.reduceAdd, Int.reduceSub, Int.reduceMul, Int.reduceNeg, Int.reduceLT, Int.reduceLE, Int.reduceEq, Nat.zero_add, true_and, and_true, false_and, and_false, true_imp_iff, false_imp_iff, not_true_eq_false, not_false_eq_true, if_true, if_false, Bool.false_eq_true, ite_true, ite_false, reduceIte, eq_self, Int.toNat_natCast, zst_0, zst_1, zst_2, zst_3, zst_4, true_or, or_true, or_false, false_or, ze_286_0, zB_286_0, ze_286_22, zB_286_22, ze_286_45, zB_286_45, ze_286_51, zB_286_51, ze_286_83, zB_286_83, ze_286_97, zB_286_97, ze_286_133, zB_286_133, ze_286_145, zB_286_145, ze_286_146, zB_286_146, ze_286_184, zB_286_184, ze_286_185, zB_286_185, ze_286_189, zB_286_189, ze_286_232, zB_286_232, ze_286_245, zB_286_245, ze_286_246, zB_286_246, ze_286_259, zB_286_259, ze_286_283, zB_286_283, ze_286_298, zB_286_298, zbr_t, zbr_f, zrun_c, zmI_s, zmL_s, zmR_s, zgt_0, zgt_s, zln_0, zln_s, zs1_0, zs1_1i, zs1_1r, zs1_1n, zs1_1l, zs1_s, zs2_0, zs2_1i, zs2_1r, zs2_1n, zs2_1l, zs2_s, zcn_eq, zcn_ne, zcn_lt, zcn_ge, zcn_gt, zcn_le, zpu_0, zpu_1, zpu_2, zx_iconst, zx_lconst, zx_ldc, zx_ldc2, zx_null, zx_iload, zx_lload, zx_aload, zx_istore, zx_lstore, zx_astore, zx_iinc, zx_iadd, zx_isub, zx_imul, zx_idiv, zx_irem, zx_iand, zx_ior, zx_ixor, zx_ishl, zx_ishr, zx_iushr, zx_i2b, zx_i2l, zx_l2i, zx_ladd, zx_lmul, zx_ldiv, zx_lrem, zx_land, zx_lor, zx_lshl, zx_lshr, zx_lcmp, zx_dupi, zx_dupr, zx_dup2l, zx_dup2i, zx_pop, zx_ifc, zx_icmp, zx_ifnullN, zx_ifnullS, zx_ifnonN, zx_ifnonS, zx_goto, zx_gotow, zx_switch, zx_iaload, zx_baload, zx_laload, zx_aaload, zx_iastore, zx_bastore, zx_lastore, zx_aastore, zx_alen, zx_newarray, zx_anewarray, zx_new, zx_getI, zx_getL, zx_getR, zx_putI, zx_putZ, zx_putL, zx_putR, zx_callS, zx_callV, zx_objinit, zx_cpyi, zx_cpyl, zx_mmax, zx_mmin, zx_mminl, zx_ireturn, zx_areturn, zx_lreturn, zx_return, zcs_0, zcs_1, zcv_1, zcs_2, zcv_2, zcs_3, zcv_3, zcs_4, zcv_4, zcs_5, zcv_5, zcs_6, zcv_6, zcs_7, zcv_7, Int.reduceToNat, Nat.reduceDiv, Nat.reduceMod, zJ, zC, zK_wA, zN_wA, zR_wA, zS_wA, zA_wA, zK_wR, zN_wR, zR_wR, zS_wR, zA_wR, zK_cp, zN_cp, zR_cp, zS_cp, zA_cp, zK_mp, zN_mp, zR_mp, zS_mp, zA_mp, zfa, zfmm, zfa_1, zfb_1, zfa_2, zfb_2, zfa_3, zfb_3, zfa_4, zfb_4, zfa_5, zfb_5, zfa_6, zfb_6, zfa_7, zfb_7, zfa_8, zfb_8, zfa_9, zfb_9, zfa_10, zfb_10, zfa_12, zfb_12, zfa_20, zfb_20, zfa_21, zfb_21, zfa_30, zfb_30, zfa_48, zfb_48, zfa_60, zfb_60, zfa_61, zfb_61, zfa_65, zfb_65, zfa_97, zfb_97, zfa_100, zfb_100, zfa_120, zfb_120, zfa_124, zfb_124, zfa_500, zfb_500, zfa_792, zfb_792, zfa_2989, zfb_2989, zfm_2, zfn_2, zfm_3, zfn_3, zfm_4, zfn_4, zfm_6, zfn_6, zfm_7, zfn_7, zfm_8, zfn_8, zfm_12, zfn_12, zfm_49, zfn_49, zfm_60, zfn_60, zfm_61, zfn_61, zfm_792, zfn_792, zfm_2989, zfn_2989, Int.zero_add, Int.add_zero, Int.zero_mul, Int.mul_zero, Int.one_mul, Int.mul_one, lk_106 hL0, lr_106_57 hL0, lk_149 hL0, ln_149 hL0, lr_106_58 hL0, lk_150 hL0, ln_150 hL0, lr_106_59 hL0, lk_151 hL0, ln_151 hL0, lr_106_61 hL0, lk_153 hL0, ln_153 hL0, lr_106_62 hL0, lk_154 hL0, ln_154 hL0, h7, h4]
    repeat (with_reducible refine And.intro ?_ ?_; · first | omega | (simp only [z32, z64]; omega))
    refine zbr_i (fun q9 => ?_) (fun q9 => by omega)
    repeat (with_reducible refine And.intro ?_ ?_; · first | omega | (simp only [z32, z64]; omega))
    refine zbr_i (fun q => ?_) (fun q => ?_)
    · refine zbr_i (fun q1 => ?_) (fun q1 => ?_)
      · repeat (with_reducible refine And.intro ?_ ?_; · first | omega | (simp only [z32, z64]; omega))
        refine zbr_i (fun q2 => ?_) (fun q2 => absurd (Classical.not_not.mp q2) q)
        repeat (with_reducible refine And.intro ?_ ?_; · first | omega | (simp only [z32, z64]; omega))
        exact fin 151 (120 + k) (Or.inr ⟨k, rfl, hk, rfl, rfl⟩) 2 0 (by rw [if_neg q, if_neg q1]) (fun r => absurd r q) (fun _ => rfl)
      · repeat (with_reducible refine And.intro ?_ ?_; · first | omega | (simp only [z32, z64]; omega))
        refine zbr_i (fun q2 => ?_) (fun q2 => absurd (Classical.not_not.mp q2) q)
        repeat (with_reducible refine And.intro ?_ ?_; · first | omega | (simp only [z32, z64]; omega))
        exact fin 151 (120 + k) (Or.inr ⟨k, rfl, hk, rfl, rfl⟩) 1 0 (by rw [if_neg q, if_pos (Classical.not_not.mp q1)]) (fun r => absurd r q) (fun _ => rfl)
    · have hq := hz32 (Classical.not_not.mp q)
      repeat (with_reducible refine And.intro ?_ ?_; · first | omega | (simp only [z32, z64]; omega))
      refine zbr_i (fun q2 => absurd q2 q) (fun q2 => ?_)
      refine ⟨hq, ?_⟩
      repeat (with_reducible refine And.intro ?_ ?_; · first | omega | (simp only [z32, z64]; omega))
      exact fin 151 (120 + k) (Or.inr ⟨k, rfl, hk, rfl, rfl⟩) 0 _ (by rw [if_pos (Classical.not_not.mp q)]) (fun _ => rfl) (fun r => absurd (Classical.not_not.mp q) r)
