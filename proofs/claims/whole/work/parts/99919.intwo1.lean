/-- the things of a set of the class: thing 0 has the highest bit -/
def zrw (n c : Nat) : Nat → Nat
  | 0 => 0
  | t + 1 => zrw n c t + (if t < n then c / 2 ^ (n - 1 - t) % 2 * 2 ^ t else 0)
def zrv (n c : Nat) : Nat := zrw n c 7
theorem zrv_b : ∀ n : Nat, n < 8 → ∀ c : Nat, c < 128 → zrv n c < 128 ∧ ∀ t : Nat, t < 7 → zrv n c / 2 ^ t % 2 = if t < n then c / 2 ^ (n - 1 - t) % 2 else 0 := by decide +kernel
theorem zrv_x : ∀ n : Nat, n < 8 → ∀ c : Nat, c < 2 ^ n → (2 ^ n - 1) ^^^ c < 2 ^ n ∧ zrv n ((2 ^ n - 1) ^^^ c) = (2 ^ n - 1) &&& (127 ^^^ zrv n c) := by decide +kernel
theorem zrv_1 : ∀ n : Nat, n < 8 → ∀ c : Nat, c < 2 ^ n → (1 ≤ c → c < 2 ^ n - 1 → 1 ≤ (2 ^ n - 1) ^^^ c ∧ (2 ^ n - 1) ^^^ c < 2 ^ n - 1) := by decide +kernel
/-- the least cost -/
def zVl (E : Nat → Prop) (c : Nat → Int) (v : Int) : Prop := (v = -1 ∧ ∀ s : Nat, ¬ E s) ∨ ∃ s : Nat, E s ∧ v = c s ∧ ∀ s' : Nat, E s' → c s ≤ c s'
theorem zVl_o {P : Nat → Prop} {n : Nat} {E : Nat → Prop} {c : Nat → Int} {T : Nat → Nat → Int} {v : Int} {B : Nat → Int} (h : zBs P n E c T v B) : zVl E c v := by
  rcases h with h | ⟨s, h1, h2, h3, h4⟩
  · exact Or.inl h
  · exact Or.inr ⟨s, h1, h2, fun s' hs' => by rcases h4 s' hs' with q | q <;> omega⟩
theorem zVl_u {E : Nat → Prop} {c : Nat → Int} {v v' : Int} (h : zVl E c v) (h' : zVl E c v') : v = v' := by
  rcases h with h | ⟨s, h1, h2, h4⟩
  · rcases h' with h' | ⟨s', k1, _⟩
    · omega
    · exact absurd k1 (h.2 s')
  · rcases h' with h' | ⟨s', k1, k2, k4⟩
    · exact absurd h1 (h'.2 s)
    · have a := h4 s' k1
      have b := k4 s h1
      omega
/-- what a set of things costs at least, with the shapes of A -/
def zMv (A : Nat → Prop) (w : Nat → Int) (p : Nat) (v : Int) : Prop := ∃ o : Nat → Nat, zOr (zPp p) w (zpk p 7) o ∧ zVl (fun s => A s ∧ ztot s = zpk p 7) (fun s => zCs s w o (zpk p 7)) v
theorem zMv_u {A : Nat → Prop} {w : Nat → Int} {p : Nat} {v v' : Int} (h : zMv A w p v) (h' : zMv A w p v') : v = v' := by
  obtain ⟨o, h1, h2⟩ := h
  obtain ⟨o', k1, k2⟩ := h'
  have e : (fun s => zCs s w o (zpk p 7)) = (fun s => zCs s w o' (zpk p 7)) := funext (fun s => zCs_c _ (fun r hr => by rw [zOr_u h1 k1 r hr hr]))
  rw [← e] at k2
  exact zVl_u h2 k2
noncomputable def zMx (A : Nat → Prop) (w : Nat → Int) (p : Nat) : Int := Classical.epsilon (zMv A w p)
theorem zMx_e {A : Nat → Prop} {w : Nat → Int} {p : Nat} {v : Int} (h : zMv A w p v) : v = zMx A w p := zMv_u h (Classical.epsilon_spec ⟨v, h⟩)
theorem zMv_b {A : Nat → Prop} {w : Nat → Int} {p : Nat} {v : Int} (hw : ∀ t : Nat, zPp p t → 0 ≤ w t ∧ w t ≤ 9999) (h : zMv A w p v) : -1 ≤ v ∧ v ≤ 400000 := by
  obtain ⟨o, h1, h2⟩ := h
  rcases h2 with h2 | ⟨s, _, h2, _⟩
  · omega
  · have := zCs_b (s := s) (w := w) (o := o) (B := 9999) (zpk p 7) (fun r hr => hw _ (h1.1 r hr))
    have := zpk_7 p 7
    have h2 : v = zCs s w o (zpk p 7) := h2
    omega
theorem zMv_w {A A' : Nat → Prop} {w w' : Nat → Int} {p : Nat} {v : Int} (h : zMv A w p v) (hA : ∀ s : Nat, A s ↔ A' s) (hw : ∀ t : Nat, zPp p t → w t = w' t) : zMv A' w' p v := by
  have eA : A = A' := funext (fun s => propext (hA s))
  subst eA
  obtain ⟨o, h1, h2⟩ := h
  have e : (fun s => zCs s w o (zpk p 7)) = (fun s => zCs s w' o (zpk p 7)) := funext (fun s => zCs_c _ (fun r hr => hw _ (h1.1 r hr)))
  rw [e] at h2
  exact ⟨o, zOr_w h1 hw, h2⟩
/-- e enumerates the things of p below t -/
def zEm2 (p t m : Nat) (e : Nat → Nat) : Prop := m ≤ t ∧ (∀ i : Nat, i < m → e i < t ∧ p / 2 ^ e i % 2 = 1) ∧ (∀ u : Nat, u < t → p / 2 ^ u % 2 = 1 → ∃ i : Nat, i < m ∧ e i = u) ∧ ∀ i j : Nat, i < j → j < m → e i < e j
theorem zEm2_Or {p n m : Nat} {e o : Nat → Nat} {w w' : Nat → Int} (hn : n ≤ 7) (hp : ∀ t : Nat, t < 7 → ¬ t < n → ¬ p / 2 ^ t % 2 = 1) (hE : zEm2 p n m e) (hw : ∀ i : Nat, i < m → w' i = w (e i)) (hO : zOr (fun u => u < m ∧ True) w' m o) : zOr (zPp p) w m (fun r => e (o r)) := by
  obtain ⟨e1, e2, e3, e4⟩ := hE
  refine ⟨fun r hr => ?_, fun t ht => ?_, fun r r' hr hr' => ?_⟩
  · have := e2 (o r) (hO.1 r hr).1
    show e (o r) < 7 ∧ p / 2 ^ e (o r) % 2 = 1
    exact ⟨by omega, this.2⟩
  · have tn : t < n := Classical.byContradiction (fun q => hp t ht.1 q ht.2)
    obtain ⟨i, hi, ei⟩ := e3 t tn ht.2
    obtain ⟨r, hr, er⟩ := hO.2.1 i ⟨hi, trivial⟩
    exact ⟨r, hr, by show e (o r) = t; rw [er]; exact ei⟩
  · have h1 := hO.2.2 r r' hr hr'
    have a := (hO.1 r (by omega)).1
    have b := (hO.1 r' hr').1
    unfold zbe at *
    rw [hw _ a, hw _ b] at h1
    rcases h1 with h1 | ⟨h1, h2⟩
    · exact Or.inl h1
    · exact Or.inr ⟨h1, e4 _ _ h2 b⟩
set_option maxRecDepth 100000 in
theorem zl_pkA {xs : Nat → Int} {L d b1 b2 : Nat} {H0 : zH} {Q : zQ} {c n k : Nat} (hL0 : zLay H0) (hn : n ≤ 7) (hnk : n ≤ k) (hc : c < 128) (hk4 : k ≤ 40) (h : ∀ (G : zH) (m : Nat) (e : Nat → Nat), zmd (zin [33] []) H0 G → zEm2 (zrv n c) n m e → (∀ i : Nat, i < m → zA G 33 i = zA H0 22 (e i)) → (∀ i : Nat, m ≤ i → zA G 33 i = zA H0 33 i) → zEt xs L d b1 b2 false 167 46 [some (zr (some 29)), some (zi c), some (zi n), some (zr (some 22)), some (zi m), some (zi n)] [] G Q) : ∀ (kk : Nat) (t : Nat) (m : Nat) (e : Nat → Nat) (G : zH), n - t = kk → (t ≤ n) → (zmd (zin [33] []) H0 G) → (zEm2 (zrv n c) t m e) → (∀ i : Nat, i < m → zA G 33 i = zA H0 22 (e i)) → (∀ i : Nat, m ≤ i → zA G 33 i = zA H0 33 i) → zEt xs L d b1 b2 false 167 6 [some (zr (some 29)), some (zi c), some (zi n), some (zr (some 22)), some (zi m), some (zi t)] [] G Q := by
  intro kk
  induction kk using Nat.strongRecOn with
  | ind kk ih =>
    intro t m e G hkk ht hm hE hw hw2
    refine zgo_at [6, 46] 8 ?_
    try simp -implicitDefEqProofs only [zgn_0, zgn_s, zct_0, zct_s, Nat.reduceEqDiff, Nat.reduceBEq, Nat.reduceAdd, Nat.reduceSub, Nat.reduceMul, Int.reduceAdd, Int.reduceSub, Int.reduceMul, Int.reduceNeg, Int.reduceLT, Int.reduceLE, Int.reduceEq, Nat.zero_add, true_and, and_true, false_and, and_false, true_imp_iff, false_imp_iff, not_true_eq_false, not_false_eq_true, if_true, if_false, Bool.false_eq_true, ite_true, ite_false, reduceIte, eq_self, Int.toNat_natCast, zst_0, zst_1, zst_2, zst_3, zst_4, true_or, or_true, or_false, false_or, ze_167_0, zB_167_0, ze_167_6, zB_167_6, ze_167_40, zB_167_40, ze_167_46, zB_167_46, zbr_t, zbr_f, zrun_c, zmI_s, zmL_s, zmR_s, zgt_0, zgt_s, zln_0, zln_s, zs1_0, zs1_1i, zs1_1r, zs1_1n, zs1_1l, zs1_s, zs2_0, zs2_1i, zs2_1r, zs2_1n, zs2_1l, zs2_s, zcn_eq, zcn_ne, zcn_lt, zcn_ge, zcn_gt, zcn_le, zpu_0, zpu_1, zpu_2, zx_iconst, zx_lconst, zx_ldc, zx_ldc2, zx_null, zx_iload, zx_lload, zx_aload, zx_istore, zx_lstore, zx_astore, zx_iinc, zx_iadd, zx_isub, zx_imul, zx_idiv, zx_irem, zx_iand, zx_ior, zx_ixor, zx_ishl, zx_ishr, zx_iushr, zx_i2b, zx_i2l, zx_l2i, zx_ladd, zx_lmul, zx_ldiv, zx_lrem, zx_land, zx_lor, zx_lshl, zx_lshr, zx_lcmp, zx_dupi, zx_dupr, zx_dup2l, zx_dup2i, zx_pop, zx_ifc, zx_icmp, zx_ifnullN, zx_ifnullS, zx_ifnonN, zx_ifnonS, zx_goto, zx_gotow, zx_switch, zx_iaload, zx_baload, zx_laload, zx_aaload, zx_iastore, zx_bastore, zx_lastore, zx_aastore, zx_alen, zx_newarray, zx_anewarray, zx_new, zx_getI, zx_getL, zx_getR, zx_putI, zx_putZ, zx_putL, zx_putR, zx_callS, zx_callV, zx_objinit, zx_cpyi, zx_cpyl, zx_mmax, zx_mmin, zx_mminl, zx_ireturn, zx_areturn, zx_lreturn, zx_return, zcs_0, zcs_1, zcv_1, zcs_2, zcv_2, zcs_3, zcv_3, zcs_4, zcv_4, zcs_5, zcv_5, zcs_6, zcv_6, zcs_7, zcv_7, Int.reduceToNat, Nat.reduceDiv, Nat.reduceMod, zJ, zC, zK_wA, zN_wA, zR_wA, zS_wA, zA_wA, zK_wR, zN_wR, zR_wR, zS_wR, zA_wR, zK_cp, zN_cp, zR_cp, zS_cp, zA_cp, zK_mp, zN_mp, zR_mp, zS_mp, zA_mp, zfa, zfmm, zfa_1, zfb_1, zfa_2, zfb_2, zfa_3, zfb_3, zfa_4, zfb_4, zfa_5, zfb_5, zfa_6, zfb_6, zfa_7, zfb_7, zfa_8, zfb_8, zfa_9, zfb_9, zfa_10, zfb_10, zfa_12, zfb_12, zfa_20, zfb_20, zfa_21, zfb_21, zfa_30, zfb_30, zfa_48, zfb_48, zfa_60, zfb_60, zfa_61, zfb_61, zfa_65, zfb_65, zfa_97, zfb_97, zfa_100, zfb_100, zfa_120, zfb_120, zfa_124, zfb_124, zfa_500, zfb_500, zfa_792, zfb_792, zfa_2989, zfb_2989, zfm_2, zfn_2, zfm_3, zfn_3, zfm_4, zfn_4, zfm_6, zfn_6, zfm_7, zfn_7, zfm_8, zfn_8, zfm_12, zfn_12, zfm_49, zfn_49, zfm_60, zfn_60, zfm_61, zfn_61, zfm_792, zfn_792, zfm_2989, zfn_2989, Int.zero_add, Int.add_zero, Int.zero_mul, Int.mul_zero, Int.one_mul, Int.mul_one, lk_29 (zmd_lay hm hL0), lr_29_6 (zmd_lay hm hL0), lk_33 (zmd_lay hm hL0), ln_33 (zmd_lay hm hL0), lk_22 (zmd_lay hm hL0), ln_22 (zmd_lay hm hL0)]
    refine zbr_i (fun q => ?_) (fun q => ?_)
    · have e9 : t = n := by omega
      subst e9
      exact h G m e hm hE hw hw2
    · have hb := (zrv_b n (by omega) c hc).2 t (by omega)
      rw [if_pos (by omega)] at hb
      rw [show (n : Int) - 1 = ((n - 1 : Nat) : Int) by omega, show ((n - 1 : Nat) : Int) - (t : Nat) = ((n - 1 - t : Nat) : Int) by omega, zb7 (by omega) (by omega), ← hb]
      obtain ⟨e1, e2, e3, e4⟩ := id hE
      repeat (with_reducible refine And.intro ?_ ?_; · first | omega | (simp only [z32, z64]; omega))
      refine zbr_i (fun q1 => ?_) (fun q1 => ?_)
      · repeat (with_reducible refine And.intro ?_ ?_; · first | omega | (simp only [z32, z64]; omega))
        refine ih _ (by omega) (t + 1) m e G rfl (by omega) hm ⟨by omega, fun i hi => ⟨by have := (e2 i hi).1; omega, (e2 i hi).2⟩, fun u hu hb2 => ?_, e4⟩ hw hw2
        by_cases eu : u = t
        · subst eu; exact absurd hb2 (by omega)
        · exact e3 u (by omega) hb2
      · have e22 : zA G 22 t = zA H0 22 t := hm.2.2.2 22 t rfl
        rw [e22]
        repeat (with_reducible refine And.intro ?_ ?_; · first | omega | (simp only [z32, z64]; omega))
        refine ih _ (by omega) (t + 1) (m + 1) (zKp e m t) _ rfl (by omega) (zmd_w hm rfl) ⟨by omega, fun i hi => ?_, fun u hu hb2 => ?_, fun i j hi hj => ?_⟩ (fun i hi => ?_) (fun i hi => ?_)
        · by_cases ei : i = m
          · rw [ei, zKp_e]; exact ⟨by omega, by omega⟩
          · rw [zKp_n ei]; have := e2 i (by omega); exact ⟨by omega, this.2⟩
        · by_cases eu : u = t
          · exact ⟨m, by omega, by rw [zKp_e, eu]⟩
          · obtain ⟨i, hi, ei⟩ := e3 u (by omega) hb2
            exact ⟨i, by omega, by rw [zKp_n (by omega)]; exact ei⟩
        · rw [zKp_n (show ¬ i = m by omega)]
          by_cases ej : j = m
          · rw [ej, zKp_e]; exact (e2 i (by omega)).1
          · rw [zKp_n ej]; exact e4 i j hi (by omega)
        · rw [zA_wA]
          by_cases ei : i = m
          · rw [if_pos ⟨rfl, ei⟩, ei, zKp_e]
          · rw [if_neg (fun q => ei q.2), zKp_n ei]; exact hw i (by omega)
        · rw [zA_wA, if_neg (by omega)]; exact hw2 i (by omega)
set_option maxRecDepth 100000 in
theorem zc_leastCostOfSet {xs : Nat → Int} {L d b1 b2 : Nat} {H0 : zH} {Q : zQ} {c n k e : Nat} {f : Nat → Nat} {A : Nat → Prop} (hL0 : zLay H0) (hd : 2 ≤ d) (hn : n ≤ 7) (hnk : n ≤ k) (hc : c < 128) (hk4 : k ≤ 40) (hlk : ∀ t : Nat, t < k → 1 ≤ zA H0 22 t ∧ zA H0 22 t ≤ 9999) (hW : iWe H0) (hls : zLO H0 e f) (hS : zHs H0 (64 + 3 * e) 792 A) (h : ∀ (G : zH) (v : Int), zmd (zin [33, 34, 35, 36] []) H0 G → iWe G → zMv A (zA H0 22) (zrv n c) v → Q v G) : zEm xs L d b1 b2 167 [zr (some 29), zi c, zi n, zr (some 22)] H0 Q := by
  refine zem_167 (zgo_at [6] 4 ?_)
  try simp -implicitDefEqProofs only [zgn_0, zgn_s, zct_0, zct_s, Nat.reduceEqDiff, Nat.reduceBEq, Nat.reduceAdd, Nat.reduceSub, Nat.reduceMul, Int.reduceAdd, Int.reduceSub, Int.reduceMul, Int.reduceNeg, Int.reduceLT, Int.reduceLE, Int.reduceEq, Nat.zero_add, true_and, and_true, false_and, and_false, true_imp_iff, false_imp_iff, not_true_eq_false, not_false_eq_true, if_true, if_false, Bool.false_eq_true, ite_true, ite_false, reduceIte, eq_self, Int.toNat_natCast, zst_0, zst_1, zst_2, zst_3, zst_4, true_or, or_true, or_false, false_or, ze_167_0, zB_167_0, ze_167_6, zB_167_6, ze_167_40, zB_167_40, ze_167_46, zB_167_46, zbr_t, zbr_f, zrun_c, zmI_s, zmL_s, zmR_s, zgt_0, zgt_s, zln_0, zln_s, zs1_0, zs1_1i, zs1_1r, zs1_1n, zs1_1l, zs1_s, zs2_0, zs2_1i, zs2_1r, zs2_1n, zs2_1l, zs2_s, zcn_eq, zcn_ne, zcn_lt, zcn_ge, zcn_gt, zcn_le, zpu_0, zpu_1, zpu_2, zx_iconst, zx_lconst, zx_ldc, zx_ldc2, zx_null, zx_iload, zx_lload, zx_aload, zx_istore, zx_lstore, zx_astore, zx_iinc, zx_iadd, zx_isub, zx_imul, zx_idiv, zx_irem, zx_iand, zx_ior, zx_ixor, zx_ishl, zx_ishr, zx_iushr, zx_i2b, zx_i2l, zx_l2i, zx_ladd, zx_lmul, zx_ldiv, zx_lrem, zx_land, zx_lor, zx_lshl, zx_lshr, zx_lcmp, zx_dupi, zx_dupr, zx_dup2l, zx_dup2i, zx_pop, zx_ifc, zx_icmp, zx_ifnullN, zx_ifnullS, zx_ifnonN, zx_ifnonS, zx_goto, zx_gotow, zx_switch, zx_iaload, zx_baload, zx_laload, zx_aaload, zx_iastore, zx_bastore, zx_lastore, zx_aastore, zx_alen, zx_newarray, zx_anewarray, zx_new, zx_getI, zx_getL, zx_getR, zx_putI, zx_putZ, zx_putL, zx_putR, zx_callS, zx_callV, zx_objinit, zx_cpyi, zx_cpyl, zx_mmax, zx_mmin, zx_mminl, zx_ireturn, zx_areturn, zx_lreturn, zx_return, zcs_0, zcs_1, zcv_1, zcs_2, zcv_2, zcs_3, zcv_3, zcs_4, zcv_4, zcs_5, zcv_5, zcs_6, zcv_6, zcs_7, zcv_7, Int.reduceToNat, Nat.reduceDiv, Nat.reduceMod, zJ, zC, zK_wA, zN_wA, zR_wA, zS_wA, zA_wA, zK_wR, zN_wR, zR_wR, zS_wR, zA_wR, zK_cp, zN_cp, zR_cp, zS_cp, zA_cp, zK_mp, zN_mp, zR_mp, zS_mp, zA_mp, zfa, zfmm, zfa_1, zfb_1, zfa_2, zfb_2, zfa_3, zfb_3, zfa_4, zfb_4, zfa_5, zfb_5, zfa_6, zfb_6, zfa_7, zfb_7, zfa_8, zfb_8, zfa_9, zfb_9, zfa_10, zfb_10, zfa_12, zfb_12, zfa_20, zfb_20, zfa_21, zfb_21, zfa_30, zfb_30, zfa_48, zfb_48, zfa_60, zfb_60, zfa_61, zfb_61, zfa_65, zfb_65, zfa_97, zfb_97, zfa_100, zfb_100, zfa_120, zfb_120, zfa_124, zfb_124, zfa_500, zfb_500, zfa_792, zfb_792, zfa_2989, zfb_2989, zfm_2, zfn_2, zfm_3, zfn_3, zfm_4, zfn_4, zfm_6, zfn_6, zfm_7, zfn_7, zfm_8, zfn_8, zfm_12, zfn_12, zfm_49, zfn_49, zfm_60, zfn_60, zfm_61, zfn_61, zfm_792, zfn_792, zfm_2989, zfn_2989, Int.zero_add, Int.add_zero, Int.zero_mul, Int.mul_zero, Int.one_mul, Int.mul_one]
  refine zl_pkA hL0 hn hnk hc hk4 (fun G m e' hm hE hw hw2 => ?_) _ 0 0 (fun _ => 0) H0 rfl (by omega) (zmd_rf _ _) ⟨by omega, fun i hi => by omega, fun u hu => by omega, fun i j hi hj => by omega⟩ (fun i hi => by omega) (fun _ _ => rfl)
  refine zgo_at [] 4 ?_
  have hL := zmd_lay hm hL0
  try simp -implicitDefEqProofs only [zgn_0, zgn_s, zct_0, zct_s, Nat.reduceEqDiff, Nat.reduceBEq, Nat.reduceAdd, Nat.reduceSub, Nat.reduceMul, Int.reduceAdd, Int.reduceSub, Int.reduceMul, Int.reduceNeg, Int.reduceLT, Int.reduceLE, Int.reduceEq, Nat.zero_add, true_and, and_true, false_and, and_false, true_imp_iff, false_imp_iff, not_true_eq_false, not_false_eq_true, if_true, if_false, Bool.false_eq_true, ite_true, ite_false, reduceIte, eq_self, Int.toNat_natCast, zst_0, zst_1, zst_2, zst_3, zst_4, true_or, or_true, or_false, false_or, ze_167_0, zB_167_0, ze_167_6, zB_167_6, ze_167_40, zB_167_40, ze_167_46, zB_167_46, zbr_t, zbr_f, zrun_c, zmI_s, zmL_s, zmR_s, zgt_0, zgt_s, zln_0, zln_s, zs1_0, zs1_1i, zs1_1r, zs1_1n, zs1_1l, zs1_s, zs2_0, zs2_1i, zs2_1r, zs2_1n, zs2_1l, zs2_s, zcn_eq, zcn_ne, zcn_lt, zcn_ge, zcn_gt, zcn_le, zpu_0, zpu_1, zpu_2, zx_iconst, zx_lconst, zx_ldc, zx_ldc2, zx_null, zx_iload, zx_lload, zx_aload, zx_istore, zx_lstore, zx_astore, zx_iinc, zx_iadd, zx_isub, zx_imul, zx_idiv, zx_irem, zx_iand, zx_ior, zx_ixor, zx_ishl, zx_ishr, zx_iushr, zx_i2b, zx_i2l, zx_l2i, zx_ladd, zx_lmul, zx_ldiv, zx_lrem, zx_land, zx_lor, zx_lshl, zx_lshr, zx_lcmp, zx_dupi, zx_dupr, zx_dup2l, zx_dup2i, zx_pop, zx_ifc, zx_icmp, zx_ifnullN, zx_ifnullS, zx_ifnonN, zx_ifnonS, zx_goto, zx_gotow, zx_switch, zx_iaload, zx_baload, zx_laload, zx_aaload, zx_iastore, zx_bastore, zx_lastore, zx_aastore, zx_alen, zx_newarray, zx_anewarray, zx_new, zx_getI, zx_getL, zx_getR, zx_putI, zx_putZ, zx_putL, zx_putR, zx_callS, zx_callV, zx_objinit, zx_cpyi, zx_cpyl, zx_mmax, zx_mmin, zx_mminl, zx_ireturn, zx_areturn, zx_lreturn, zx_return, zcs_0, zcs_1, zcv_1, zcs_2, zcv_2, zcs_3, zcv_3, zcs_4, zcv_4, zcs_5, zcv_5, zcs_6, zcv_6, zcs_7, zcv_7, Int.reduceToNat, Nat.reduceDiv, Nat.reduceMod, zJ, zC, zK_wA, zN_wA, zR_wA, zS_wA, zA_wA, zK_wR, zN_wR, zR_wR, zS_wR, zA_wR, zK_cp, zN_cp, zR_cp, zS_cp, zA_cp, zK_mp, zN_mp, zR_mp, zS_mp, zA_mp, zfa, zfmm, zfa_1, zfb_1, zfa_2, zfb_2, zfa_3, zfb_3, zfa_4, zfb_4, zfa_5, zfb_5, zfa_6, zfb_6, zfa_7, zfb_7, zfa_8, zfb_8, zfa_9, zfb_9, zfa_10, zfb_10, zfa_12, zfb_12, zfa_20, zfb_20, zfa_21, zfb_21, zfa_30, zfb_30, zfa_48, zfb_48, zfa_60, zfb_60, zfa_61, zfb_61, zfa_65, zfb_65, zfa_97, zfb_97, zfa_100, zfb_100, zfa_120, zfb_120, zfa_124, zfb_124, zfa_500, zfb_500, zfa_792, zfb_792, zfa_2989, zfb_2989, zfm_2, zfn_2, zfm_3, zfn_3, zfm_4, zfn_4, zfm_6, zfn_6, zfm_7, zfn_7, zfm_8, zfn_8, zfm_12, zfn_12, zfm_49, zfn_49, zfm_60, zfn_60, zfm_61, zfn_61, zfm_792, zfn_792, zfm_2989, zfn_2989, Int.zero_add, Int.add_zero, Int.zero_mul, Int.mul_zero, Int.one_mul, Int.mul_one, lk_29 hL]
  have hW1 : ∀ t : Nat, t < 7 → 0 ≤ zA G 33 t ∧ zA G 33 t ≤ 1000000 := fun t ht => by
    by_cases q : t < m
    · rw [hw t q]; have := hlk (e' t) (by have := (hE.2.1 t q).1; omega); omega
    · rw [hw2 t (by omega)]; exact hW t ht
  have hm7 : m ≤ 7 := by have := hE.1; omega
  refine ⟨by omega, zc_leastCost (e := e) (f := f) hL (by omega) hm7 ⟨hls.1, (hm.2.2.1 29 2).trans hls.2.1, (hm.2.2.1 29 3).trans hls.2.2.1, fun k hk => by rw [hm.2.2.1, hm.2.2.1]; exact hls.2.2.2 k hk⟩ (zHs_mg (T := zin [] []) (zmg_d hm) (fun j => by unfold zin; simp; omega) (fun j => by unfold zin; simp; omega) hS) hW1 (fun G3 v o m3 hO hB => ?_)⟩
  have hb := zrv_b n (by omega) c hc
  have hOO := zEm2_Or (w := zA H0 22) hn (fun t ht hnt => by rw [hb.2 t ht, if_neg hnt]; decide) hE hw hO
  obtain ⟨o2, hO2⟩ := zOr_x (zrv n c) (zA H0 22) 7
  have em : m = zpk (zrv n c) 7 := zOr_e hOO hO2
  refine h G3 v (zmd_tr (zmd_up hm rfl) (zmd_up m3 rfl)) (fun t ht => by rw [m3.2.2.2 33 t rfl]; exact hW1 t ht) ⟨fun r => e' (o r), by rw [← em]; exact hOO, ?_⟩
  have hV := zVl_o hB
  rw [← em]
  have ec : (fun s => zCs s (zA G 33) o m) = (fun s => zCs s (zA H0 22) (fun r => e' (o r)) m) := funext (fun s => zCs_c m (fun r hr => hw _ (hO.1 r hr).1))
  rw [ec] at hV
  exact hV
