/-! ===== questions: words and their cues ===== -/
theorem zFst_c {P P' : Nat → Prop} {n : Nat} {r : Int} (h : zFst P n r) (e : ∀ k, k < n → (P k ↔ P' k)) : zFst P' n r := by
  rcases h with ⟨h1, h2⟩ | ⟨k, h1, h2, h3, h4⟩
  · exact Or.inl ⟨h1, fun k hk q => h2 k hk ((e k hk).mpr q)⟩
  · exact Or.inr ⟨k, h1, h2, (e k h1).mp h3, fun j hj q => h4 j hj ((e j (by omega)).mpr q)⟩
noncomputable def zfst (P : Nat → Prop) (n : Nat) : Int := Classical.epsilon (fun r => zFst P n r)
theorem zfst_e {P : Nat → Prop} {n : Nat} {r : Int} (h : zFst P n r) : r = zfst P n := zFst_u (Classical.epsilon_spec (p := fun r => zFst P n r) ⟨r, h⟩) h (fun _ _ => Iff.rfl)
theorem zFst_x (P : Nat → Prop) : ∀ n : Nat, ∃ r, zFst P n r
  | 0 => ⟨-1, Or.inl ⟨rfl, fun k hk => by omega⟩⟩
  | n + 1 => by
    obtain ⟨r, h⟩ := zFst_x P n
    rcases h with ⟨h1, h2⟩ | ⟨k, h1, h2, h3, h4⟩
    · by_cases hp : P n
      · exact ⟨n, Or.inr ⟨n, by omega, rfl, hp, h2⟩⟩
      · exact ⟨-1, Or.inl ⟨rfl, zall_s h2 hp⟩⟩
    · exact ⟨k, Or.inr ⟨k, by omega, rfl, h3, h4⟩⟩
theorem zfst_s (P : Nat → Prop) (n : Nat) : zFst P n (zfst P n) := Classical.epsilon_spec (p := fun r => zFst P n r) (zFst_x P n)
theorem zfst_r (P : Nat → Prop) (n : Nat) : -1 ≤ zfst P n ∧ zfst P n < n ∨ zfst P n = -1 := by
  rcases zfst_s P n with ⟨h1, -⟩ | ⟨k, h1, h2, -⟩ <;> omega
theorem zfst_c {P P' : Nat → Prop} {n : Nat} (e : ∀ k, k < n → (P k ↔ P' k)) : zfst P n = zfst P' n := zfst_e (zFst_c (zfst_s P n) e)
/-- was the byte ahead a letter -/
def zin1 (tx : Nat → Int) : Nat → Int
  | 0 => 0
  | i + 1 => if 97 ≤ tx i ∧ tx i ≤ 122 then 1 else 0
def zbmp : List (Nat × Nat) → List (Nat × Nat)
  | [] => []
  | x :: r => (x.1, x.2 + 1) :: r
/-- the words of the first i bytes, the last first: where, how long -/
def zwr (tx : Nat → Int) : Nat → List (Nat × Nat)
  | 0 => []
  | i + 1 => if 97 ≤ tx i ∧ tx i ≤ 122 then (if zin1 tx i = 1 then zbmp (zwr tx i) else (i, 1) :: zwr tx i) else zwr tx i
theorem zin1_s (tx : Nat → Int) (i : Nat) : zin1 tx (i + 1) = if 97 ≤ tx i ∧ tx i ≤ 122 then 1 else 0 := rfl
theorem zin1_r (tx : Nat → Int) (i : Nat) : zin1 tx i = 0 ∨ zin1 tx i = 1 := by
  cases i with
  | zero => exact Or.inl rfl
  | succ i => rw [zin1_s]; split <;> simp
theorem zwr_s (tx : Nat → Int) (i : Nat) : zwr tx (i + 1) = if 97 ≤ tx i ∧ tx i ≤ 122 then (if zin1 tx i = 1 then zbmp (zwr tx i) else (i, 1) :: zwr tx i) else zwr tx i := rfl
theorem zwr_b (tx : Nat → Int) : ∀ i : Nat, (∀ x ∈ zwr tx i, x.1 + x.2 ≤ i ∧ 1 ≤ x.2) ∧ (zin1 tx i = 0 → 2 * (zwr tx i).length ≤ i) ∧ (zin1 tx i = 1 → 2 * (zwr tx i).length ≤ i + 1 ∧ ∃ x r, zwr tx i = x :: r ∧ x.1 + x.2 = i)
  | 0 => ⟨by simp [zwr], fun _ => by simp [zwr], fun h => by simp [zin1] at h⟩
  | i + 1 => by
    obtain ⟨h1, h2, h3⟩ := zwr_b tx i
    rw [zwr_s, zin1_s]
    by_cases hl : 97 ≤ tx i ∧ tx i ≤ 122
    · rw [if_pos hl, if_pos hl]
      by_cases hi : zin1 tx i = 1
      · rw [if_pos hi]
        obtain ⟨h4, x, r, h5, h6⟩ := h3 hi
        rw [h5] at h1 h4 ⊢
        simp only [zbmp, List.length_cons, List.mem_cons] at h1 h4 ⊢
        refine ⟨fun y hy => ?_, fun q => by omega, fun _ => ⟨by omega, _, r, rfl, by simp only; omega⟩⟩
        rcases hy with rfl | hy
        · have := h1 x (Or.inl rfl); simp only; omega
        · have := h1 y (Or.inr hy); omega
      · rw [if_neg hi]
        have h0 : zin1 tx i = 0 := by rcases zin1_r tx i with q | q <;> omega
        have h2 := h2 h0
        simp only [List.length_cons, List.mem_cons]
        refine ⟨fun y hy => ?_, fun q => by omega, fun _ => ⟨by omega, _, _, rfl, rfl⟩⟩
        rcases hy with rfl | hy
        · simp
        · have := h1 y hy; omega
    · rw [if_neg hl, if_neg hl]
      refine ⟨fun y hy => by have := h1 y hy; omega, fun _ => ?_, fun q => by omega⟩
      rcases zin1_r tx i with q | q
      · have := h2 q; omega
      · have := (h3 q).1; omega
/-- a run of letters is a word -/
theorem zwr_run (tx : Nat → Int) {p : Nat} (hp : zin1 tx p = 0) : ∀ k : Nat, (∀ j : Nat, j < k → 97 ≤ tx (p + j) ∧ tx (p + j) ≤ 122) → zwr tx (p + k) = (if k = 0 then zwr tx p else (p, k) :: zwr tx p) ∧ (0 < k → zin1 tx (p + k) = 1)
  | 0, _ => ⟨by simp, fun h => by omega⟩
  | k + 1, h => by
    obtain ⟨h1, h2⟩ := zwr_run tx hp k (fun j hj => h j (by omega))
    have hk := h k (by omega)
    rw [show p + (k + 1) = p + k + 1 by omega, zwr_s, zin1_s, if_pos hk, if_pos hk, if_neg (show ¬ k + 1 = 0 by omega)]
    refine ⟨?_, fun _ => rfl⟩
    by_cases h0 : k = 0
    · subst h0
      rw [Nat.add_zero, hp, if_neg (by omega)]
    · rw [h2 (by omega), if_pos rfl, h1, if_neg h0]
      rfl
def zwrel (st sz : Nat → Int) : List (Nat × Nat) → Prop
  | [] => True
  | x :: r => st r.length = x.1 ∧ sz r.length = x.2 ∧ zwrel st sz r
theorem zwrel_c {st sz st' sz' : Nat → Int} : ∀ {l : List (Nat × Nat)}, (∀ j : Nat, j < l.length → st' j = st j ∧ sz' j = sz j) → zwrel st sz l → zwrel st' sz' l
  | [], _, _ => trivial
  | x :: r, h, hr => ⟨by rw [(h r.length (by simp)).1]; exact hr.1, by rw [(h r.length (by simp)).2]; exact hr.2.1, zwrel_c (fun j hj => h j (by simp; omega)) hr.2.2⟩
theorem zwrel_g {st sz : Nat → Int} : ∀ {l : List (Nat × Nat)} (w : Nat), w < l.length → zwrel st sz l → ∃ x ∈ l, l.drop (l.length - (w + 1)) = x :: l.drop (l.length - w) ∧ st w = x.1 ∧ sz w = x.2
  | [], w, h, _ => by simp at h
  | x :: r, w, h, hr => by
    simp only [List.length_cons] at h ⊢
    by_cases e : w = r.length
    · subst e
      refine ⟨x, by simp, ?_, hr.1, hr.2.1⟩
      rw [show r.length + 1 - (r.length + 1) = 0 by omega, show r.length + 1 - r.length = 1 by omega]
      rfl
    · obtain ⟨y, h0, h1, h2⟩ := zwrel_g (l := r) w (by omega) hr.2.2
      refine ⟨y, by simp [h0], ?_, h2⟩
      rw [show r.length + 1 - (w + 1) = (r.length - (w + 1)) + 1 by omega, show r.length + 1 - w = (r.length - w) + 1 by omega]
      exact h1
noncomputable def zcue (ws lt tx : Nat → Int) (x : Nat × Nat) : Int := zfst (zWdC ws lt (fun i => tx (x.1 + i)) x.2) 8
theorem zcue_r (ws lt tx : Nat → Int) (x : Nat × Nat) : -1 ≤ zcue ws lt tx x ∧ zcue ws lt tx x ≤ 7 := by
  have := zfst_r (zWdC ws lt (fun i => tx (x.1 + i)) x.2) 8
  unfold zcue
  omega
/-- the cues among words, the last first -/
noncomputable def zcr (cu : Nat × Nat → Int) : List (Nat × Nat) → List Int
  | [] => []
  | x :: r => if 0 ≤ cu x then cu x :: zcr cu r else zcr cu r
theorem zcr_s (cu : Nat × Nat → Int) (x : Nat × Nat) (r : List (Nat × Nat)) : zcr cu (x :: r) = if 0 ≤ cu x then cu x :: zcr cu r else zcr cu r := rfl
theorem zcr_l (cu : Nat × Nat → Int) : ∀ l : List (Nat × Nat), (zcr cu l).length ≤ l.length
  | [] => Nat.le_refl 0
  | x :: r => by
    have := zcr_l cu r
    rw [zcr_s]
    split <;> simp <;> omega
def zlrel (a : Nat → Int) : List Int → Prop
  | [] => True
  | x :: r => a r.length = x ∧ zlrel a r
theorem zlrel_c {a a' : Nat → Int} : ∀ {l : List Int}, (∀ j : Nat, j < l.length → a' j = a j) → zlrel a l → zlrel a' l
  | [], _, _ => trivial
  | x :: r, h, hr => ⟨by rw [h r.length (by simp)]; exact hr.1, zlrel_c (fun j hj => h j (by simp; omega)) hr.2⟩
theorem zlrel_e {a a' : Nat → Int} : ∀ {l : List Int}, zlrel a l → zlrel a' l → ∀ j : Nat, j < l.length → a' j = a j ∧ a j ∈ l
  | [], _, _, j, hj => by simp at hj
  | x :: r, h, h', j, hj => by
    simp only [List.length_cons] at hj
    by_cases e : j = r.length
    · subst e
      exact ⟨by rw [h'.1, h.1], by rw [h.1]; simp⟩
    · have := zlrel_e h.2 h'.2 j (by omega)
      exact ⟨this.1, by simp [this.2]⟩
theorem zcr_m (cu : Nat × Nat → Int) (hc : ∀ x, -1 ≤ cu x ∧ cu x ≤ 7) : ∀ l : List (Nat × Nat), ∀ y ∈ zcr cu l, 0 ≤ y ∧ y ≤ 7
  | [], y, hy => by simp [zcr] at hy
  | x :: r, y, hy => by
    rw [zcr_s] at hy
    have hx := hc x
    split at hy
    · rcases List.mem_cons.mp hy with rfl | hy
      · omega
      · exact zcr_m cu hc r y hy
    · exact zcr_m cu hc r y hy
set_option maxRecDepth 100000 in
theorem zl_split66 {xs : Nat → Int} {L d b1 b2 : Nat} {H0 : zH} {Q : zQ} {n i : Nat} (hi : i < n) (hn4 : n ≤ 400) (hx : ∀ (H : zH) (l4 l3 : Option zV), (zmd (zin [3, 4, 5] [(2, 4)]) H0 H) → (∀ j : Nat, j < (i + 1) → zA H 3 j = zsml (zA H0 3 j)) → (∀ j : Nat, (i + 1) ≤ j → zA H 3 j = zA H0 3 j) → (zA H 2 4 = ((zwr (fun j => zsml (zA H0 3 j)) (i + 1)).length : Nat)) → (zwrel (zA H 4) (zA H 5) (zwr (fun j => zsml (zA H0 3 j)) (i + 1))) → zEt xs L d b1 b2 false 36 9 [some (zr (some 2)), some (zi (zin1 (fun j => zsml (zA H0 3 j)) (i + 1))), some (zi ((i + 1 : Nat) : Int)), l3, l4] [] H Q) {H : zH} {l4 : Option zV} (hL : zLay H) (hm : zmd (zin [3, 4, 5] [(2, 4)]) H0 H) (ht : ∀ j : Nat, j < i + 1 → zA H 3 j = zsml (zA H0 3 j)) (ht2 : ∀ j : Nat, i + 1 ≤ j → zA H 3 j = zA H0 3 j) (hc : zA H 2 4 = ((zwr (fun j => zsml (zA H0 3 j)) i).length : Nat)) (hr : zwrel (zA H 4) (zA H 5) (zwr (fun j => zsml (zA H0 3 j)) i)) : zEt xs L d b1 b2 false 36 66 [some (zr (some 2)), some (zi (zin1 (fun j => zsml (zA H0 3 j)) i)), some (zi i), some (zi (zsml (zA H0 3 i))), l4] [] H Q := by
  obtain ⟨w1, w2, w3⟩ := zwr_b (fun j => zsml (zA H0 3 j)) i
  have hz := zin1_r (fun j => zsml (zA H0 3 j)) i
  have hx := hx
  simp only [zwr_s, zin1_s] at hx
  have hnew : 97 ≤ zsml (zA H0 3 i) ∧ zsml (zA H0 3 i) ≤ 122 → zEt xs L d b1 b2 false 36 83 [some (zr (some 2)), some (zi (zin1 (fun j => zsml (zA H0 3 j)) i)), some (zi i), some (zi (zsml (zA H0 3 i))), l4] [zi 1] H Q := by
    intro hl
    rw [if_pos hl, if_pos hl] at hx
    rcases hz with hz | hz
    · have w2 := w2 hz
      rw [hz, if_neg (by omega)] at hx
      rw [hz]
      refine zgo_at [9] 8 ?_
      try simp only [zgn_0, zgn_s, zct_0, zct_s, Nat.reduceEqDiff, Nat.reduceBEq, Nat.reduceAdd, Nat.reduceSub, Nat.reduceMul, Int.reduceAdd, Int.reduceSub, Int.reduceMul, Int.reduceNeg, Int.reduceLT, Int.reduceLE, Int.reduceEq, Nat.zero_add, true_and, and_true, false_and, and_false, true_imp_iff, false_imp_iff, not_true_eq_false, not_false_eq_true, if_true, if_false, Bool.false_eq_true, ite_true, ite_false, reduceIte, eq_self, Int.toNat_natCast, zst_0, zst_1, zst_2, zst_3, zst_4, true_or, or_true, or_false, false_or, ze_36_0, zB_36_0, ze_36_9, zB_36_9, ze_36_42, zB_36_42, ze_36_44, zB_36_44, ze_36_66, zB_36_66, ze_36_82, zB_36_82, ze_36_83, zB_36_83, ze_36_124, zB_36_124, ze_36_144, zB_36_144, ze_36_153, zB_36_153, zbr_t, zbr_f, zrun_c, zmI_s, zmL_s, zmR_s, zgt_0, zgt_s, zln_0, zln_s, zs1_0, zs1_1i, zs1_1r, zs1_1n, zs1_1l, zs1_s, zs2_0, zs2_1i, zs2_1r, zs2_1n, zs2_1l, zs2_s, zcn_eq, zcn_ne, zcn_lt, zcn_ge, zcn_gt, zcn_le, zpu_0, zpu_1, zpu_2, zx_iconst, zx_lconst, zx_ldc, zx_ldc2, zx_null, zx_iload, zx_lload, zx_aload, zx_istore, zx_lstore, zx_astore, zx_iinc, zx_iadd, zx_isub, zx_imul, zx_idiv, zx_irem, zx_iand, zx_ior, zx_ixor, zx_ishl, zx_ishr, zx_iushr, zx_i2b, zx_i2l, zx_l2i, zx_ladd, zx_lmul, zx_ldiv, zx_lrem, zx_land, zx_lor, zx_lshl, zx_lshr, zx_lcmp, zx_dupi, zx_dupr, zx_dup2l, zx_dup2i, zx_pop, zx_ifc, zx_icmp, zx_ifnullN, zx_ifnullS, zx_ifnonN, zx_ifnonS, zx_goto, zx_gotow, zx_switch, zx_iaload, zx_baload, zx_laload, zx_aaload, zx_iastore, zx_bastore, zx_lastore, zx_aastore, zx_alen, zx_newarray, zx_anewarray, zx_new, zx_getI, zx_getL, zx_getR, zx_putI, zx_putZ, zx_putL, zx_putR, zx_callS, zx_callV, zx_objinit, zx_cpyi, zx_cpyl, zx_mmax, zx_mmin, zx_mminl, zx_ireturn, zx_areturn, zx_lreturn, zx_return, zcs_0, zcs_1, zcv_1, zcs_2, zcv_2, zcs_3, zcv_3, zcs_4, zcv_4, zcs_5, zcv_5, zcs_6, zcv_6, zcs_7, zcv_7, Int.reduceToNat, Nat.reduceDiv, Nat.reduceMod, zJ, zC, zK_wA, zN_wA, zR_wA, zS_wA, zA_wA, zK_wR, zN_wR, zR_wR, zS_wR, zA_wR, zK_cp, zN_cp, zR_cp, zS_cp, zA_cp, zK_mp, zN_mp, zR_mp, zS_mp, zA_mp, zfa, zfmm, zfa_1, zfb_1, zfa_2, zfb_2, zfa_3, zfb_3, zfa_4, zfb_4, zfa_5, zfb_5, zfa_6, zfb_6, zfa_7, zfb_7, zfa_8, zfb_8, zfa_9, zfb_9, zfa_10, zfb_10, zfa_12, zfb_12, zfa_20, zfb_20, zfa_21, zfb_21, zfa_30, zfb_30, zfa_48, zfb_48, zfa_60, zfb_60, zfa_61, zfb_61, zfa_65, zfb_65, zfa_97, zfb_97, zfa_100, zfb_100, zfa_120, zfb_120, zfa_124, zfb_124, zfa_500, zfb_500, zfa_792, zfb_792, zfa_2989, zfb_2989, zfm_2, zfn_2, zfm_3, zfn_3, zfm_4, zfn_4, zfm_6, zfn_6, zfm_7, zfn_7, zfm_8, zfn_8, zfm_12, zfn_12, zfm_49, zfn_49, zfm_60, zfn_60, zfm_61, zfn_61, zfm_792, zfn_792, zfm_2989, zfn_2989, Int.zero_add, Int.add_zero, Int.zero_mul, Int.mul_zero, Int.one_mul, Int.mul_one, lk_2 hL, lr_2_0 hL, lk_3 hL, ln_3 hL, lr_2_1 hL, lk_4 hL, ln_4 hL, lr_2_2 hL, lk_5 hL, ln_5 hL, hc]
      repeat (refine And.intro (by first | omega | (simp only [z32, z64]; omega)) ?_)
      rw [show (((zwr (fun j => zsml (zA H0 3 j)) i).length + 1 : Nat) : Int) - 1 = ((zwr (fun j => zsml (zA H0 3 j)) i).length : Nat) by omega]
      try simp only [zgn_0, zgn_s, zct_0, zct_s, Nat.reduceEqDiff, Nat.reduceBEq, Nat.reduceAdd, Nat.reduceSub, Nat.reduceMul, Int.reduceAdd, Int.reduceSub, Int.reduceMul, Int.reduceNeg, Int.reduceLT, Int.reduceLE, Int.reduceEq, Nat.zero_add, true_and, and_true, false_and, and_false, true_imp_iff, false_imp_iff, not_true_eq_false, not_false_eq_true, if_true, if_false, Bool.false_eq_true, ite_true, ite_false, reduceIte, eq_self, Int.toNat_natCast, zst_0, zst_1, zst_2, zst_3, zst_4, true_or, or_true, or_false, false_or, ze_36_0, zB_36_0, ze_36_9, zB_36_9, ze_36_42, zB_36_42, ze_36_44, zB_36_44, ze_36_66, zB_36_66, ze_36_82, zB_36_82, ze_36_83, zB_36_83, ze_36_124, zB_36_124, ze_36_144, zB_36_144, ze_36_153, zB_36_153, zbr_t, zbr_f, zrun_c, zmI_s, zmL_s, zmR_s, zgt_0, zgt_s, zln_0, zln_s, zs1_0, zs1_1i, zs1_1r, zs1_1n, zs1_1l, zs1_s, zs2_0, zs2_1i, zs2_1r, zs2_1n, zs2_1l, zs2_s, zcn_eq, zcn_ne, zcn_lt, zcn_ge, zcn_gt, zcn_le, zpu_0, zpu_1, zpu_2, zx_iconst, zx_lconst, zx_ldc, zx_ldc2, zx_null, zx_iload, zx_lload, zx_aload, zx_istore, zx_lstore, zx_astore, zx_iinc, zx_iadd, zx_isub, zx_imul, zx_idiv, zx_irem, zx_iand, zx_ior, zx_ixor, zx_ishl, zx_ishr, zx_iushr, zx_i2b, zx_i2l, zx_l2i, zx_ladd, zx_lmul, zx_ldiv, zx_lrem, zx_land, zx_lor, zx_lshl, zx_lshr, zx_lcmp, zx_dupi, zx_dupr, zx_dup2l, zx_dup2i, zx_pop, zx_ifc, zx_icmp, zx_ifnullN, zx_ifnullS, zx_ifnonN, zx_ifnonS, zx_goto, zx_gotow, zx_switch, zx_iaload, zx_baload, zx_laload, zx_aaload, zx_iastore, zx_bastore, zx_lastore, zx_aastore, zx_alen, zx_newarray, zx_anewarray, zx_new, zx_getI, zx_getL, zx_getR, zx_putI, zx_putZ, zx_putL, zx_putR, zx_callS, zx_callV, zx_objinit, zx_cpyi, zx_cpyl, zx_mmax, zx_mmin, zx_mminl, zx_ireturn, zx_areturn, zx_lreturn, zx_return, zcs_0, zcs_1, zcv_1, zcs_2, zcv_2, zcs_3, zcv_3, zcs_4, zcv_4, zcs_5, zcv_5, zcs_6, zcv_6, zcs_7, zcv_7, Int.reduceToNat, Nat.reduceDiv, Nat.reduceMod, zJ, zC, zK_wA, zN_wA, zR_wA, zS_wA, zA_wA, zK_wR, zN_wR, zR_wR, zS_wR, zA_wR, zK_cp, zN_cp, zR_cp, zS_cp, zA_cp, zK_mp, zN_mp, zR_mp, zS_mp, zA_mp, zfa, zfmm, zfa_1, zfb_1, zfa_2, zfb_2, zfa_3, zfb_3, zfa_4, zfb_4, zfa_5, zfb_5, zfa_6, zfb_6, zfa_7, zfb_7, zfa_8, zfb_8, zfa_9, zfb_9, zfa_10, zfb_10, zfa_12, zfb_12, zfa_20, zfb_20, zfa_21, zfb_21, zfa_30, zfb_30, zfa_48, zfb_48, zfa_60, zfb_60, zfa_61, zfb_61, zfa_65, zfb_65, zfa_97, zfb_97, zfa_100, zfb_100, zfa_120, zfb_120, zfa_124, zfb_124, zfa_500, zfb_500, zfa_792, zfb_792, zfa_2989, zfb_2989, zfm_2, zfn_2, zfm_3, zfn_3, zfm_4, zfn_4, zfm_6, zfn_6, zfm_7, zfn_7, zfm_8, zfn_8, zfm_12, zfn_12, zfm_49, zfn_49, zfm_60, zfn_60, zfm_61, zfn_61, zfm_792, zfn_792, zfm_2989, zfn_2989, Int.zero_add, Int.add_zero, Int.zero_mul, Int.mul_zero, Int.one_mul, Int.mul_one, lk_2 hL, lr_2_0 hL, lk_3 hL, ln_3 hL, lr_2_1 hL, lk_4 hL, ln_4 hL, lr_2_2 hL, lk_5 hL, ln_5 hL, hc]
      repeat (refine And.intro (by first | omega | (simp only [z32, z64]; omega)) ?_)
      refine hx _ _ _ ?_ (fun j hj => ?_) (fun j hj => ?_) ?_ ?_
      · exact zmd_w (zmd_w (zmd_w (zmd_w hm rfl) rfl) rfl) rfl
      · simp only [zA_wA]; simp; exact ht j hj
      · simp only [zA_wA]; simp; exact ht2 j hj
      · simp only [zA_wA]; simp
      · simp only [zAn_wA, ne_eq, Nat.reduceEqDiff, not_false_eq_true]
        refine ⟨by simp [zA_wA], by simp [zA_wA], zwrel_c (fun j hj => ?_) hr⟩
        have hne : ¬ j = (zwr (fun j => zsml (zA H0 3 j)) i).length := by omega
        simp [zA_wA, hne]
    · obtain ⟨w4, x, r, w5, w6⟩ := w3 hz
      rw [w5] at hc hr w4 hx
      rw [hz, if_pos rfl] at hx
      rw [hz]
      simp only [List.length_cons] at hc w4
      refine zgo_at [9] 8 ?_
      try simp only [zgn_0, zgn_s, zct_0, zct_s, Nat.reduceEqDiff, Nat.reduceBEq, Nat.reduceAdd, Nat.reduceSub, Nat.reduceMul, Int.reduceAdd, Int.reduceSub, Int.reduceMul, Int.reduceNeg, Int.reduceLT, Int.reduceLE, Int.reduceEq, Nat.zero_add, true_and, and_true, false_and, and_false, true_imp_iff, false_imp_iff, not_true_eq_false, not_false_eq_true, if_true, if_false, Bool.false_eq_true, ite_true, ite_false, reduceIte, eq_self, Int.toNat_natCast, zst_0, zst_1, zst_2, zst_3, zst_4, true_or, or_true, or_false, false_or, ze_36_0, zB_36_0, ze_36_9, zB_36_9, ze_36_42, zB_36_42, ze_36_44, zB_36_44, ze_36_66, zB_36_66, ze_36_82, zB_36_82, ze_36_83, zB_36_83, ze_36_124, zB_36_124, ze_36_144, zB_36_144, ze_36_153, zB_36_153, zbr_t, zbr_f, zrun_c, zmI_s, zmL_s, zmR_s, zgt_0, zgt_s, zln_0, zln_s, zs1_0, zs1_1i, zs1_1r, zs1_1n, zs1_1l, zs1_s, zs2_0, zs2_1i, zs2_1r, zs2_1n, zs2_1l, zs2_s, zcn_eq, zcn_ne, zcn_lt, zcn_ge, zcn_gt, zcn_le, zpu_0, zpu_1, zpu_2, zx_iconst, zx_lconst, zx_ldc, zx_ldc2, zx_null, zx_iload, zx_lload, zx_aload, zx_istore, zx_lstore, zx_astore, zx_iinc, zx_iadd, zx_isub, zx_imul, zx_idiv, zx_irem, zx_iand, zx_ior, zx_ixor, zx_ishl, zx_ishr, zx_iushr, zx_i2b, zx_i2l, zx_l2i, zx_ladd, zx_lmul, zx_ldiv, zx_lrem, zx_land, zx_lor, zx_lshl, zx_lshr, zx_lcmp, zx_dupi, zx_dupr, zx_dup2l, zx_dup2i, zx_pop, zx_ifc, zx_icmp, zx_ifnullN, zx_ifnullS, zx_ifnonN, zx_ifnonS, zx_goto, zx_gotow, zx_switch, zx_iaload, zx_baload, zx_laload, zx_aaload, zx_iastore, zx_bastore, zx_lastore, zx_aastore, zx_alen, zx_newarray, zx_anewarray, zx_new, zx_getI, zx_getL, zx_getR, zx_putI, zx_putZ, zx_putL, zx_putR, zx_callS, zx_callV, zx_objinit, zx_cpyi, zx_cpyl, zx_mmax, zx_mmin, zx_mminl, zx_ireturn, zx_areturn, zx_lreturn, zx_return, zcs_0, zcs_1, zcv_1, zcs_2, zcv_2, zcs_3, zcv_3, zcs_4, zcv_4, zcs_5, zcv_5, zcs_6, zcv_6, zcs_7, zcv_7, Int.reduceToNat, Nat.reduceDiv, Nat.reduceMod, zJ, zC, zK_wA, zN_wA, zR_wA, zS_wA, zA_wA, zK_wR, zN_wR, zR_wR, zS_wR, zA_wR, zK_cp, zN_cp, zR_cp, zS_cp, zA_cp, zK_mp, zN_mp, zR_mp, zS_mp, zA_mp, zfa, zfmm, zfa_1, zfb_1, zfa_2, zfb_2, zfa_3, zfb_3, zfa_4, zfb_4, zfa_5, zfb_5, zfa_6, zfb_6, zfa_7, zfb_7, zfa_8, zfb_8, zfa_9, zfb_9, zfa_10, zfb_10, zfa_12, zfb_12, zfa_20, zfb_20, zfa_21, zfb_21, zfa_30, zfb_30, zfa_48, zfb_48, zfa_60, zfb_60, zfa_61, zfb_61, zfa_65, zfb_65, zfa_97, zfb_97, zfa_100, zfb_100, zfa_120, zfb_120, zfa_124, zfb_124, zfa_500, zfb_500, zfa_792, zfb_792, zfa_2989, zfb_2989, zfm_2, zfn_2, zfm_3, zfn_3, zfm_4, zfn_4, zfm_6, zfn_6, zfm_7, zfn_7, zfm_8, zfn_8, zfm_12, zfn_12, zfm_49, zfn_49, zfm_60, zfn_60, zfm_61, zfn_61, zfm_792, zfn_792, zfm_2989, zfn_2989, Int.zero_add, Int.add_zero, Int.zero_mul, Int.mul_zero, Int.one_mul, Int.mul_one, lk_2 hL, lr_2_0 hL, lk_3 hL, ln_3 hL, lr_2_1 hL, lk_4 hL, ln_4 hL, lr_2_2 hL, lk_5 hL, ln_5 hL, hc]
      rw [show ((r.length + 1 : Nat) : Int) - 1 = (r.length : Nat) by omega]
      try simp only [zgn_0, zgn_s, zct_0, zct_s, Nat.reduceEqDiff, Nat.reduceBEq, Nat.reduceAdd, Nat.reduceSub, Nat.reduceMul, Int.reduceAdd, Int.reduceSub, Int.reduceMul, Int.reduceNeg, Int.reduceLT, Int.reduceLE, Int.reduceEq, Nat.zero_add, true_and, and_true, false_and, and_false, true_imp_iff, false_imp_iff, not_true_eq_false, not_false_eq_true, if_true, if_false, Bool.false_eq_true, ite_true, ite_false, reduceIte, eq_self, Int.toNat_natCast, zst_0, zst_1, zst_2, zst_3, zst_4, true_or, or_true, or_false, false_or, ze_36_0, zB_36_0, ze_36_9, zB_36_9, ze_36_42, zB_36_42, ze_36_44, zB_36_44, ze_36_66, zB_36_66, ze_36_82, zB_36_82, ze_36_83, zB_36_83, ze_36_124, zB_36_124, ze_36_144, zB_36_144, ze_36_153, zB_36_153, zbr_t, zbr_f, zrun_c, zmI_s, zmL_s, zmR_s, zgt_0, zgt_s, zln_0, zln_s, zs1_0, zs1_1i, zs1_1r, zs1_1n, zs1_1l, zs1_s, zs2_0, zs2_1i, zs2_1r, zs2_1n, zs2_1l, zs2_s, zcn_eq, zcn_ne, zcn_lt, zcn_ge, zcn_gt, zcn_le, zpu_0, zpu_1, zpu_2, zx_iconst, zx_lconst, zx_ldc, zx_ldc2, zx_null, zx_iload, zx_lload, zx_aload, zx_istore, zx_lstore, zx_astore, zx_iinc, zx_iadd, zx_isub, zx_imul, zx_idiv, zx_irem, zx_iand, zx_ior, zx_ixor, zx_ishl, zx_ishr, zx_iushr, zx_i2b, zx_i2l, zx_l2i, zx_ladd, zx_lmul, zx_ldiv, zx_lrem, zx_land, zx_lor, zx_lshl, zx_lshr, zx_lcmp, zx_dupi, zx_dupr, zx_dup2l, zx_dup2i, zx_pop, zx_ifc, zx_icmp, zx_ifnullN, zx_ifnullS, zx_ifnonN, zx_ifnonS, zx_goto, zx_gotow, zx_switch, zx_iaload, zx_baload, zx_laload, zx_aaload, zx_iastore, zx_bastore, zx_lastore, zx_aastore, zx_alen, zx_newarray, zx_anewarray, zx_new, zx_getI, zx_getL, zx_getR, zx_putI, zx_putZ, zx_putL, zx_putR, zx_callS, zx_callV, zx_objinit, zx_cpyi, zx_cpyl, zx_mmax, zx_mmin, zx_mminl, zx_ireturn, zx_areturn, zx_lreturn, zx_return, zcs_0, zcs_1, zcv_1, zcs_2, zcv_2, zcs_3, zcv_3, zcs_4, zcv_4, zcs_5, zcv_5, zcs_6, zcv_6, zcs_7, zcv_7, Int.reduceToNat, Nat.reduceDiv, Nat.reduceMod, zJ, zC, zK_wA, zN_wA, zR_wA, zS_wA, zA_wA, zK_wR, zN_wR, zR_wR, zS_wR, zA_wR, zK_cp, zN_cp, zR_cp, zS_cp, zA_cp, zK_mp, zN_mp, zR_mp, zS_mp, zA_mp, zfa, zfmm, zfa_1, zfb_1, zfa_2, zfb_2, zfa_3, zfb_3, zfa_4, zfb_4, zfa_5, zfb_5, zfa_6, zfb_6, zfa_7, zfb_7, zfa_8, zfb_8, zfa_9, zfb_9, zfa_10, zfb_10, zfa_12, zfb_12, zfa_20, zfb_20, zfa_21, zfb_21, zfa_30, zfb_30, zfa_48, zfb_48, zfa_60, zfb_60, zfa_61, zfb_61, zfa_65, zfb_65, zfa_97, zfb_97, zfa_100, zfb_100, zfa_120, zfb_120, zfa_124, zfb_124, zfa_500, zfb_500, zfa_792, zfb_792, zfa_2989, zfb_2989, zfm_2, zfn_2, zfm_3, zfn_3, zfm_4, zfn_4, zfm_6, zfn_6, zfm_7, zfn_7, zfm_8, zfn_8, zfm_12, zfn_12, zfm_49, zfn_49, zfm_60, zfn_60, zfm_61, zfn_61, zfm_792, zfn_792, zfm_2989, zfn_2989, Int.zero_add, Int.add_zero, Int.zero_mul, Int.mul_zero, Int.one_mul, Int.mul_one, lk_2 hL, lr_2_0 hL, lk_3 hL, ln_3 hL, lr_2_1 hL, lk_4 hL, ln_4 hL, lr_2_2 hL, lk_5 hL, ln_5 hL, hc, hr.2.1]
      have := w1 x (by rw [w5]; simp)
      repeat (refine And.intro (by first | omega | (simp only [z32, z64]; omega)) ?_)
      refine hx _ _ _ ?_ (fun j hj => ?_) (fun j hj => ?_) ?_ ?_
      · exact zmd_w hm rfl
      · simp only [zA_wA]; simp; exact ht j hj
      · simp only [zA_wA]; simp; exact ht2 j hj
      · simp only [zA_wA, zbmp]; simp; exact hc
      · simp only [zAn_wA, ne_eq, Nat.reduceEqDiff, not_false_eq_true]
        refine ⟨hr.1, by simp [zA_wA], zwrel_c (fun j hj => ?_) hr.2.2⟩
        have hne : ¬ j = r.length := by omega
        simp [zA_wA, hne]
  have hold : ¬ (97 ≤ zsml (zA H0 3 i) ∧ zsml (zA H0 3 i) ≤ 122) → zEt xs L d b1 b2 false 36 83 [some (zr (some 2)), some (zi (zin1 (fun j => zsml (zA H0 3 j)) i)), some (zi i), some (zi (zsml (zA H0 3 i))), l4] [zi 0] H Q := by
    intro hl
    rw [if_neg hl, if_neg hl] at hx
    refine zgo_at [9] 8 ?_
    try simp only [zgn_0, zgn_s, zct_0, zct_s, Nat.reduceEqDiff, Nat.reduceBEq, Nat.reduceAdd, Nat.reduceSub, Nat.reduceMul, Int.reduceAdd, Int.reduceSub, Int.reduceMul, Int.reduceNeg, Int.reduceLT, Int.reduceLE, Int.reduceEq, Nat.zero_add, true_and, and_true, false_and, and_false, true_imp_iff, false_imp_iff, not_true_eq_false, not_false_eq_true, if_true, if_false, Bool.false_eq_true, ite_true, ite_false, reduceIte, eq_self, Int.toNat_natCast, zst_0, zst_1, zst_2, zst_3, zst_4, true_or, or_true, or_false, false_or, ze_36_0, zB_36_0, ze_36_9, zB_36_9, ze_36_42, zB_36_42, ze_36_44, zB_36_44, ze_36_66, zB_36_66, ze_36_82, zB_36_82, ze_36_83, zB_36_83, ze_36_124, zB_36_124, ze_36_144, zB_36_144, ze_36_153, zB_36_153, zbr_t, zbr_f, zrun_c, zmI_s, zmL_s, zmR_s, zgt_0, zgt_s, zln_0, zln_s, zs1_0, zs1_1i, zs1_1r, zs1_1n, zs1_1l, zs1_s, zs2_0, zs2_1i, zs2_1r, zs2_1n, zs2_1l, zs2_s, zcn_eq, zcn_ne, zcn_lt, zcn_ge, zcn_gt, zcn_le, zpu_0, zpu_1, zpu_2, zx_iconst, zx_lconst, zx_ldc, zx_ldc2, zx_null, zx_iload, zx_lload, zx_aload, zx_istore, zx_lstore, zx_astore, zx_iinc, zx_iadd, zx_isub, zx_imul, zx_idiv, zx_irem, zx_iand, zx_ior, zx_ixor, zx_ishl, zx_ishr, zx_iushr, zx_i2b, zx_i2l, zx_l2i, zx_ladd, zx_lmul, zx_ldiv, zx_lrem, zx_land, zx_lor, zx_lshl, zx_lshr, zx_lcmp, zx_dupi, zx_dupr, zx_dup2l, zx_dup2i, zx_pop, zx_ifc, zx_icmp, zx_ifnullN, zx_ifnullS, zx_ifnonN, zx_ifnonS, zx_goto, zx_gotow, zx_switch, zx_iaload, zx_baload, zx_laload, zx_aaload, zx_iastore, zx_bastore, zx_lastore, zx_aastore, zx_alen, zx_newarray, zx_anewarray, zx_new, zx_getI, zx_getL, zx_getR, zx_putI, zx_putZ, zx_putL, zx_putR, zx_callS, zx_callV, zx_objinit, zx_cpyi, zx_cpyl, zx_mmax, zx_mmin, zx_mminl, zx_ireturn, zx_areturn, zx_lreturn, zx_return, zcs_0, zcs_1, zcv_1, zcs_2, zcv_2, zcs_3, zcv_3, zcs_4, zcv_4, zcs_5, zcv_5, zcs_6, zcv_6, zcs_7, zcv_7, Int.reduceToNat, Nat.reduceDiv, Nat.reduceMod, zJ, zC, zK_wA, zN_wA, zR_wA, zS_wA, zA_wA, zK_wR, zN_wR, zR_wR, zS_wR, zA_wR, zK_cp, zN_cp, zR_cp, zS_cp, zA_cp, zK_mp, zN_mp, zR_mp, zS_mp, zA_mp, zfa, zfmm, zfa_1, zfb_1, zfa_2, zfb_2, zfa_3, zfb_3, zfa_4, zfb_4, zfa_5, zfb_5, zfa_6, zfb_6, zfa_7, zfb_7, zfa_8, zfb_8, zfa_9, zfb_9, zfa_10, zfb_10, zfa_12, zfb_12, zfa_20, zfb_20, zfa_21, zfb_21, zfa_30, zfb_30, zfa_48, zfb_48, zfa_60, zfb_60, zfa_61, zfb_61, zfa_65, zfb_65, zfa_97, zfb_97, zfa_100, zfb_100, zfa_120, zfb_120, zfa_124, zfb_124, zfa_500, zfb_500, zfa_792, zfb_792, zfa_2989, zfb_2989, zfm_2, zfn_2, zfm_3, zfn_3, zfm_4, zfn_4, zfm_6, zfn_6, zfm_7, zfn_7, zfm_8, zfn_8, zfm_12, zfn_12, zfm_49, zfn_49, zfm_60, zfn_60, zfm_61, zfn_61, zfm_792, zfn_792, zfm_2989, zfn_2989, Int.zero_add, Int.add_zero, Int.zero_mul, Int.mul_zero, Int.one_mul, Int.mul_one, lk_2 hL, lr_2_0 hL, lk_3 hL, ln_3 hL, lr_2_1 hL, lk_4 hL, ln_4 hL, lr_2_2 hL, lk_5 hL, ln_5 hL, hc]
    repeat (refine And.intro (by first | omega | (simp only [z32, z64]; omega)) ?_)
    exact hx _ _ _ hm ht ht2 hc hr
  refine zgo_at [83] 8 ?_
  try simp only [zgn_0, zgn_s, zct_0, zct_s, Nat.reduceEqDiff, Nat.reduceBEq, Nat.reduceAdd, Nat.reduceSub, Nat.reduceMul, Int.reduceAdd, Int.reduceSub, Int.reduceMul, Int.reduceNeg, Int.reduceLT, Int.reduceLE, Int.reduceEq, Nat.zero_add, true_and, and_true, false_and, and_false, true_imp_iff, false_imp_iff, not_true_eq_false, not_false_eq_true, if_true, if_false, Bool.false_eq_true, ite_true, ite_false, reduceIte, eq_self, Int.toNat_natCast, zst_0, zst_1, zst_2, zst_3, zst_4, true_or, or_true, or_false, false_or, ze_36_0, zB_36_0, ze_36_9, zB_36_9, ze_36_42, zB_36_42, ze_36_44, zB_36_44, ze_36_66, zB_36_66, ze_36_82, zB_36_82, ze_36_83, zB_36_83, ze_36_124, zB_36_124, ze_36_144, zB_36_144, ze_36_153, zB_36_153, zbr_t, zbr_f, zrun_c, zmI_s, zmL_s, zmR_s, zgt_0, zgt_s, zln_0, zln_s, zs1_0, zs1_1i, zs1_1r, zs1_1n, zs1_1l, zs1_s, zs2_0, zs2_1i, zs2_1r, zs2_1n, zs2_1l, zs2_s, zcn_eq, zcn_ne, zcn_lt, zcn_ge, zcn_gt, zcn_le, zpu_0, zpu_1, zpu_2, zx_iconst, zx_lconst, zx_ldc, zx_ldc2, zx_null, zx_iload, zx_lload, zx_aload, zx_istore, zx_lstore, zx_astore, zx_iinc, zx_iadd, zx_isub, zx_imul, zx_idiv, zx_irem, zx_iand, zx_ior, zx_ixor, zx_ishl, zx_ishr, zx_iushr, zx_i2b, zx_i2l, zx_l2i, zx_ladd, zx_lmul, zx_ldiv, zx_lrem, zx_land, zx_lor, zx_lshl, zx_lshr, zx_lcmp, zx_dupi, zx_dupr, zx_dup2l, zx_dup2i, zx_pop, zx_ifc, zx_icmp, zx_ifnullN, zx_ifnullS, zx_ifnonN, zx_ifnonS, zx_goto, zx_gotow, zx_switch, zx_iaload, zx_baload, zx_laload, zx_aaload, zx_iastore, zx_bastore, zx_lastore, zx_aastore, zx_alen, zx_newarray, zx_anewarray, zx_new, zx_getI, zx_getL, zx_getR, zx_putI, zx_putZ, zx_putL, zx_putR, zx_callS, zx_callV, zx_objinit, zx_cpyi, zx_cpyl, zx_mmax, zx_mmin, zx_mminl, zx_ireturn, zx_areturn, zx_lreturn, zx_return, zcs_0, zcs_1, zcv_1, zcs_2, zcv_2, zcs_3, zcv_3, zcs_4, zcv_4, zcs_5, zcv_5, zcs_6, zcv_6, zcs_7, zcv_7, Int.reduceToNat, Nat.reduceDiv, Nat.reduceMod, zJ, zC, zK_wA, zN_wA, zR_wA, zS_wA, zA_wA, zK_wR, zN_wR, zR_wR, zS_wR, zA_wR, zK_cp, zN_cp, zR_cp, zS_cp, zA_cp, zK_mp, zN_mp, zR_mp, zS_mp, zA_mp, zfa, zfmm, zfa_1, zfb_1, zfa_2, zfb_2, zfa_3, zfb_3, zfa_4, zfb_4, zfa_5, zfb_5, zfa_6, zfb_6, zfa_7, zfb_7, zfa_8, zfb_8, zfa_9, zfb_9, zfa_10, zfb_10, zfa_12, zfb_12, zfa_20, zfb_20, zfa_21, zfb_21, zfa_30, zfb_30, zfa_48, zfb_48, zfa_60, zfb_60, zfa_61, zfb_61, zfa_65, zfb_65, zfa_97, zfb_97, zfa_100, zfb_100, zfa_120, zfb_120, zfa_124, zfb_124, zfa_500, zfb_500, zfa_792, zfb_792, zfa_2989, zfb_2989, zfm_2, zfn_2, zfm_3, zfn_3, zfm_4, zfn_4, zfm_6, zfn_6, zfm_7, zfn_7, zfm_8, zfn_8, zfm_12, zfn_12, zfm_49, zfn_49, zfm_60, zfn_60, zfm_61, zfn_61, zfm_792, zfn_792, zfm_2989, zfn_2989, Int.zero_add, Int.add_zero, Int.zero_mul, Int.mul_zero, Int.one_mul, Int.mul_one, lk_2 hL, lr_2_0 hL, lk_3 hL, ln_3 hL, lr_2_1 hL, lk_4 hL, ln_4 hL, lr_2_2 hL, lk_5 hL, ln_5 hL, hc]
  refine zbr_i (fun q => hold (by omega)) (fun q => zbr_i (fun q1 => hold (by omega)) (fun q1 => hnew (by omega)))
set_option maxRecDepth 100000 in
theorem zl_split {xs : Nat → Int} {L d b1 b2 : Nat} {H0 : zH} {Q : zQ} {n : Nat} (hL0 : zLay H0) (hn : zA H0 2 3 = n) (hn4 : n ≤ 400) (hb : ∀ j : Nat, j < n → 0 ≤ zA H0 3 j ∧ zA H0 3 j ≤ 255) (h0 : (∃ i : Nat, i < n ∧ ¬ (zA H0 3 i = 10 ∨ 32 ≤ zA H0 3 i ∧ zA H0 3 i ≤ 126)) → ∀ H', zmd (zin [3, 4, 5] [(2, 4)]) H0 H' → Q 0 H') (h1 : (∀ i : Nat, i < n → (zA H0 3 i = 10 ∨ 32 ≤ zA H0 3 i ∧ zA H0 3 i ≤ 126)) → ∀ H', zmd (zin [3, 4, 5] [(2, 4)]) H0 H' → (∀ j : Nat, j < n → zA H' 3 j = zsml (zA H0 3 j)) → zA H' 2 4 = ((zwr (fun j => zsml (zA H0 3 j)) n).length : Nat) → zwrel (zA H' 4) (zA H' 5) (zwr (fun j => zsml (zA H0 3 j)) n) → Q 1 H') : ∀ (kk : Nat) (i : Nat) (H : zH) (l3 : Option zV) (l4 : Option zV), n - i = kk → (i ≤ n) → (∀ j : Nat, j < i → (zA H0 3 j = 10 ∨ 32 ≤ zA H0 3 j ∧ zA H0 3 j ≤ 126)) → (zmd (zin [3, 4, 5] [(2, 4)]) H0 H) → (∀ j : Nat, j < i → zA H 3 j = zsml (zA H0 3 j)) → (∀ j : Nat, i ≤ j → zA H 3 j = zA H0 3 j) → (zA H 2 4 = ((zwr (fun j => zsml (zA H0 3 j)) i).length : Nat)) → (zwrel (zA H 4) (zA H 5) (zwr (fun j => zsml (zA H0 3 j)) i)) → zEt xs L d b1 b2 false 36 9 [some (zr (some 2)), some (zi (zin1 (fun j => zsml (zA H0 3 j)) i)), some (zi i), l3, l4] [] H Q := by
  intro kk
  induction kk using Nat.strongRecOn with
  | ind kk ih =>
    intro i H l3 l4 hkk hi hg hm ht ht2 hc hr
    refine zgo_at [9, 66] 8 ?_
    try simp only [zgn_0, zgn_s, zct_0, zct_s, Nat.reduceEqDiff, Nat.reduceBEq, Nat.reduceAdd, Nat.reduceSub, Nat.reduceMul, Int.reduceAdd, Int.reduceSub, Int.reduceMul, Int.reduceNeg, Int.reduceLT, Int.reduceLE, Int.reduceEq, Nat.zero_add, true_and, and_true, false_and, and_false, true_imp_iff, false_imp_iff, not_true_eq_false, not_false_eq_true, if_true, if_false, Bool.false_eq_true, ite_true, ite_false, reduceIte, eq_self, Int.toNat_natCast, zst_0, zst_1, zst_2, zst_3, zst_4, true_or, or_true, or_false, false_or, ze_36_0, zB_36_0, ze_36_9, zB_36_9, ze_36_42, zB_36_42, ze_36_44, zB_36_44, ze_36_66, zB_36_66, ze_36_82, zB_36_82, ze_36_83, zB_36_83, ze_36_124, zB_36_124, ze_36_144, zB_36_144, ze_36_153, zB_36_153, zbr_t, zbr_f, zrun_c, zmI_s, zmL_s, zmR_s, zgt_0, zgt_s, zln_0, zln_s, zs1_0, zs1_1i, zs1_1r, zs1_1n, zs1_1l, zs1_s, zs2_0, zs2_1i, zs2_1r, zs2_1n, zs2_1l, zs2_s, zcn_eq, zcn_ne, zcn_lt, zcn_ge, zcn_gt, zcn_le, zpu_0, zpu_1, zpu_2, zx_iconst, zx_lconst, zx_ldc, zx_ldc2, zx_null, zx_iload, zx_lload, zx_aload, zx_istore, zx_lstore, zx_astore, zx_iinc, zx_iadd, zx_isub, zx_imul, zx_idiv, zx_irem, zx_iand, zx_ior, zx_ixor, zx_ishl, zx_ishr, zx_iushr, zx_i2b, zx_i2l, zx_l2i, zx_ladd, zx_lmul, zx_ldiv, zx_lrem, zx_land, zx_lor, zx_lshl, zx_lshr, zx_lcmp, zx_dupi, zx_dupr, zx_dup2l, zx_dup2i, zx_pop, zx_ifc, zx_icmp, zx_ifnullN, zx_ifnullS, zx_ifnonN, zx_ifnonS, zx_goto, zx_gotow, zx_switch, zx_iaload, zx_baload, zx_laload, zx_aaload, zx_iastore, zx_bastore, zx_lastore, zx_aastore, zx_alen, zx_newarray, zx_anewarray, zx_new, zx_getI, zx_getL, zx_getR, zx_putI, zx_putZ, zx_putL, zx_putR, zx_callS, zx_callV, zx_objinit, zx_cpyi, zx_cpyl, zx_mmax, zx_mmin, zx_mminl, zx_ireturn, zx_areturn, zx_lreturn, zx_return, zcs_0, zcs_1, zcv_1, zcs_2, zcv_2, zcs_3, zcv_3, zcs_4, zcv_4, zcs_5, zcv_5, zcs_6, zcv_6, zcs_7, zcv_7, Int.reduceToNat, Nat.reduceDiv, Nat.reduceMod, zJ, zC, zK_wA, zN_wA, zR_wA, zS_wA, zA_wA, zK_wR, zN_wR, zR_wR, zS_wR, zA_wR, zK_cp, zN_cp, zR_cp, zS_cp, zA_cp, zK_mp, zN_mp, zR_mp, zS_mp, zA_mp, zfa, zfmm, zfa_1, zfb_1, zfa_2, zfb_2, zfa_3, zfb_3, zfa_4, zfb_4, zfa_5, zfb_5, zfa_6, zfb_6, zfa_7, zfb_7, zfa_8, zfb_8, zfa_9, zfb_9, zfa_10, zfb_10, zfa_12, zfb_12, zfa_20, zfb_20, zfa_21, zfb_21, zfa_30, zfb_30, zfa_48, zfb_48, zfa_60, zfb_60, zfa_61, zfb_61, zfa_65, zfb_65, zfa_97, zfb_97, zfa_100, zfb_100, zfa_120, zfb_120, zfa_124, zfb_124, zfa_500, zfb_500, zfa_792, zfb_792, zfa_2989, zfb_2989, zfm_2, zfn_2, zfm_3, zfn_3, zfm_4, zfn_4, zfm_6, zfn_6, zfm_7, zfn_7, zfm_8, zfn_8, zfm_12, zfn_12, zfm_49, zfn_49, zfm_60, zfn_60, zfm_61, zfn_61, zfm_792, zfn_792, zfm_2989, zfn_2989, Int.zero_add, Int.add_zero, Int.zero_mul, Int.mul_zero, Int.one_mul, Int.mul_one, lk_2 (zmd_lay hm hL0), lr_2_0 (zmd_lay hm hL0), lk_3 (zmd_lay hm hL0), ln_3 (zmd_lay hm hL0), hm.2.2.2 2 3 rfl, hn]
    have hL := zmd_lay hm hL0
    refine zbr_i (fun q => ?_) (fun q => ?_)
    · have e : i = n := by omega
      subst e
      exact h1 hg H hm ht hc hr
    · have hbi := hb i (by omega)
      have e3 := ht2 i (by omega)
      have key : ∀ H' : zH, zmd (zin [3, 4, 5] [(2, 4)]) H0 H' → (∀ j : Nat, j < i + 1 → zA H' 3 j = zsml (zA H0 3 j)) → (∀ j : Nat, i + 1 ≤ j → zA H' 3 j = zA H0 3 j) → zA H' 2 4 = ((zwr (fun j => zsml (zA H0 3 j)) i).length : Nat) → zwrel (zA H' 4) (zA H' 5) (zwr (fun j => zsml (zA H0 3 j)) i) → (zA H0 3 i = 10 ∨ 32 ≤ zA H0 3 i ∧ zA H0 3 i ≤ 126) → ∀ l4, zEt xs L d b1 b2 false 36 66 [some (zr (some 2)), some (zi (zin1 (fun j => zsml (zA H0 3 j)) i)), some (zi i), some (zi (zsml (zA H0 3 i))), l4] [] H' Q := by
        intro H' g1 g2 g3 g4 g5 g6 l4
        refine zl_split66 (n := n) (by omega) hn4 (fun H l4 l3 k1 k2 k3 k4 k5 => ?_) (zmd_lay g1 hL0) g1 g2 g3 g4 g5
        exact ih _ (by omega) (i + 1) H l3 l4 rfl (by omega) (zall_s hg g6) k1 k2 k3 k4 k5
      rw [e3]
      have hsame : zsml (zA H0 3 i) = zA H0 3 i → (zA H0 3 i = 10 ∨ 32 ≤ zA H0 3 i ∧ zA H0 3 i ≤ 126) → ∀ l4, zEt xs L d b1 b2 false 36 66 [some (zr (some 2)), some (zi (zin1 (fun j => zsml (zA H0 3 j)) i)), some (zi i), some (zi (zA H0 3 i)), l4] [] H Q := by
        intro k1 k2 l4
        have := key H hm (zall_s ht (by rw [e3, k1])) (fun j hj => ht2 j (by omega)) hc hr k2 l4
        rw [k1] at this
        exact this
      have hlow : 65 ≤ zA H0 3 i → zA H0 3 i ≤ 90 → ∀ l4, zEt xs L d b1 b2 false 36 66 [some (zr (some 2)), some (zi (zin1 (fun j => zsml (zA H0 3 j)) i)), some (zi i), some (zi (zA H0 3 i + 32)), l4] [] (zwA H 3 i (zA H0 3 i + 32)) Q := by
        intro k1 k2 l4
        have ez : zsml (zA H0 3 i) = zA H0 3 i + 32 := by unfold zsml; rw [if_pos ⟨k1, k2⟩]
        have := key (zwA H 3 i (zA H0 3 i + 32)) (zmd_w hm rfl) (fun j hj => ?_) (fun j hj => ?_) ?_ ?_ (Or.inr (by omega)) l4
        · rw [ez] at this
          exact this
        · simp only [zA_wA, true_and]
          by_cases ej : j = i
          · rw [if_pos ej, ej, ez]
          · rw [if_neg ej]; exact ht j (by omega)
        · simp only [zA_wA, true_and]
          rw [if_neg (by omega)]
          exact ht2 j (by omega)
        · exact hc
        · exact hr
      have hns : ∀ x : Int, ¬ (65 ≤ x ∧ x ≤ 90) → zsml x = x := fun x hx => by unfold zsml; rw [if_neg hx]
      have hbad : ¬ (zA H0 3 i = 10 ∨ 32 ≤ zA H0 3 i ∧ zA H0 3 i ≤ 126) → Q 0 H := fun k => h0 ⟨i, by omega, k⟩ H hm
      repeat (refine And.intro (by first | omega | (simp only [z32, z64]; omega)) ?_)
      refine zbr_i (fun p1 => ?_) (fun p1 => zbr_i (fun p2 => hbad (by omega)) (fun p2 => zbr_i (fun p3 => ?_) (fun p3 => hbad (by omega))))
      · refine zbr_i (fun p4 => hsame (hns _ (by omega)) (by omega) _) (fun p4 => zbr_i (fun p5 => hsame (hns _ (by omega)) (by omega) _) (fun p5 => ?_))
        omega
      · refine zbr_i (fun p4 => hsame (hns _ (by omega)) (by omega) _) (fun p4 => zbr_i (fun p5 => hsame (hns _ (by omega)) (by omega) _) (fun p5 => ?_))
        repeat (refine And.intro (by first | omega | (simp only [z32, z64]; omega)) ?_)
        exact hlow (by omega) (by omega) _
set_option maxRecDepth 100000 in
theorem zc_split {xs : Nat → Int} {L d b1 b2 : Nat} {H0 : zH} {Q : zQ} {n : Nat} (hL0 : zLay H0) (hn : zA H0 2 3 = n) (hn4 : n ≤ 400) (hb : ∀ j : Nat, j < n → 0 ≤ zA H0 3 j ∧ zA H0 3 j ≤ 255) (h0 : (∃ i : Nat, i < n ∧ ¬ (zA H0 3 i = 10 ∨ 32 ≤ zA H0 3 i ∧ zA H0 3 i ≤ 126)) → ∀ H', zmd (zin [3, 4, 5] [(2, 4)]) H0 H' → Q 0 H') (h1 : (∀ i : Nat, i < n → (zA H0 3 i = 10 ∨ 32 ≤ zA H0 3 i ∧ zA H0 3 i ≤ 126)) → ∀ H', zmd (zin [3, 4, 5] [(2, 4)]) H0 H' → (∀ j : Nat, j < n → zA H' 3 j = zsml (zA H0 3 j)) → zA H' 2 4 = ((zwr (fun j => zsml (zA H0 3 j)) n).length : Nat) → zwrel (zA H' 4) (zA H' 5) (zwr (fun j => zsml (zA H0 3 j)) n) → Q 1 H') : zEm xs L d b1 b2 36 [zr (some 2)] H0 Q := by
  refine zem_36 (zgo_at [9] 8 ?_)
  try simp only [zgn_0, zgn_s, zct_0, zct_s, Nat.reduceEqDiff, Nat.reduceBEq, Nat.reduceAdd, Nat.reduceSub, Nat.reduceMul, Int.reduceAdd, Int.reduceSub, Int.reduceMul, Int.reduceNeg, Int.reduceLT, Int.reduceLE, Int.reduceEq, Nat.zero_add, true_and, and_true, false_and, and_false, true_imp_iff, false_imp_iff, not_true_eq_false, not_false_eq_true, if_true, if_false, Bool.false_eq_true, ite_true, ite_false, reduceIte, eq_self, Int.toNat_natCast, zst_0, zst_1, zst_2, zst_3, zst_4, true_or, or_true, or_false, false_or, ze_36_0, zB_36_0, ze_36_9, zB_36_9, ze_36_42, zB_36_42, ze_36_44, zB_36_44, ze_36_66, zB_36_66, ze_36_82, zB_36_82, ze_36_83, zB_36_83, ze_36_124, zB_36_124, ze_36_144, zB_36_144, ze_36_153, zB_36_153, zbr_t, zbr_f, zrun_c, zmI_s, zmL_s, zmR_s, zgt_0, zgt_s, zln_0, zln_s, zs1_0, zs1_1i, zs1_1r, zs1_1n, zs1_1l, zs1_s, zs2_0, zs2_1i, zs2_1r, zs2_1n, zs2_1l, zs2_s, zcn_eq, zcn_ne, zcn_lt, zcn_ge, zcn_gt, zcn_le, zpu_0, zpu_1, zpu_2, zx_iconst, zx_lconst, zx_ldc, zx_ldc2, zx_null, zx_iload, zx_lload, zx_aload, zx_istore, zx_lstore, zx_astore, zx_iinc, zx_iadd, zx_isub, zx_imul, zx_idiv, zx_irem, zx_iand, zx_ior, zx_ixor, zx_ishl, zx_ishr, zx_iushr, zx_i2b, zx_i2l, zx_l2i, zx_ladd, zx_lmul, zx_ldiv, zx_lrem, zx_land, zx_lor, zx_lshl, zx_lshr, zx_lcmp, zx_dupi, zx_dupr, zx_dup2l, zx_dup2i, zx_pop, zx_ifc, zx_icmp, zx_ifnullN, zx_ifnullS, zx_ifnonN, zx_ifnonS, zx_goto, zx_gotow, zx_switch, zx_iaload, zx_baload, zx_laload, zx_aaload, zx_iastore, zx_bastore, zx_lastore, zx_aastore, zx_alen, zx_newarray, zx_anewarray, zx_new, zx_getI, zx_getL, zx_getR, zx_putI, zx_putZ, zx_putL, zx_putR, zx_callS, zx_callV, zx_objinit, zx_cpyi, zx_cpyl, zx_mmax, zx_mmin, zx_mminl, zx_ireturn, zx_areturn, zx_lreturn, zx_return, zcs_0, zcs_1, zcv_1, zcs_2, zcv_2, zcs_3, zcv_3, zcs_4, zcv_4, zcs_5, zcv_5, zcs_6, zcv_6, zcs_7, zcv_7, Int.reduceToNat, Nat.reduceDiv, Nat.reduceMod, zJ, zC, zK_wA, zN_wA, zR_wA, zS_wA, zA_wA, zK_wR, zN_wR, zR_wR, zS_wR, zA_wR, zK_cp, zN_cp, zR_cp, zS_cp, zA_cp, zK_mp, zN_mp, zR_mp, zS_mp, zA_mp, zfa, zfmm, zfa_1, zfb_1, zfa_2, zfb_2, zfa_3, zfb_3, zfa_4, zfb_4, zfa_5, zfb_5, zfa_6, zfb_6, zfa_7, zfb_7, zfa_8, zfb_8, zfa_9, zfb_9, zfa_10, zfb_10, zfa_12, zfb_12, zfa_20, zfb_20, zfa_21, zfb_21, zfa_30, zfb_30, zfa_48, zfb_48, zfa_60, zfb_60, zfa_61, zfb_61, zfa_65, zfb_65, zfa_97, zfb_97, zfa_100, zfb_100, zfa_120, zfb_120, zfa_124, zfb_124, zfa_500, zfb_500, zfa_792, zfb_792, zfa_2989, zfb_2989, zfm_2, zfn_2, zfm_3, zfn_3, zfm_4, zfn_4, zfm_6, zfn_6, zfm_7, zfn_7, zfm_8, zfn_8, zfm_12, zfn_12, zfm_49, zfn_49, zfm_60, zfn_60, zfm_61, zfn_61, zfm_792, zfn_792, zfm_2989, zfn_2989, Int.zero_add, Int.add_zero, Int.zero_mul, Int.mul_zero, Int.one_mul, Int.mul_one, lk_2 hL0, lr_2_0 hL0, lk_3 hL0, ln_3 hL0, lr_2_1 hL0, lk_4 hL0, ln_4 hL0, lr_2_2 hL0, lk_5 hL0, ln_5 hL0]
  refine zl_split hL0 hn hn4 hb h0 h1 _ 0 (zwA H0 2 4 0) _ _ rfl (by omega) (fun j hj => by omega) (zmd_wA H0 rfl) (fun j hj => by omega) (fun j hj => rfl) rfl trivial
