/-! ===== findBest: the class's machine over tokens ===== -/
def yFx (wc nm x : Nat) : Nat := if (x < 120 ∧ ¬ x < wc) ∨ (124 ≤ x ∧ x ≤ 124 + nm) then 999 else x
theorem yFx_l {wc nm x : Nat} (h : zlf (yFx wc nm x)) : yFx wc nm x = x ∧ zlfP wc nm x := by
  unfold yFx at h ⊢
  unfold zlf at h
  unfold zlfP
  by_cases q : (x < 120 ∧ ¬ x < wc) ∨ (124 ≤ x ∧ x ≤ 124 + nm)
  · rw [if_pos q] at h; omega
  · rw [if_neg q] at h ⊢
    exact ⟨rfl, by omega⟩
theorem yFx_s {wc nm x y : Nat} (h : yFx wc nm x = y) (hy : 120 ≤ y ∧ y ≤ 123) : x = y := by
  unfold yFx at h
  by_cases q : (x < 120 ∧ ¬ x < wc) ∨ (124 ≤ x ∧ x ≤ 124 + nm)
  · rw [if_pos q] at h; omega
  · rw [if_neg q] at h; exact h
theorem yfI_row {α : Type} {f : α → List Nat} {ok : α → Prop} {R : Nat → Prop} (h : ∀ a, ok a → ∀ x, x ∈ f a → R x) : ∀ r : List α, zokRow ok r → ∀ x, x ∈ zfRow f r → R x
  | [], _, x, hx => by cases hx
  | a :: r, hk, x, hx => by
    have hx : x ∈ f a ++ zfRow f r := hx
    rcases List.mem_append.mp hx with q | q
    · exact h a hk.1 x q
    · exact yfI_row h r hk.2 x q
theorem yfI_rs {α : Type} {f : α → List Nat} {ok : α → Prop} {R : Nat → Prop} (h : ∀ a, ok a → ∀ x, x ∈ f a → R x) (h1 : R 121) : ∀ rs : List (List α), zokRs ok rs → ∀ x, x ∈ zfRs f rs → R x
  | [], hk, _, _ => hk.elim
  | [r], hk, x, hx => yfI_row h r hk x hx
  | r :: q :: rs, hk, x, hx => by
    have hx : x ∈ zfRow f r ++ 121 :: zfRs f (q :: rs) := hx
    rcases List.mem_append.mp hx with p | p
    · exact yfI_row h r hk.1 x p
    · rcases List.mem_cons.mp p with e | e
      · rw [e]; exact h1
      · exact yfI_rs h h1 (q :: rs) hk.2 x e
theorem yfI_i {P R : Nat → Prop} (h : ∀ x, P x → R x) (h0 : R 120) (h1 : R 121) (h2 : R 122) : ∀ (n : Nat) (it : zIt n), zokI P n it → ∀ x, x ∈ zfI n it → R x
  | 0, (y : Nat), hk, x, hx => by
    have hx : x ∈ [y] := hx
    rcases List.mem_cons.mp hx with e | e
    · rw [e]; exact h y hk
    · cases e
  | n + 1, Sum.inl y, hk, x, hx => by
    have hx : x ∈ [y] := hx
    rcases List.mem_cons.mp hx with e | e
    · rw [e]; exact h y hk
    · cases e
  | n + 1, Sum.inr rs, hk, x, hx => by
    have hx : x ∈ 120 :: (zfRs (zfI n) rs ++ [122]) := hx
    rcases List.mem_cons.mp hx with e | e
    · rw [e]; exact h0
    · rcases List.mem_append.mp e with p | p
      · exact yfI_rs (fun a ha => yfI_i h h0 h1 h2 n a ha) h1 rs hk x p
      · rcases List.mem_cons.mp p with e | e
        · rw [e]; exact h2
        · cases e
theorem zat_F {tok F : Nat → Nat} : ∀ (l : List Nat) (i : Nat), (∀ x, x ∈ l → F x = x) → zat tok i l → zat (fun i => F (tok i)) i l
  | [], _, _, _ => trivial
  | x :: l, i, hF, h => ⟨by show F (tok i) = x; rw [h.1]; exact hF x List.mem_cons_self, zat_F l (i + 1) (fun y hy => hF y (List.mem_cons_of_mem _ hy)) h.2⟩
theorem yV_c {s s' : Nat → List Nat → Prop} {M : Nat → Nat → List Nat → Prop} {c : Nat} (h : ∀ k : Nat, k ≤ c → s k = s' k) : yV s M c = yV s' M c := by
  funext r
  apply propext
  constructor
  · rintro ⟨k, a, b, h1, h2, h3⟩
    exact ⟨k, a, b, h1, by rw [← h k h1]; exact h2, h3⟩
  · rintro ⟨k, a, b, h1, h2, h3⟩
    exact ⟨k, a, b, h1, by rw [h k h1]; exact h2, h3⟩
/-- at the loop's head with these levels it goes well -/
def ygb94 (xs : Nat → Int) (L d : Nat) (Q : zQ) (H0 : zH) (t : Nat → Int) (w : Nat × (Nat → Nat × Nat)) (n : Nat) (A0 : Nat → List Nat → Prop) (nm f : Nat) (sr : Int) (i l : Nat) (h dd : Nat → Nat → List Nat → Prop) : Prop := ∀ (G : zH) (B : Nat → List Nat → Prop) (v7 : Option zV), zmd (zin [166, 167] []) H0 G → ySt G t w B → (∀ m : Nat, m ≤ l → ∀ c : Nat, c ≤ n → B (224 + m * 7 + c) = h m c ∧ B (259 + m * 7 + c) = dd m c) → (∀ s : Nat, s < 224 → B s = A0 s) → (∀ m : Nat, m ≤ l → ∀ k : Nat, k < f → ∀ r, ¬ h m k r ∧ ¬ dd m k r) → zEt xs L d 0 0 false 139 34 [some (zr (some 165)), some (zr (some 94)), some (zi (nm : Nat)), some (zi (f : Nat)), some (zi sr), some (zi (l : Nat)), some (zi (i : Nat)), v7] [] G Q
set_option maxHeartbeats 4000000 in
set_option maxRecDepth 100000 in
theorem ygb94_s {xs : Nat → Int} {L d : Nat} {Q : zQ} {H0 : zH} {t : Nat → Int} {w : Nat × (Nat → Nat × Nat)} {n nm f : Nat} {A0 : Nat → List Nat → Prop} {sr : Int} {tk : List Nat} {cu rw : Nat → Int} {e : Nat → Nat → Nat → List Nat → Prop} (hd : 4 ≤ d) (hL0 : zLay H0) (hk : yMk H0) (hn : zA H0 165 3 = (n : Nat)) (hn6 : n ≤ 6) (hw : yWd H0 94 t w) (hdd : zWdd t w) (hf : f ≤ n) (h6 : zA H0 94 6 = (tk.length : Nat)) (hlen : tk.length ≤ 400) (htk : ∀ i : Nat, i < tk.length → zA H0 98 i = (tk.getD i 0 : Nat)) (hcu : ∀ x : Nat, x < w.1 → zA H0 169 x = cu x) (hrw : ∀ i : Nat, i < n → zA H0 168 i = rw i) (hE0 : ∀ c : Nat, nm < c → c < 8 → ∀ m j : Nat, m ≤ j → j ≤ n → A0 (yRS c m j) = e c m j) : zStep (yT cu rw n e) yU (yF f) (fun i => yFx w.1 nm (tk.getD i 999)) (ygb94 xs L d Q H0 t w n A0 nm f sr) := by
  have hw12 := hw.1
  refine ⟨fun i l h dd hl hx hZ => ?_, fun i l h dd hl hx hZ => ?_, fun i l h dd hl hx hZ => ?_, fun i l h dd hl hx hZ => ?_⟩
  · intro G B v7 hm hS hrep hlow hsup
    obtain ⟨hx1, hx0⟩ := yFx_l (show zlf (yFx w.1 nm (tk.getD i 999)) from hx)
    have hZ : ygb94 xs L d Q H0 t w n A0 nm f sr (i + 1) l (zuq h l (yT cu rw n e (yFx w.1 nm (tk.getD i 999)) (h l))) dd := hZ
    rw [hx1] at hZ
    clear hx hx1
    have hLG := zmd_lay hm hL0
    have hkG := yMk_d hm hk
    have hnG : zA G 165 3 = (n : Nat) := by rw [hm.2.2.2 165 3 rfl]; exact hn
    have hwG : yWd G 94 t w := yWd_c (fun a j q1 q2 => hm.2.2.2 a j (by simp [zin]; omega)) hw
    have t6 : zA G 94 6 = (tk.length : Nat) := by rw [hm.2.2.2 94 6 rfl]; exact h6
    have hil : i < tk.length := by
      apply Classical.byContradiction
      intro r
      have e9 := zgd_o (D := 999) r
      rw [e9] at hx0
      clear hZ hrep hsup hE0
      unfold zlfP at *
      omega
    have tkc : zA G 98 i = (tk.getD i 999 : Nat) := by rw [hm.2.2.2 98 i rfl, htk i hil, zgd_D (D' := 999) hil]
    have hs0 : ∀ k : Nat, k < f → ∀ r, ¬ B (224 + l * 7 + k) r := fun k hk9 r => by rw [(hrep l (Nat.le_refl _) k (by omega)).1]; exact (hsup l (Nat.le_refl _) k hk9 r).1
    have fin : ∀ (v7 : Option zV) (G1 : zH) (B1 : Nat → List Nat → Prop), zmd (zin [166, 167] []) G G1 → ySt G1 t w B1 → (∀ c : Nat, c ≤ n → B1 (224 + l * 7 + c) = yV (fun c => B (224 + l * 7 + c)) (yL cu rw n e (tk.getD i 999)) c) → (∀ s : Nat, ¬ (224 + l * 7 ≤ s ∧ s < 224 + l * 7 + 7) → s < 294 → B1 s = B s) → zEt xs L d 0 0 false 139 34 [some (zr (some 165)), some (zr (some 94)), some (zi (nm : Nat)), some (zi (f : Nat)), some (zi sr), some (zi (l : Nat)), some (zi (i + 1 : Nat)), v7] [] G1 Q := fun v7 G1 B1 m1 s1 a1 a2 => hZ G1 B1 v7 (zmd_tr hm m1) s1 (fun m hm2 c hc => by
        obtain ⟨c1, c2⟩ := hrep m hm2 c hc
        refine ⟨?_, by rw [a2 _ (by omega) (by omega)]; exact c2⟩
        by_cases q : m = l
        · rw [q, zuq_e, a1 c hc]
          exact yV_c (fun k hk9 => (hrep l (Nat.le_refl _) k (by omega)).1)
        · rw [zuq_n q, a2 _ (by omega) (by omega)]; exact c1) (fun s hs => by rw [a2 s (by omega) (by omega)]; exact hlow s hs) (fun m hm2 k hk9 r => by
        refine ⟨?_, (hsup m hm2 k hk9 r).2⟩
        by_cases q : m = l
        · rw [q, zuq_e]
          rintro ⟨k', a, b, r1, r2, _⟩
          exact (hsup l (Nat.le_refl _) k' (by omega) a).1 r2
        · rw [zuq_n q]; exact (hsup m hm2 k hk9 r).1)
    clear hZ hrep hsup
    generalize hxx : tk.getD i 999 = x at *
    have hx2 := hx0
    unfold zlfP at hx2
    refine zgo_at [34] 12 ?_
    try simp -implicitDefEqProofs only [zgn_0, zgn_s, zct_0, zct_s, Nat.reduceEqDiff, Nat.reduceBEq, Nat.reduceAdd, Nat.reduceSub, Nat.reduceMul, Int.reduceAdd, Int.reduceSub, Int.reduceMul, Int.reduceNeg, Int.reduceLT, Int.reduceLE, Int.reduceEq, Nat.zero_add, true_and, and_true, false_and, and_false, true_imp_iff, false_imp_iff, not_true_eq_false, not_false_eq_true, if_true, if_false, Bool.false_eq_true, ite_true, ite_false, reduceIte, eq_self, Int.toNat_natCast, zst_0, zst_1, zst_2, zst_3, zst_4, true_or, or_true, or_false, false_or, ze_139_0, zB_139_0, ze_139_14, zB_139_14, ze_139_34, zB_139_34, ze_139_70, zB_139_70, ze_139_93, zB_139_93, ze_139_141, zB_139_141, ze_139_158, zB_139_158, ze_139_175, zB_139_175, ze_139_214, zB_139_214, ze_139_220, zB_139_220, ze_139_223, zB_139_223, ze_139_255, zB_139_255, zbr_t, zbr_f, zrun_c, zmI_s, zmL_s, zmR_s, zgt_0, zgt_s, zln_0, zln_s, zs1_0, zs1_1i, zs1_1r, zs1_1n, zs1_1l, zs1_s, zs2_0, zs2_1i, zs2_1r, zs2_1n, zs2_1l, zs2_s, zcn_eq, zcn_ne, zcn_lt, zcn_ge, zcn_gt, zcn_le, zpu_0, zpu_1, zpu_2, zx_iconst, zx_lconst, zx_ldc, zx_ldc2, zx_null, zx_iload, zx_lload, zx_aload, zx_istore, zx_lstore, zx_astore, zx_iinc, zx_iadd, zx_isub, zx_imul, zx_idiv, zx_irem, zx_iand, zx_ior, zx_ixor, zx_ishl, zx_ishr, zx_iushr, zx_i2b, zx_i2l, zx_l2i, zx_ladd, zx_lmul, zx_ldiv, zx_lrem, zx_land, zx_lor, zx_lshl, zx_lshr, zx_lcmp, zx_dupi, zx_dupr, zx_dup2l, zx_dup2i, zx_pop, zx_ifc, zx_icmp, zx_ifnullN, zx_ifnullS, zx_ifnonN, zx_ifnonS, zx_goto, zx_gotow, zx_switch, zx_iaload, zx_baload, zx_laload, zx_aaload, zx_iastore, zx_bastore, zx_lastore, zx_aastore, zx_alen, zx_newarray, zx_anewarray, zx_new, zx_getI, zx_getL, zx_getR, zx_putI, zx_putZ, zx_putL, zx_putR, zx_callS, zx_callV, zx_objinit, zx_cpyi, zx_cpyl, zx_mmax, zx_mmin, zx_mminl, zx_ireturn, zx_areturn, zx_lreturn, zx_return, zcs_0, zcs_1, zcv_1, zcs_2, zcv_2, zcs_3, zcv_3, zcs_4, zcv_4, zcs_5, zcv_5, zcs_6, zcv_6, zcs_7, zcv_7, Int.reduceToNat, Nat.reduceDiv, Nat.reduceMod, zJ, zC, zK_wA, zN_wA, zR_wA, zS_wA, zA_wA, zK_wR, zN_wR, zR_wR, zS_wR, zA_wR, zK_cp, zN_cp, zR_cp, zS_cp, zA_cp, zK_mp, zN_mp, zR_mp, zS_mp, zA_mp, zfa, zfmm, zfa_1, zfb_1, zfa_2, zfb_2, zfa_3, zfb_3, zfa_4, zfb_4, zfa_5, zfb_5, zfa_6, zfb_6, zfa_7, zfb_7, zfa_8, zfb_8, zfa_9, zfb_9, zfa_10, zfb_10, zfa_12, zfb_12, zfa_20, zfb_20, zfa_21, zfb_21, zfa_30, zfb_30, zfa_48, zfb_48, zfa_60, zfb_60, zfa_61, zfb_61, zfa_65, zfb_65, zfa_97, zfb_97, zfa_100, zfb_100, zfa_120, zfb_120, zfa_124, zfb_124, zfa_500, zfb_500, zfa_792, zfb_792, zfa_2989, zfb_2989, zfm_2, zfn_2, zfm_3, zfn_3, zfm_4, zfn_4, zfm_6, zfn_6, zfm_7, zfn_7, zfm_8, zfn_8, zfm_12, zfn_12, zfm_49, zfn_49, zfm_60, zfn_60, zfm_61, zfn_61, zfm_792, zfn_792, zfm_2989, zfn_2989, Int.zero_add, Int.add_zero, Int.zero_mul, Int.mul_zero, Int.one_mul, Int.mul_one, lk_94 hLG, lr_94_5 hLG, lk_98 hLG, ln_98 hLG, ym_k5 hkG, t6, tkc]
    refine zbr_i (fun q => by omega) (fun q => ?_)
    repeat (with_reducible refine And.intro ?_ ?_; · first | omega | (simp only [z32, z64]; omega))
    refine zbr_i (fun q1 => ?_) (fun q1 => ?_)
    · refine zbr_i (fun q2 => by omega) (fun q2 => ?_)
      repeat (with_reducible refine And.intro ?_ ?_; · first | omega | (simp only [z32, z64]; omega))
      have ex : ((x : Int) - 124) = ((x - 124 : Nat) : Int) := by omega
      rw [ex]
      refine zc_apt94 (A := B) (E := e (x - 124)) (l := l) (f := f) (part := x - 124) (show 3 ≤ d - 1 by omega) hLG hkG hnG hn6 hwG hdd hl hf (by omega) hs0 (fun m j m1 m2 m3 => by
        have hb := yRS_b (c := x - 124) (f := m) (j := j) (by omega) m2 (by omega)
        rw [hlow _ hb]; exact hE0 _ (by omega) (by omega) m j m2 m3) hS (fun G1 B1 m1 s1 a1 a2 => ?_)
      try simp -implicitDefEqProofs only [zgn_0, zgn_s, zct_0, zct_s, Nat.reduceEqDiff, Nat.reduceBEq, Nat.reduceAdd, Nat.reduceSub, Nat.reduceMul, Int.reduceAdd, Int.reduceSub, Int.reduceMul, Int.reduceNeg, Int.reduceLT, Int.reduceLE, Int.reduceEq, Nat.zero_add, true_and, and_true, false_and, and_false, true_imp_iff, false_imp_iff, not_true_eq_false, not_false_eq_true, if_true, if_false, Bool.false_eq_true, ite_true, ite_false, reduceIte, eq_self, Int.toNat_natCast, zst_0, zst_1, zst_2, zst_3, zst_4, true_or, or_true, or_false, false_or, ze_139_0, zB_139_0, ze_139_14, zB_139_14, ze_139_34, zB_139_34, ze_139_70, zB_139_70, ze_139_93, zB_139_93, ze_139_141, zB_139_141, ze_139_158, zB_139_158, ze_139_175, zB_139_175, ze_139_214, zB_139_214, ze_139_220, zB_139_220, ze_139_223, zB_139_223, ze_139_255, zB_139_255, zbr_t, zbr_f, zrun_c, zmI_s, zmL_s, zmR_s, zgt_0, zgt_s, zln_0, zln_s, zs1_0, zs1_1i, zs1_1r, zs1_1n, zs1_1l, zs1_s, zs2_0, zs2_1i, zs2_1r, zs2_1n, zs2_1l, zs2_s, zcn_eq, zcn_ne, zcn_lt, zcn_ge, zcn_gt, zcn_le, zpu_0, zpu_1, zpu_2, zx_iconst, zx_lconst, zx_ldc, zx_ldc2, zx_null, zx_iload, zx_lload, zx_aload, zx_istore, zx_lstore, zx_astore, zx_iinc, zx_iadd, zx_isub, zx_imul, zx_idiv, zx_irem, zx_iand, zx_ior, zx_ixor, zx_ishl, zx_ishr, zx_iushr, zx_i2b, zx_i2l, zx_l2i, zx_ladd, zx_lmul, zx_ldiv, zx_lrem, zx_land, zx_lor, zx_lshl, zx_lshr, zx_lcmp, zx_dupi, zx_dupr, zx_dup2l, zx_dup2i, zx_pop, zx_ifc, zx_icmp, zx_ifnullN, zx_ifnullS, zx_ifnonN, zx_ifnonS, zx_goto, zx_gotow, zx_switch, zx_iaload, zx_baload, zx_laload, zx_aaload, zx_iastore, zx_bastore, zx_lastore, zx_aastore, zx_alen, zx_newarray, zx_anewarray, zx_new, zx_getI, zx_getL, zx_getR, zx_putI, zx_putZ, zx_putL, zx_putR, zx_callS, zx_callV, zx_objinit, zx_cpyi, zx_cpyl, zx_mmax, zx_mmin, zx_mminl, zx_ireturn, zx_areturn, zx_lreturn, zx_return, zcs_0, zcs_1, zcv_1, zcs_2, zcv_2, zcs_3, zcv_3, zcs_4, zcv_4, zcs_5, zcv_5, zcs_6, zcv_6, zcs_7, zcv_7, Int.reduceToNat, Nat.reduceDiv, Nat.reduceMod, zJ, zC, zK_wA, zN_wA, zR_wA, zS_wA, zA_wA, zK_wR, zN_wR, zR_wR, zS_wR, zA_wR, zK_cp, zN_cp, zR_cp, zS_cp, zA_cp, zK_mp, zN_mp, zR_mp, zS_mp, zA_mp, zfa, zfmm, zfa_1, zfb_1, zfa_2, zfb_2, zfa_3, zfb_3, zfa_4, zfb_4, zfa_5, zfb_5, zfa_6, zfb_6, zfa_7, zfb_7, zfa_8, zfb_8, zfa_9, zfb_9, zfa_10, zfb_10, zfa_12, zfb_12, zfa_20, zfb_20, zfa_21, zfb_21, zfa_30, zfb_30, zfa_48, zfb_48, zfa_60, zfb_60, zfa_61, zfb_61, zfa_65, zfb_65, zfa_97, zfb_97, zfa_100, zfb_100, zfa_120, zfb_120, zfa_124, zfb_124, zfa_500, zfb_500, zfa_792, zfb_792, zfa_2989, zfb_2989, zfm_2, zfn_2, zfm_3, zfn_3, zfm_4, zfn_4, zfm_6, zfn_6, zfm_7, zfn_7, zfm_8, zfn_8, zfm_12, zfn_12, zfm_49, zfn_49, zfm_60, zfn_60, zfm_61, zfn_61, zfm_792, zfn_792, zfm_2989, zfn_2989, Int.zero_add, Int.add_zero, Int.zero_mul, Int.mul_zero, Int.one_mul, Int.mul_one]
      repeat (with_reducible refine And.intro ?_ ?_; · first | omega | (simp only [z32, z64]; omega))
      refine fin _ G1 B1 m1 s1 (fun c hc => ?_) a2
      rw [a1 c hc]
      unfold yL
      rw [if_neg (by omega)]
    · repeat (with_reducible refine And.intro ?_ ?_; · first | omega | (simp only [z32, z64]; omega))
      refine zc_awd (A := B) (cu := cu) (rw := rw) (l := l) (x := x) (show 1 ≤ d - 1 by omega) hkG hnG hn6 hl (by omega) hw12 (by rw [hm.2.2.2 169 x rfl]; exact hcu x (by omega)) (fun i hi => by rw [hm.2.2.2 168 i rfl]; exact hrw i hi) hS (fun G1 B1 m1 s1 a1 a2 => ?_)
      try simp -implicitDefEqProofs only [zgn_0, zgn_s, zct_0, zct_s, Nat.reduceEqDiff, Nat.reduceBEq, Nat.reduceAdd, Nat.reduceSub, Nat.reduceMul, Int.reduceAdd, Int.reduceSub, Int.reduceMul, Int.reduceNeg, Int.reduceLT, Int.reduceLE, Int.reduceEq, Nat.zero_add, true_and, and_true, false_and, and_false, true_imp_iff, false_imp_iff, not_true_eq_false, not_false_eq_true, if_true, if_false, Bool.false_eq_true, ite_true, ite_false, reduceIte, eq_self, Int.toNat_natCast, zst_0, zst_1, zst_2, zst_3, zst_4, true_or, or_true, or_false, false_or, ze_139_0, zB_139_0, ze_139_14, zB_139_14, ze_139_34, zB_139_34, ze_139_70, zB_139_70, ze_139_93, zB_139_93, ze_139_141, zB_139_141, ze_139_158, zB_139_158, ze_139_175, zB_139_175, ze_139_214, zB_139_214, ze_139_220, zB_139_220, ze_139_223, zB_139_223, ze_139_255, zB_139_255, zbr_t, zbr_f, zrun_c, zmI_s, zmL_s, zmR_s, zgt_0, zgt_s, zln_0, zln_s, zs1_0, zs1_1i, zs1_1r, zs1_1n, zs1_1l, zs1_s, zs2_0, zs2_1i, zs2_1r, zs2_1n, zs2_1l, zs2_s, zcn_eq, zcn_ne, zcn_lt, zcn_ge, zcn_gt, zcn_le, zpu_0, zpu_1, zpu_2, zx_iconst, zx_lconst, zx_ldc, zx_ldc2, zx_null, zx_iload, zx_lload, zx_aload, zx_istore, zx_lstore, zx_astore, zx_iinc, zx_iadd, zx_isub, zx_imul, zx_idiv, zx_irem, zx_iand, zx_ior, zx_ixor, zx_ishl, zx_ishr, zx_iushr, zx_i2b, zx_i2l, zx_l2i, zx_ladd, zx_lmul, zx_ldiv, zx_lrem, zx_land, zx_lor, zx_lshl, zx_lshr, zx_lcmp, zx_dupi, zx_dupr, zx_dup2l, zx_dup2i, zx_pop, zx_ifc, zx_icmp, zx_ifnullN, zx_ifnullS, zx_ifnonN, zx_ifnonS, zx_goto, zx_gotow, zx_switch, zx_iaload, zx_baload, zx_laload, zx_aaload, zx_iastore, zx_bastore, zx_lastore, zx_aastore, zx_alen, zx_newarray, zx_anewarray, zx_new, zx_getI, zx_getL, zx_getR, zx_putI, zx_putZ, zx_putL, zx_putR, zx_callS, zx_callV, zx_objinit, zx_cpyi, zx_cpyl, zx_mmax, zx_mmin, zx_mminl, zx_ireturn, zx_areturn, zx_lreturn, zx_return, zcs_0, zcs_1, zcv_1, zcs_2, zcv_2, zcs_3, zcv_3, zcs_4, zcv_4, zcs_5, zcv_5, zcs_6, zcv_6, zcs_7, zcv_7, Int.reduceToNat, Nat.reduceDiv, Nat.reduceMod, zJ, zC, zK_wA, zN_wA, zR_wA, zS_wA, zA_wA, zK_wR, zN_wR, zR_wR, zS_wR, zA_wR, zK_cp, zN_cp, zR_cp, zS_cp, zA_cp, zK_mp, zN_mp, zR_mp, zS_mp, zA_mp, zfa, zfmm, zfa_1, zfb_1, zfa_2, zfb_2, zfa_3, zfb_3, zfa_4, zfb_4, zfa_5, zfb_5, zfa_6, zfb_6, zfa_7, zfb_7, zfa_8, zfb_8, zfa_9, zfb_9, zfa_10, zfb_10, zfa_12, zfb_12, zfa_20, zfb_20, zfa_21, zfb_21, zfa_30, zfb_30, zfa_48, zfb_48, zfa_60, zfb_60, zfa_61, zfb_61, zfa_65, zfb_65, zfa_97, zfb_97, zfa_100, zfb_100, zfa_120, zfb_120, zfa_124, zfb_124, zfa_500, zfb_500, zfa_792, zfb_792, zfa_2989, zfb_2989, zfm_2, zfn_2, zfm_3, zfn_3, zfm_4, zfn_4, zfm_6, zfn_6, zfm_7, zfn_7, zfm_8, zfn_8, zfm_12, zfn_12, zfm_49, zfn_49, zfm_60, zfn_60, zfm_61, zfn_61, zfm_792, zfn_792, zfm_2989, zfn_2989, Int.zero_add, Int.add_zero, Int.zero_mul, Int.mul_zero, Int.one_mul, Int.mul_one]
      repeat (with_reducible refine And.intro ?_ ?_; · first | omega | (simp only [z32, z64]; omega))
      refine fin _ G1 B1 m1 s1 (fun c hc => ?_) (fun s s1 _ => a2 s s1)
      rw [a1 c hc]
      unfold yL
      rw [if_pos (by omega)]
  · intro G B v7 hm hS hrep hlow hsup
    have hx0 : tk.getD i 999 = 120 := yFx_s hx (by omega)
    clear hx
    have hLG := zmd_lay hm hL0
    have hkG := yMk_d hm hk
    have hnG : zA G 165 3 = (n : Nat) := by rw [hm.2.2.2 165 3 rfl]; exact hn
    have hwG : yWd G 94 t w := yWd_c (fun a j q1 q2 => hm.2.2.2 a j (by simp [zin]; omega)) hw
    have t6 : zA G 94 6 = (tk.length : Nat) := by rw [hm.2.2.2 94 6 rfl]; exact h6
    have hil : i < tk.length := by
      apply Classical.byContradiction
      intro r
      have e9 := zgd_o (D := 999) r
      rw [e9] at hx0
      clear hZ hrep hsup hE0
      unfold zlfP at *
      omega
    have tkc : zA G 98 i = (tk.getD i 999 : Nat) := by rw [hm.2.2.2 98 i rfl, htk i hil, zgd_D (D' := 999) hil]
    have fin : ∀ (v7 : Option zV) (G1 : zH) (B1 : Nat → List Nat → Prop), zmd (zin [166, 167] []) G G1 → ySt G1 t w B1 → (∀ c : Nat, c ≤ n → B1 (224 + (l + 1) * 7 + c) = B (224 + l * 7 + c) ∧ B1 (259 + (l + 1) * 7 + c) = B (224 + l * 7 + c)) → (∀ s : Nat, ¬ (224 + (l + 1) * 7 ≤ s ∧ s < 224 + (l + 1) * 7 + 7) → ¬ (259 + (l + 1) * 7 ≤ s ∧ s < 259 + (l + 1) * 7 + 7) → B1 s = B s) → zEt xs L d 0 0 false 139 34 [some (zr (some 165)), some (zr (some 94)), some (zi (nm : Nat)), some (zi (f : Nat)), some (zi sr), some (zi (l + 1 : Nat)), some (zi (i + 1 : Nat)), v7] [] G1 Q := fun v7 G1 B1 m1 s1 a1 a2 => hZ G1 B1 v7 (zmd_tr hm m1) s1 (fun m hm2 c hc => by
        by_cases q : m = l + 1
        · rw [q, zuq_e, zuq_e, (a1 c hc).1, (a1 c hc).2]; exact ⟨(hrep l (Nat.le_refl _) c hc).1, (hrep l (Nat.le_refl _) c hc).1⟩
        · rw [zuq_n q, zuq_n q, a2 _ (by omega) (by omega), a2 _ (by omega) (by omega)]; exact hrep m (by omega) c hc) (fun s hs => by rw [a2 s (by omega) (by omega)]; exact hlow s hs) (fun m hm2 k hk9 r => by
        by_cases q : m = l + 1
        · rw [q, zuq_e, zuq_e]; exact ⟨(hsup l (Nat.le_refl _) k hk9 r).1, (hsup l (Nat.le_refl _) k hk9 r).1⟩
        · rw [zuq_n q, zuq_n q]; exact hsup m (by omega) k hk9 r)
    clear hZ hrep hsup
    have tkc : zA G 98 i = 120 := by rw [tkc, hx0]; rfl
    refine zgo_at [34] 12 ?_
    try simp -implicitDefEqProofs only [zgn_0, zgn_s, zct_0, zct_s, Nat.reduceEqDiff, Nat.reduceBEq, Nat.reduceAdd, Nat.reduceSub, Nat.reduceMul, Int.reduceAdd, Int.reduceSub, Int.reduceMul, Int.reduceNeg, Int.reduceLT, Int.reduceLE, Int.reduceEq, Nat.zero_add, true_and, and_true, false_and, and_false, true_imp_iff, false_imp_iff, not_true_eq_false, not_false_eq_true, if_true, if_false, Bool.false_eq_true, ite_true, ite_false, reduceIte, eq_self, Int.toNat_natCast, zst_0, zst_1, zst_2, zst_3, zst_4, true_or, or_true, or_false, false_or, ze_139_0, zB_139_0, ze_139_14, zB_139_14, ze_139_34, zB_139_34, ze_139_70, zB_139_70, ze_139_93, zB_139_93, ze_139_141, zB_139_141, ze_139_158, zB_139_158, ze_139_175, zB_139_175, ze_139_214, zB_139_214, ze_139_220, zB_139_220, ze_139_223, zB_139_223, ze_139_255, zB_139_255, zbr_t, zbr_f, zrun_c, zmI_s, zmL_s, zmR_s, zgt_0, zgt_s, zln_0, zln_s, zs1_0, zs1_1i, zs1_1r, zs1_1n, zs1_1l, zs1_s, zs2_0, zs2_1i, zs2_1r, zs2_1n, zs2_1l, zs2_s, zcn_eq, zcn_ne, zcn_lt, zcn_ge, zcn_gt, zcn_le, zpu_0, zpu_1, zpu_2, zx_iconst, zx_lconst, zx_ldc, zx_ldc2, zx_null, zx_iload, zx_lload, zx_aload, zx_istore, zx_lstore, zx_astore, zx_iinc, zx_iadd, zx_isub, zx_imul, zx_idiv, zx_irem, zx_iand, zx_ior, zx_ixor, zx_ishl, zx_ishr, zx_iushr, zx_i2b, zx_i2l, zx_l2i, zx_ladd, zx_lmul, zx_ldiv, zx_lrem, zx_land, zx_lor, zx_lshl, zx_lshr, zx_lcmp, zx_dupi, zx_dupr, zx_dup2l, zx_dup2i, zx_pop, zx_ifc, zx_icmp, zx_ifnullN, zx_ifnullS, zx_ifnonN, zx_ifnonS, zx_goto, zx_gotow, zx_switch, zx_iaload, zx_baload, zx_laload, zx_aaload, zx_iastore, zx_bastore, zx_lastore, zx_aastore, zx_alen, zx_newarray, zx_anewarray, zx_new, zx_getI, zx_getL, zx_getR, zx_putI, zx_putZ, zx_putL, zx_putR, zx_callS, zx_callV, zx_objinit, zx_cpyi, zx_cpyl, zx_mmax, zx_mmin, zx_mminl, zx_ireturn, zx_areturn, zx_lreturn, zx_return, zcs_0, zcs_1, zcv_1, zcs_2, zcv_2, zcs_3, zcv_3, zcs_4, zcv_4, zcs_5, zcv_5, zcs_6, zcv_6, zcs_7, zcv_7, Int.reduceToNat, Nat.reduceDiv, Nat.reduceMod, zJ, zC, zK_wA, zN_wA, zR_wA, zS_wA, zA_wA, zK_wR, zN_wR, zR_wR, zS_wR, zA_wR, zK_cp, zN_cp, zR_cp, zS_cp, zA_cp, zK_mp, zN_mp, zR_mp, zS_mp, zA_mp, zfa, zfmm, zfa_1, zfb_1, zfa_2, zfb_2, zfa_3, zfb_3, zfa_4, zfb_4, zfa_5, zfb_5, zfa_6, zfb_6, zfa_7, zfb_7, zfa_8, zfb_8, zfa_9, zfb_9, zfa_10, zfb_10, zfa_12, zfb_12, zfa_20, zfb_20, zfa_21, zfb_21, zfa_30, zfb_30, zfa_48, zfb_48, zfa_60, zfb_60, zfa_61, zfb_61, zfa_65, zfb_65, zfa_97, zfb_97, zfa_100, zfb_100, zfa_120, zfb_120, zfa_124, zfb_124, zfa_500, zfb_500, zfa_792, zfb_792, zfa_2989, zfb_2989, zfm_2, zfn_2, zfm_3, zfn_3, zfm_4, zfn_4, zfm_6, zfn_6, zfm_7, zfn_7, zfm_8, zfn_8, zfm_12, zfn_12, zfm_49, zfn_49, zfm_60, zfn_60, zfm_61, zfn_61, zfm_792, zfn_792, zfm_2989, zfn_2989, Int.zero_add, Int.add_zero, Int.zero_mul, Int.mul_zero, Int.one_mul, Int.mul_one, lk_94 hLG, lr_94_5 hLG, lk_98 hLG, ln_98 hLG, ym_k5 hkG, t6, tkc]
    refine zbr_i (fun q => by omega) (fun q => ?_)
    repeat (with_reducible refine And.intro ?_ ?_; · first | omega | (simp only [z32, z64]; omega))
    refine zbr_i (fun q => by omega) (fun q => ?_)
    repeat (with_reducible refine And.intro ?_ ?_; · first | omega | (simp only [z32, z64]; omega))
    refine zc_bgr (A := B) (l := l + 1) (f := f) (show 3 ≤ d - 1 by omega) hkG hnG hn6 (by omega) hf hS (fun G1 B1 m1 s1 a1 a2 => ?_)
    have hk1 := yMk_d m1 hkG
    have hn1 : zA G1 165 3 = (n : Nat) := by rw [m1.2.2.2 165 3 rfl]; exact hnG
    have e2 : (259 : Int) + ((l + 1 : Nat) : Int) * 7 = ((259 + (l + 1) * 7 : Nat) : Int) := by omega
    have e3 : (224 : Int) + ((l + 1 : Nat) : Int) * 7 = ((224 + (l + 1) * 7 : Nat) : Int) := by omega
    try simp -implicitDefEqProofs only [zgn_0, zgn_s, zct_0, zct_s, Nat.reduceEqDiff, Nat.reduceBEq, Nat.reduceAdd, Nat.reduceSub, Nat.reduceMul, Int.reduceAdd, Int.reduceSub, Int.reduceMul, Int.reduceNeg, Int.reduceLT, Int.reduceLE, Int.reduceEq, Nat.zero_add, true_and, and_true, false_and, and_false, true_imp_iff, false_imp_iff, not_true_eq_false, not_false_eq_true, if_true, if_false, Bool.false_eq_true, ite_true, ite_false, reduceIte, eq_self, Int.toNat_natCast, zst_0, zst_1, zst_2, zst_3, zst_4, true_or, or_true, or_false, false_or, ze_139_0, zB_139_0, ze_139_14, zB_139_14, ze_139_34, zB_139_34, ze_139_70, zB_139_70, ze_139_93, zB_139_93, ze_139_141, zB_139_141, ze_139_158, zB_139_158, ze_139_175, zB_139_175, ze_139_214, zB_139_214, ze_139_220, zB_139_220, ze_139_223, zB_139_223, ze_139_255, zB_139_255, zbr_t, zbr_f, zrun_c, zmI_s, zmL_s, zmR_s, zgt_0, zgt_s, zln_0, zln_s, zs1_0, zs1_1i, zs1_1r, zs1_1n, zs1_1l, zs1_s, zs2_0, zs2_1i, zs2_1r, zs2_1n, zs2_1l, zs2_s, zcn_eq, zcn_ne, zcn_lt, zcn_ge, zcn_gt, zcn_le, zpu_0, zpu_1, zpu_2, zx_iconst, zx_lconst, zx_ldc, zx_ldc2, zx_null, zx_iload, zx_lload, zx_aload, zx_istore, zx_lstore, zx_astore, zx_iinc, zx_iadd, zx_isub, zx_imul, zx_idiv, zx_irem, zx_iand, zx_ior, zx_ixor, zx_ishl, zx_ishr, zx_iushr, zx_i2b, zx_i2l, zx_l2i, zx_ladd, zx_lmul, zx_ldiv, zx_lrem, zx_land, zx_lor, zx_lshl, zx_lshr, zx_lcmp, zx_dupi, zx_dupr, zx_dup2l, zx_dup2i, zx_pop, zx_ifc, zx_icmp, zx_ifnullN, zx_ifnullS, zx_ifnonN, zx_ifnonS, zx_goto, zx_gotow, zx_switch, zx_iaload, zx_baload, zx_laload, zx_aaload, zx_iastore, zx_bastore, zx_lastore, zx_aastore, zx_alen, zx_newarray, zx_anewarray, zx_new, zx_getI, zx_getL, zx_getR, zx_putI, zx_putZ, zx_putL, zx_putR, zx_callS, zx_callV, zx_objinit, zx_cpyi, zx_cpyl, zx_mmax, zx_mmin, zx_mminl, zx_ireturn, zx_areturn, zx_lreturn, zx_return, zcs_0, zcs_1, zcv_1, zcs_2, zcv_2, zcs_3, zcv_3, zcs_4, zcv_4, zcs_5, zcv_5, zcs_6, zcv_6, zcs_7, zcv_7, Int.reduceToNat, Nat.reduceDiv, Nat.reduceMod, zJ, zC, zK_wA, zN_wA, zR_wA, zS_wA, zA_wA, zK_wR, zN_wR, zR_wR, zS_wR, zA_wR, zK_cp, zN_cp, zR_cp, zS_cp, zA_cp, zK_mp, zN_mp, zR_mp, zS_mp, zA_mp, zfa, zfmm, zfa_1, zfb_1, zfa_2, zfb_2, zfa_3, zfb_3, zfa_4, zfb_4, zfa_5, zfb_5, zfa_6, zfb_6, zfa_7, zfb_7, zfa_8, zfb_8, zfa_9, zfb_9, zfa_10, zfb_10, zfa_12, zfb_12, zfa_20, zfb_20, zfa_21, zfb_21, zfa_30, zfb_30, zfa_48, zfb_48, zfa_60, zfb_60, zfa_61, zfb_61, zfa_65, zfb_65, zfa_97, zfb_97, zfa_100, zfb_100, zfa_120, zfb_120, zfa_124, zfb_124, zfa_500, zfb_500, zfa_792, zfb_792, zfa_2989, zfb_2989, zfm_2, zfn_2, zfm_3, zfn_3, zfm_4, zfn_4, zfm_6, zfn_6, zfm_7, zfn_7, zfm_8, zfn_8, zfm_12, zfn_12, zfm_49, zfn_49, zfm_60, zfn_60, zfm_61, zfn_61, zfm_792, zfn_792, zfm_2989, zfn_2989, Int.zero_add, Int.add_zero, Int.zero_mul, Int.mul_zero, Int.one_mul, Int.mul_one, ym_k5 hk1, e2, e3]
    (try rw [e2])
    (try rw [e3])
    repeat (with_reducible refine And.intro ?_ ?_; · first | omega | (simp only [z32, z64]; omega))
    refine zc_ccu (A := B1) (a := 224 + (l + 1) * 7) (b := 259 + (l + 1) * 7) (show 1 ≤ d - 1 by omega) hk1 hn1 hn6 (by omega) (by omega) (by omega) s1 (fun G2 m2 s2 => ?_)
    try simp -implicitDefEqProofs only [zgn_0, zgn_s, zct_0, zct_s, Nat.reduceEqDiff, Nat.reduceBEq, Nat.reduceAdd, Nat.reduceSub, Nat.reduceMul, Int.reduceAdd, Int.reduceSub, Int.reduceMul, Int.reduceNeg, Int.reduceLT, Int.reduceLE, Int.reduceEq, Nat.zero_add, true_and, and_true, false_and, and_false, true_imp_iff, false_imp_iff, not_true_eq_false, not_false_eq_true, if_true, if_false, Bool.false_eq_true, ite_true, ite_false, reduceIte, eq_self, Int.toNat_natCast, zst_0, zst_1, zst_2, zst_3, zst_4, true_or, or_true, or_false, false_or, ze_139_0, zB_139_0, ze_139_14, zB_139_14, ze_139_34, zB_139_34, ze_139_70, zB_139_70, ze_139_93, zB_139_93, ze_139_141, zB_139_141, ze_139_158, zB_139_158, ze_139_175, zB_139_175, ze_139_214, zB_139_214, ze_139_220, zB_139_220, ze_139_223, zB_139_223, ze_139_255, zB_139_255, zbr_t, zbr_f, zrun_c, zmI_s, zmL_s, zmR_s, zgt_0, zgt_s, zln_0, zln_s, zs1_0, zs1_1i, zs1_1r, zs1_1n, zs1_1l, zs1_s, zs2_0, zs2_1i, zs2_1r, zs2_1n, zs2_1l, zs2_s, zcn_eq, zcn_ne, zcn_lt, zcn_ge, zcn_gt, zcn_le, zpu_0, zpu_1, zpu_2, zx_iconst, zx_lconst, zx_ldc, zx_ldc2, zx_null, zx_iload, zx_lload, zx_aload, zx_istore, zx_lstore, zx_astore, zx_iinc, zx_iadd, zx_isub, zx_imul, zx_idiv, zx_irem, zx_iand, zx_ior, zx_ixor, zx_ishl, zx_ishr, zx_iushr, zx_i2b, zx_i2l, zx_l2i, zx_ladd, zx_lmul, zx_ldiv, zx_lrem, zx_land, zx_lor, zx_lshl, zx_lshr, zx_lcmp, zx_dupi, zx_dupr, zx_dup2l, zx_dup2i, zx_pop, zx_ifc, zx_icmp, zx_ifnullN, zx_ifnullS, zx_ifnonN, zx_ifnonS, zx_goto, zx_gotow, zx_switch, zx_iaload, zx_baload, zx_laload, zx_aaload, zx_iastore, zx_bastore, zx_lastore, zx_aastore, zx_alen, zx_newarray, zx_anewarray, zx_new, zx_getI, zx_getL, zx_getR, zx_putI, zx_putZ, zx_putL, zx_putR, zx_callS, zx_callV, zx_objinit, zx_cpyi, zx_cpyl, zx_mmax, zx_mmin, zx_mminl, zx_ireturn, zx_areturn, zx_lreturn, zx_return, zcs_0, zcs_1, zcv_1, zcs_2, zcv_2, zcs_3, zcv_3, zcs_4, zcv_4, zcs_5, zcv_5, zcs_6, zcv_6, zcs_7, zcv_7, Int.reduceToNat, Nat.reduceDiv, Nat.reduceMod, zJ, zC, zK_wA, zN_wA, zR_wA, zS_wA, zA_wA, zK_wR, zN_wR, zR_wR, zS_wR, zA_wR, zK_cp, zN_cp, zR_cp, zS_cp, zA_cp, zK_mp, zN_mp, zR_mp, zS_mp, zA_mp, zfa, zfmm, zfa_1, zfb_1, zfa_2, zfb_2, zfa_3, zfb_3, zfa_4, zfb_4, zfa_5, zfb_5, zfa_6, zfb_6, zfa_7, zfb_7, zfa_8, zfb_8, zfa_9, zfb_9, zfa_10, zfb_10, zfa_12, zfb_12, zfa_20, zfb_20, zfa_21, zfb_21, zfa_30, zfb_30, zfa_48, zfb_48, zfa_60, zfb_60, zfa_61, zfb_61, zfa_65, zfb_65, zfa_97, zfb_97, zfa_100, zfb_100, zfa_120, zfb_120, zfa_124, zfb_124, zfa_500, zfb_500, zfa_792, zfb_792, zfa_2989, zfb_2989, zfm_2, zfn_2, zfm_3, zfn_3, zfm_4, zfn_4, zfm_6, zfn_6, zfm_7, zfn_7, zfm_8, zfn_8, zfm_12, zfn_12, zfm_49, zfn_49, zfm_60, zfn_60, zfm_61, zfn_61, zfm_792, zfn_792, zfm_2989, zfn_2989, Int.zero_add, Int.add_zero, Int.zero_mul, Int.mul_zero, Int.one_mul, Int.mul_one]
    repeat (with_reducible refine And.intro ?_ ?_; · first | omega | (simp only [z32, z64]; omega))
    refine fin _ G2 _ (zmd_tr m1 m2) s2 (fun c hc => ?_) (fun s x1 x2 => ?_)
    · have a3 := a1 c hc
      rw [if_neg (by omega), show l + 1 - 1 = l by omega] at a3
      unfold yCpy
      rw [if_neg (by omega), if_pos (by omega), show 259 + (l + 1) * 7 + c - (259 + (l + 1) * 7) = c by omega]
      exact ⟨a3, a3⟩
    · unfold yCpy
      rw [if_neg (by omega)]
      exact a2 s x1
  · intro G B v7 hm hS hrep hlow hsup
    have hx0 : tk.getD i 999 = 121 := yFx_s hx (by omega)
    clear hx
    have hLG := zmd_lay hm hL0
    have hkG := yMk_d hm hk
    have hnG : zA G 165 3 = (n : Nat) := by rw [hm.2.2.2 165 3 rfl]; exact hn
    have hwG : yWd G 94 t w := yWd_c (fun a j q1 q2 => hm.2.2.2 a j (by simp [zin]; omega)) hw
    have t6 : zA G 94 6 = (tk.length : Nat) := by rw [hm.2.2.2 94 6 rfl]; exact h6
    have hil : i < tk.length := by
      apply Classical.byContradiction
      intro r
      have e9 := zgd_o (D := 999) r
      rw [e9] at hx0
      clear hZ hrep hsup hE0
      unfold zlfP at *
      omega
    have tkc : zA G 98 i = (tk.getD i 999 : Nat) := by rw [hm.2.2.2 98 i rfl, htk i hil, zgd_D (D' := 999) hil]
    have fin : ∀ (v7 : Option zV) (G1 : zH) (B1 : Nat → List Nat → Prop), zmd (zin [166, 167] []) G G1 → ySt G1 t w B1 → (∀ c : Nat, c ≤ n → B1 (224 + l * 7 + c) = (if l = 0 then yF f c else B (224 + (l - 1) * 7 + c)) ∧ B1 (259 + l * 7 + c) = yOr (B (259 + l * 7 + c)) (B (224 + l * 7 + c))) → (∀ s : Nat, ¬ (224 + l * 7 ≤ s ∧ s < 224 + l * 7 + 7) → ¬ (259 + l * 7 ≤ s ∧ s < 259 + l * 7 + 7) → B1 s = B s) → zEt xs L d 0 0 false 139 34 [some (zr (some 165)), some (zr (some 94)), some (zi (nm : Nat)), some (zi (f : Nat)), some (zi sr), some (zi (l : Nat)), some (zi (i + 1 : Nat)), v7] [] G1 Q := fun v7 G1 B1 m1 s1 a1 a2 => hZ G1 B1 v7 (zmd_tr hm m1) s1 (fun m hm2 c hc => by
        by_cases q : m = l
        · rw [q, zuq_e, zuq_e, (a1 c hc).1, (a1 c hc).2, (hrep l (Nat.le_refl _) c hc).1, (hrep l (Nat.le_refl _) c hc).2]
          refine ⟨?_, rfl⟩
          by_cases q0 : l = 0
          · rw [if_pos q0, if_pos q0]
          · rw [if_neg q0, if_neg q0]; exact (hrep (l - 1) (by omega) c hc).1
        · rw [zuq_n q, zuq_n q, a2 _ (by omega) (by omega), a2 _ (by omega) (by omega)]; exact hrep m hm2 c hc) (fun s hs => by rw [a2 s (by omega) (by omega)]; exact hlow s hs) (fun m hm2 k hk9 r => by
        by_cases q : m = l
        · rw [q, zuq_e, zuq_e]
          refine ⟨?_, fun hr => ?_⟩
          · by_cases q0 : l = 0
            · rw [if_pos q0]
              intro hr
              have := hr.1
              omega
            · rw [if_neg q0]; exact (hsup (l - 1) (by omega) k hk9 r).1
          · rcases hr with hr | hr
            · exact (hsup l (Nat.le_refl _) k hk9 r).2 hr
            · exact (hsup l (Nat.le_refl _) k hk9 r).1 hr
        · rw [zuq_n q, zuq_n q]; exact hsup m hm2 k hk9 r)
    clear hZ hrep hsup
    have tkc : zA G 98 i = 121 := by rw [tkc, hx0]; rfl
    refine zgo_at [34] 12 ?_
    try simp -implicitDefEqProofs only [zgn_0, zgn_s, zct_0, zct_s, Nat.reduceEqDiff, Nat.reduceBEq, Nat.reduceAdd, Nat.reduceSub, Nat.reduceMul, Int.reduceAdd, Int.reduceSub, Int.reduceMul, Int.reduceNeg, Int.reduceLT, Int.reduceLE, Int.reduceEq, Nat.zero_add, true_and, and_true, false_and, and_false, true_imp_iff, false_imp_iff, not_true_eq_false, not_false_eq_true, if_true, if_false, Bool.false_eq_true, ite_true, ite_false, reduceIte, eq_self, Int.toNat_natCast, zst_0, zst_1, zst_2, zst_3, zst_4, true_or, or_true, or_false, false_or, ze_139_0, zB_139_0, ze_139_14, zB_139_14, ze_139_34, zB_139_34, ze_139_70, zB_139_70, ze_139_93, zB_139_93, ze_139_141, zB_139_141, ze_139_158, zB_139_158, ze_139_175, zB_139_175, ze_139_214, zB_139_214, ze_139_220, zB_139_220, ze_139_223, zB_139_223, ze_139_255, zB_139_255, zbr_t, zbr_f, zrun_c, zmI_s, zmL_s, zmR_s, zgt_0, zgt_s, zln_0, zln_s, zs1_0, zs1_1i, zs1_1r, zs1_1n, zs1_1l, zs1_s, zs2_0, zs2_1i, zs2_1r, zs2_1n, zs2_1l, zs2_s, zcn_eq, zcn_ne, zcn_lt, zcn_ge, zcn_gt, zcn_le, zpu_0, zpu_1, zpu_2, zx_iconst, zx_lconst, zx_ldc, zx_ldc2, zx_null, zx_iload, zx_lload, zx_aload, zx_istore, zx_lstore, zx_astore, zx_iinc, zx_iadd, zx_isub, zx_imul, zx_idiv, zx_irem, zx_iand, zx_ior, zx_ixor, zx_ishl, zx_ishr, zx_iushr, zx_i2b, zx_i2l, zx_l2i, zx_ladd, zx_lmul, zx_ldiv, zx_lrem, zx_land, zx_lor, zx_lshl, zx_lshr, zx_lcmp, zx_dupi, zx_dupr, zx_dup2l, zx_dup2i, zx_pop, zx_ifc, zx_icmp, zx_ifnullN, zx_ifnullS, zx_ifnonN, zx_ifnonS, zx_goto, zx_gotow, zx_switch, zx_iaload, zx_baload, zx_laload, zx_aaload, zx_iastore, zx_bastore, zx_lastore, zx_aastore, zx_alen, zx_newarray, zx_anewarray, zx_new, zx_getI, zx_getL, zx_getR, zx_putI, zx_putZ, zx_putL, zx_putR, zx_callS, zx_callV, zx_objinit, zx_cpyi, zx_cpyl, zx_mmax, zx_mmin, zx_mminl, zx_ireturn, zx_areturn, zx_lreturn, zx_return, zcs_0, zcs_1, zcv_1, zcs_2, zcv_2, zcs_3, zcv_3, zcs_4, zcv_4, zcs_5, zcv_5, zcs_6, zcv_6, zcs_7, zcv_7, Int.reduceToNat, Nat.reduceDiv, Nat.reduceMod, zJ, zC, zK_wA, zN_wA, zR_wA, zS_wA, zA_wA, zK_wR, zN_wR, zR_wR, zS_wR, zA_wR, zK_cp, zN_cp, zR_cp, zS_cp, zA_cp, zK_mp, zN_mp, zR_mp, zS_mp, zA_mp, zfa, zfmm, zfa_1, zfb_1, zfa_2, zfb_2, zfa_3, zfb_3, zfa_4, zfb_4, zfa_5, zfb_5, zfa_6, zfb_6, zfa_7, zfb_7, zfa_8, zfb_8, zfa_9, zfb_9, zfa_10, zfb_10, zfa_12, zfb_12, zfa_20, zfb_20, zfa_21, zfb_21, zfa_30, zfb_30, zfa_48, zfb_48, zfa_60, zfb_60, zfa_61, zfb_61, zfa_65, zfb_65, zfa_97, zfb_97, zfa_100, zfb_100, zfa_120, zfb_120, zfa_124, zfb_124, zfa_500, zfb_500, zfa_792, zfb_792, zfa_2989, zfb_2989, zfm_2, zfn_2, zfm_3, zfn_3, zfm_4, zfn_4, zfm_6, zfn_6, zfm_7, zfn_7, zfm_8, zfn_8, zfm_12, zfn_12, zfm_49, zfn_49, zfm_60, zfn_60, zfm_61, zfn_61, zfm_792, zfn_792, zfm_2989, zfn_2989, Int.zero_add, Int.add_zero, Int.zero_mul, Int.mul_zero, Int.one_mul, Int.mul_one, lk_94 hLG, lr_94_5 hLG, lk_98 hLG, ln_98 hLG, ym_k5 hkG, t6, tkc]
    refine zbr_i (fun q => by omega) (fun q => ?_)
    repeat (with_reducible refine And.intro ?_ ?_; · first | omega | (simp only [z32, z64]; omega))
    refine zc_enr94 (A := B) (l := l) (show 2 ≤ d - 1 by omega) hLG hkG hnG hn6 hwG hdd hl hS (fun G1 B1 m1 s1 a1 a2 => ?_)
    have hk1 := yMk_d m1 hkG
    have hn1 : zA G1 165 3 = (n : Nat) := by rw [m1.2.2.2 165 3 rfl]; exact hnG
    try simp -implicitDefEqProofs only [zgn_0, zgn_s, zct_0, zct_s, Nat.reduceEqDiff, Nat.reduceBEq, Nat.reduceAdd, Nat.reduceSub, Nat.reduceMul, Int.reduceAdd, Int.reduceSub, Int.reduceMul, Int.reduceNeg, Int.reduceLT, Int.reduceLE, Int.reduceEq, Nat.zero_add, true_and, and_true, false_and, and_false, true_imp_iff, false_imp_iff, not_true_eq_false, not_false_eq_true, if_true, if_false, Bool.false_eq_true, ite_true, ite_false, reduceIte, eq_self, Int.toNat_natCast, zst_0, zst_1, zst_2, zst_3, zst_4, true_or, or_true, or_false, false_or, ze_139_0, zB_139_0, ze_139_14, zB_139_14, ze_139_34, zB_139_34, ze_139_70, zB_139_70, ze_139_93, zB_139_93, ze_139_141, zB_139_141, ze_139_158, zB_139_158, ze_139_175, zB_139_175, ze_139_214, zB_139_214, ze_139_220, zB_139_220, ze_139_223, zB_139_223, ze_139_255, zB_139_255, zbr_t, zbr_f, zrun_c, zmI_s, zmL_s, zmR_s, zgt_0, zgt_s, zln_0, zln_s, zs1_0, zs1_1i, zs1_1r, zs1_1n, zs1_1l, zs1_s, zs2_0, zs2_1i, zs2_1r, zs2_1n, zs2_1l, zs2_s, zcn_eq, zcn_ne, zcn_lt, zcn_ge, zcn_gt, zcn_le, zpu_0, zpu_1, zpu_2, zx_iconst, zx_lconst, zx_ldc, zx_ldc2, zx_null, zx_iload, zx_lload, zx_aload, zx_istore, zx_lstore, zx_astore, zx_iinc, zx_iadd, zx_isub, zx_imul, zx_idiv, zx_irem, zx_iand, zx_ior, zx_ixor, zx_ishl, zx_ishr, zx_iushr, zx_i2b, zx_i2l, zx_l2i, zx_ladd, zx_lmul, zx_ldiv, zx_lrem, zx_land, zx_lor, zx_lshl, zx_lshr, zx_lcmp, zx_dupi, zx_dupr, zx_dup2l, zx_dup2i, zx_pop, zx_ifc, zx_icmp, zx_ifnullN, zx_ifnullS, zx_ifnonN, zx_ifnonS, zx_goto, zx_gotow, zx_switch, zx_iaload, zx_baload, zx_laload, zx_aaload, zx_iastore, zx_bastore, zx_lastore, zx_aastore, zx_alen, zx_newarray, zx_anewarray, zx_new, zx_getI, zx_getL, zx_getR, zx_putI, zx_putZ, zx_putL, zx_putR, zx_callS, zx_callV, zx_objinit, zx_cpyi, zx_cpyl, zx_mmax, zx_mmin, zx_mminl, zx_ireturn, zx_areturn, zx_lreturn, zx_return, zcs_0, zcs_1, zcv_1, zcs_2, zcv_2, zcs_3, zcv_3, zcs_4, zcv_4, zcs_5, zcv_5, zcs_6, zcv_6, zcs_7, zcv_7, Int.reduceToNat, Nat.reduceDiv, Nat.reduceMod, zJ, zC, zK_wA, zN_wA, zR_wA, zS_wA, zA_wA, zK_wR, zN_wR, zR_wR, zS_wR, zA_wR, zK_cp, zN_cp, zR_cp, zS_cp, zA_cp, zK_mp, zN_mp, zR_mp, zS_mp, zA_mp, zfa, zfmm, zfa_1, zfb_1, zfa_2, zfb_2, zfa_3, zfb_3, zfa_4, zfb_4, zfa_5, zfb_5, zfa_6, zfb_6, zfa_7, zfb_7, zfa_8, zfb_8, zfa_9, zfb_9, zfa_10, zfb_10, zfa_12, zfb_12, zfa_20, zfb_20, zfa_21, zfb_21, zfa_30, zfb_30, zfa_48, zfb_48, zfa_60, zfb_60, zfa_61, zfb_61, zfa_65, zfb_65, zfa_97, zfb_97, zfa_100, zfb_100, zfa_120, zfb_120, zfa_124, zfb_124, zfa_500, zfb_500, zfa_792, zfb_792, zfa_2989, zfb_2989, zfm_2, zfn_2, zfm_3, zfn_3, zfm_4, zfn_4, zfm_6, zfn_6, zfm_7, zfn_7, zfm_8, zfn_8, zfm_12, zfn_12, zfm_49, zfn_49, zfm_60, zfn_60, zfm_61, zfn_61, zfm_792, zfn_792, zfm_2989, zfn_2989, Int.zero_add, Int.add_zero, Int.zero_mul, Int.mul_zero, Int.one_mul, Int.mul_one, ym_k5 hk1]
    repeat (with_reducible refine And.intro ?_ ?_; · first | omega | (simp only [z32, z64]; omega))
    refine zc_bgr (A := B1) (l := l) (f := f) (show 3 ≤ d - 1 by omega) hk1 hn1 hn6 hl hf s1 (fun G2 B2 m2 s2 b1 b2 => ?_)
    try simp -implicitDefEqProofs only [zgn_0, zgn_s, zct_0, zct_s, Nat.reduceEqDiff, Nat.reduceBEq, Nat.reduceAdd, Nat.reduceSub, Nat.reduceMul, Int.reduceAdd, Int.reduceSub, Int.reduceMul, Int.reduceNeg, Int.reduceLT, Int.reduceLE, Int.reduceEq, Nat.zero_add, true_and, and_true, false_and, and_false, true_imp_iff, false_imp_iff, not_true_eq_false, not_false_eq_true, if_true, if_false, Bool.false_eq_true, ite_true, ite_false, reduceIte, eq_self, Int.toNat_natCast, zst_0, zst_1, zst_2, zst_3, zst_4, true_or, or_true, or_false, false_or, ze_139_0, zB_139_0, ze_139_14, zB_139_14, ze_139_34, zB_139_34, ze_139_70, zB_139_70, ze_139_93, zB_139_93, ze_139_141, zB_139_141, ze_139_158, zB_139_158, ze_139_175, zB_139_175, ze_139_214, zB_139_214, ze_139_220, zB_139_220, ze_139_223, zB_139_223, ze_139_255, zB_139_255, zbr_t, zbr_f, zrun_c, zmI_s, zmL_s, zmR_s, zgt_0, zgt_s, zln_0, zln_s, zs1_0, zs1_1i, zs1_1r, zs1_1n, zs1_1l, zs1_s, zs2_0, zs2_1i, zs2_1r, zs2_1n, zs2_1l, zs2_s, zcn_eq, zcn_ne, zcn_lt, zcn_ge, zcn_gt, zcn_le, zpu_0, zpu_1, zpu_2, zx_iconst, zx_lconst, zx_ldc, zx_ldc2, zx_null, zx_iload, zx_lload, zx_aload, zx_istore, zx_lstore, zx_astore, zx_iinc, zx_iadd, zx_isub, zx_imul, zx_idiv, zx_irem, zx_iand, zx_ior, zx_ixor, zx_ishl, zx_ishr, zx_iushr, zx_i2b, zx_i2l, zx_l2i, zx_ladd, zx_lmul, zx_ldiv, zx_lrem, zx_land, zx_lor, zx_lshl, zx_lshr, zx_lcmp, zx_dupi, zx_dupr, zx_dup2l, zx_dup2i, zx_pop, zx_ifc, zx_icmp, zx_ifnullN, zx_ifnullS, zx_ifnonN, zx_ifnonS, zx_goto, zx_gotow, zx_switch, zx_iaload, zx_baload, zx_laload, zx_aaload, zx_iastore, zx_bastore, zx_lastore, zx_aastore, zx_alen, zx_newarray, zx_anewarray, zx_new, zx_getI, zx_getL, zx_getR, zx_putI, zx_putZ, zx_putL, zx_putR, zx_callS, zx_callV, zx_objinit, zx_cpyi, zx_cpyl, zx_mmax, zx_mmin, zx_mminl, zx_ireturn, zx_areturn, zx_lreturn, zx_return, zcs_0, zcs_1, zcv_1, zcs_2, zcv_2, zcs_3, zcv_3, zcs_4, zcv_4, zcs_5, zcv_5, zcs_6, zcv_6, zcs_7, zcv_7, Int.reduceToNat, Nat.reduceDiv, Nat.reduceMod, zJ, zC, zK_wA, zN_wA, zR_wA, zS_wA, zA_wA, zK_wR, zN_wR, zR_wR, zS_wR, zA_wR, zK_cp, zN_cp, zR_cp, zS_cp, zA_cp, zK_mp, zN_mp, zR_mp, zS_mp, zA_mp, zfa, zfmm, zfa_1, zfb_1, zfa_2, zfb_2, zfa_3, zfb_3, zfa_4, zfb_4, zfa_5, zfb_5, zfa_6, zfb_6, zfa_7, zfb_7, zfa_8, zfb_8, zfa_9, zfb_9, zfa_10, zfb_10, zfa_12, zfb_12, zfa_20, zfb_20, zfa_21, zfb_21, zfa_30, zfb_30, zfa_48, zfb_48, zfa_60, zfb_60, zfa_61, zfb_61, zfa_65, zfb_65, zfa_97, zfb_97, zfa_100, zfb_100, zfa_120, zfb_120, zfa_124, zfb_124, zfa_500, zfb_500, zfa_792, zfb_792, zfa_2989, zfb_2989, zfm_2, zfn_2, zfm_3, zfn_3, zfm_4, zfn_4, zfm_6, zfn_6, zfm_7, zfn_7, zfm_8, zfn_8, zfm_12, zfn_12, zfm_49, zfn_49, zfm_60, zfn_60, zfm_61, zfn_61, zfm_792, zfn_792, zfm_2989, zfn_2989, Int.zero_add, Int.add_zero, Int.zero_mul, Int.mul_zero, Int.one_mul, Int.mul_one]
    repeat (with_reducible refine And.intro ?_ ?_; · first | omega | (simp only [z32, z64]; omega))
    refine fin _ G2 B2 (zmd_tr m1 m2) s2 (fun c hc => ⟨?_, by rw [b2 _ (by omega)]; exact a1 c hc⟩) (fun s x1 x2 => by rw [b2 s x1]; exact a2 s x2)
    rw [b1 c hc]
    by_cases q0 : l = 0
    · rw [if_pos q0, if_pos q0]
    · rw [if_neg q0, if_neg q0]; exact a2 _ (by omega)
  · intro G B v7 hm hS hrep hlow hsup
    have hx0 : tk.getD i 999 = 122 := yFx_s hx (by omega)
    clear hx
    generalize hl1 : l + 1 = l1 at *
    have hLG := zmd_lay hm hL0
    have hkG := yMk_d hm hk
    have hnG : zA G 165 3 = (n : Nat) := by rw [hm.2.2.2 165 3 rfl]; exact hn
    have hwG : yWd G 94 t w := yWd_c (fun a j q1 q2 => hm.2.2.2 a j (by simp [zin]; omega)) hw
    have t6 : zA G 94 6 = (tk.length : Nat) := by rw [hm.2.2.2 94 6 rfl]; exact h6
    have hil : i < tk.length := by
      apply Classical.byContradiction
      intro r
      have e9 := zgd_o (D := 999) r
      rw [e9] at hx0
      clear hZ hrep hsup hE0
      unfold zlfP at *
      omega
    have tkc : zA G 98 i = (tk.getD i 999 : Nat) := by rw [hm.2.2.2 98 i rfl, htk i hil, zgd_D (D' := 999) hil]
    have fin : ∀ (v7 : Option zV) (G1 : zH) (B1 : Nat → List Nat → Prop), zmd (zin [166, 167] []) G G1 → ySt G1 t w B1 → (∀ c : Nat, c ≤ n → B1 (224 + l * 7 + c) = yOr (B (259 + l1 * 7 + c)) (B (224 + l1 * 7 + c))) → (∀ s : Nat, ¬ (224 + l * 7 ≤ s ∧ s < 224 + l * 7 + 7) → ¬ (259 + l1 * 7 ≤ s ∧ s < 259 + l1 * 7 + 7) → B1 s = B s) → zEt xs L d 0 0 false 139 34 [some (zr (some 165)), some (zr (some 94)), some (zi (nm : Nat)), some (zi (f : Nat)), some (zi sr), some (zi (l : Nat)), some (zi (i + 1 : Nat)), v7] [] G1 Q := fun v7 G1 B1 m1 s1 a1 a2 => hZ G1 B1 v7 (zmd_tr hm m1) s1 (fun m hm2 c hc => by
        rw [zuq_n (show m ≠ l1 by omega)]
        refine ⟨?_, by rw [a2 _ (by omega) (by omega)]; exact (hrep m (by omega) c hc).2⟩
        by_cases q : m = l
        · rw [q, zuq_e, a1 c hc, (hrep l1 (Nat.le_refl _) c hc).1, (hrep l1 (Nat.le_refl _) c hc).2]; rfl
        · rw [zuq_n q, a2 _ (by omega) (by omega)]; exact (hrep m (by omega) c hc).1) (fun s hs => by rw [a2 s (by omega) (by omega)]; exact hlow s hs) (fun m hm2 k hk9 r => by
        rw [zuq_n (show m ≠ l1 by omega)]
        refine ⟨?_, (hsup m (by omega) k hk9 r).2⟩
        by_cases q : m = l
        · rw [q, zuq_e]
          intro hr
          rcases hr with hr | hr
          · exact (hsup l1 (Nat.le_refl _) k hk9 r).2 hr
          · exact (hsup l1 (Nat.le_refl _) k hk9 r).1 hr
        · rw [zuq_n q]; exact (hsup m (by omega) k hk9 r).1)
    clear hZ hrep hsup
    have tkc : zA G 98 i = 122 := by rw [tkc, hx0]; rfl
    refine zgo_at [34] 12 ?_
    try simp -implicitDefEqProofs only [zgn_0, zgn_s, zct_0, zct_s, Nat.reduceEqDiff, Nat.reduceBEq, Nat.reduceAdd, Nat.reduceSub, Nat.reduceMul, Int.reduceAdd, Int.reduceSub, Int.reduceMul, Int.reduceNeg, Int.reduceLT, Int.reduceLE, Int.reduceEq, Nat.zero_add, true_and, and_true, false_and, and_false, true_imp_iff, false_imp_iff, not_true_eq_false, not_false_eq_true, if_true, if_false, Bool.false_eq_true, ite_true, ite_false, reduceIte, eq_self, Int.toNat_natCast, zst_0, zst_1, zst_2, zst_3, zst_4, true_or, or_true, or_false, false_or, ze_139_0, zB_139_0, ze_139_14, zB_139_14, ze_139_34, zB_139_34, ze_139_70, zB_139_70, ze_139_93, zB_139_93, ze_139_141, zB_139_141, ze_139_158, zB_139_158, ze_139_175, zB_139_175, ze_139_214, zB_139_214, ze_139_220, zB_139_220, ze_139_223, zB_139_223, ze_139_255, zB_139_255, zbr_t, zbr_f, zrun_c, zmI_s, zmL_s, zmR_s, zgt_0, zgt_s, zln_0, zln_s, zs1_0, zs1_1i, zs1_1r, zs1_1n, zs1_1l, zs1_s, zs2_0, zs2_1i, zs2_1r, zs2_1n, zs2_1l, zs2_s, zcn_eq, zcn_ne, zcn_lt, zcn_ge, zcn_gt, zcn_le, zpu_0, zpu_1, zpu_2, zx_iconst, zx_lconst, zx_ldc, zx_ldc2, zx_null, zx_iload, zx_lload, zx_aload, zx_istore, zx_lstore, zx_astore, zx_iinc, zx_iadd, zx_isub, zx_imul, zx_idiv, zx_irem, zx_iand, zx_ior, zx_ixor, zx_ishl, zx_ishr, zx_iushr, zx_i2b, zx_i2l, zx_l2i, zx_ladd, zx_lmul, zx_ldiv, zx_lrem, zx_land, zx_lor, zx_lshl, zx_lshr, zx_lcmp, zx_dupi, zx_dupr, zx_dup2l, zx_dup2i, zx_pop, zx_ifc, zx_icmp, zx_ifnullN, zx_ifnullS, zx_ifnonN, zx_ifnonS, zx_goto, zx_gotow, zx_switch, zx_iaload, zx_baload, zx_laload, zx_aaload, zx_iastore, zx_bastore, zx_lastore, zx_aastore, zx_alen, zx_newarray, zx_anewarray, zx_new, zx_getI, zx_getL, zx_getR, zx_putI, zx_putZ, zx_putL, zx_putR, zx_callS, zx_callV, zx_objinit, zx_cpyi, zx_cpyl, zx_mmax, zx_mmin, zx_mminl, zx_ireturn, zx_areturn, zx_lreturn, zx_return, zcs_0, zcs_1, zcv_1, zcs_2, zcv_2, zcs_3, zcv_3, zcs_4, zcv_4, zcs_5, zcv_5, zcs_6, zcv_6, zcs_7, zcv_7, Int.reduceToNat, Nat.reduceDiv, Nat.reduceMod, zJ, zC, zK_wA, zN_wA, zR_wA, zS_wA, zA_wA, zK_wR, zN_wR, zR_wR, zS_wR, zA_wR, zK_cp, zN_cp, zR_cp, zS_cp, zA_cp, zK_mp, zN_mp, zR_mp, zS_mp, zA_mp, zfa, zfmm, zfa_1, zfb_1, zfa_2, zfb_2, zfa_3, zfb_3, zfa_4, zfb_4, zfa_5, zfb_5, zfa_6, zfb_6, zfa_7, zfb_7, zfa_8, zfb_8, zfa_9, zfb_9, zfa_10, zfb_10, zfa_12, zfb_12, zfa_20, zfb_20, zfa_21, zfb_21, zfa_30, zfb_30, zfa_48, zfb_48, zfa_60, zfb_60, zfa_61, zfb_61, zfa_65, zfb_65, zfa_97, zfb_97, zfa_100, zfb_100, zfa_120, zfb_120, zfa_124, zfb_124, zfa_500, zfb_500, zfa_792, zfb_792, zfa_2989, zfb_2989, zfm_2, zfn_2, zfm_3, zfn_3, zfm_4, zfn_4, zfm_6, zfn_6, zfm_7, zfn_7, zfm_8, zfn_8, zfm_12, zfn_12, zfm_49, zfn_49, zfm_60, zfn_60, zfm_61, zfn_61, zfm_792, zfn_792, zfm_2989, zfn_2989, Int.zero_add, Int.add_zero, Int.zero_mul, Int.mul_zero, Int.one_mul, Int.mul_one, lk_94 hLG, lr_94_5 hLG, lk_98 hLG, ln_98 hLG, ym_k5 hkG, t6, tkc]
    refine zbr_i (fun q => by omega) (fun q => ?_)
    repeat (with_reducible refine And.intro ?_ ?_; · first | omega | (simp only [z32, z64]; omega))
    refine zc_enr94 (A := B) (l := l1) (show 2 ≤ d - 1 by omega) hLG hkG hnG hn6 hwG hdd (by omega) hS (fun G1 B1 m1 s1 a1 a2 => ?_)
    have hk1 := yMk_d m1 hkG
    have hn1 : zA G1 165 3 = (n : Nat) := by rw [m1.2.2.2 165 3 rfl]; exact hnG
    try simp -implicitDefEqProofs only [zgn_0, zgn_s, zct_0, zct_s, Nat.reduceEqDiff, Nat.reduceBEq, Nat.reduceAdd, Nat.reduceSub, Nat.reduceMul, Int.reduceAdd, Int.reduceSub, Int.reduceMul, Int.reduceNeg, Int.reduceLT, Int.reduceLE, Int.reduceEq, Nat.zero_add, true_and, and_true, false_and, and_false, true_imp_iff, false_imp_iff, not_true_eq_false, not_false_eq_true, if_true, if_false, Bool.false_eq_true, ite_true, ite_false, reduceIte, eq_self, Int.toNat_natCast, zst_0, zst_1, zst_2, zst_3, zst_4, true_or, or_true, or_false, false_or, ze_139_0, zB_139_0, ze_139_14, zB_139_14, ze_139_34, zB_139_34, ze_139_70, zB_139_70, ze_139_93, zB_139_93, ze_139_141, zB_139_141, ze_139_158, zB_139_158, ze_139_175, zB_139_175, ze_139_214, zB_139_214, ze_139_220, zB_139_220, ze_139_223, zB_139_223, ze_139_255, zB_139_255, zbr_t, zbr_f, zrun_c, zmI_s, zmL_s, zmR_s, zgt_0, zgt_s, zln_0, zln_s, zs1_0, zs1_1i, zs1_1r, zs1_1n, zs1_1l, zs1_s, zs2_0, zs2_1i, zs2_1r, zs2_1n, zs2_1l, zs2_s, zcn_eq, zcn_ne, zcn_lt, zcn_ge, zcn_gt, zcn_le, zpu_0, zpu_1, zpu_2, zx_iconst, zx_lconst, zx_ldc, zx_ldc2, zx_null, zx_iload, zx_lload, zx_aload, zx_istore, zx_lstore, zx_astore, zx_iinc, zx_iadd, zx_isub, zx_imul, zx_idiv, zx_irem, zx_iand, zx_ior, zx_ixor, zx_ishl, zx_ishr, zx_iushr, zx_i2b, zx_i2l, zx_l2i, zx_ladd, zx_lmul, zx_ldiv, zx_lrem, zx_land, zx_lor, zx_lshl, zx_lshr, zx_lcmp, zx_dupi, zx_dupr, zx_dup2l, zx_dup2i, zx_pop, zx_ifc, zx_icmp, zx_ifnullN, zx_ifnullS, zx_ifnonN, zx_ifnonS, zx_goto, zx_gotow, zx_switch, zx_iaload, zx_baload, zx_laload, zx_aaload, zx_iastore, zx_bastore, zx_lastore, zx_aastore, zx_alen, zx_newarray, zx_anewarray, zx_new, zx_getI, zx_getL, zx_getR, zx_putI, zx_putZ, zx_putL, zx_putR, zx_callS, zx_callV, zx_objinit, zx_cpyi, zx_cpyl, zx_mmax, zx_mmin, zx_mminl, zx_ireturn, zx_areturn, zx_lreturn, zx_return, zcs_0, zcs_1, zcv_1, zcs_2, zcv_2, zcs_3, zcv_3, zcs_4, zcv_4, zcs_5, zcv_5, zcs_6, zcv_6, zcs_7, zcv_7, Int.reduceToNat, Nat.reduceDiv, Nat.reduceMod, zJ, zC, zK_wA, zN_wA, zR_wA, zS_wA, zA_wA, zK_wR, zN_wR, zR_wR, zS_wR, zA_wR, zK_cp, zN_cp, zR_cp, zS_cp, zA_cp, zK_mp, zN_mp, zR_mp, zS_mp, zA_mp, zfa, zfmm, zfa_1, zfb_1, zfa_2, zfb_2, zfa_3, zfb_3, zfa_4, zfb_4, zfa_5, zfb_5, zfa_6, zfb_6, zfa_7, zfb_7, zfa_8, zfb_8, zfa_9, zfb_9, zfa_10, zfb_10, zfa_12, zfb_12, zfa_20, zfb_20, zfa_21, zfb_21, zfa_30, zfb_30, zfa_48, zfb_48, zfa_60, zfb_60, zfa_61, zfb_61, zfa_65, zfb_65, zfa_97, zfb_97, zfa_100, zfb_100, zfa_120, zfb_120, zfa_124, zfb_124, zfa_500, zfb_500, zfa_792, zfb_792, zfa_2989, zfb_2989, zfm_2, zfn_2, zfm_3, zfn_3, zfm_4, zfn_4, zfm_6, zfn_6, zfm_7, zfn_7, zfm_8, zfn_8, zfm_12, zfn_12, zfm_49, zfn_49, zfm_60, zfn_60, zfm_61, zfn_61, zfm_792, zfn_792, zfm_2989, zfn_2989, Int.zero_add, Int.add_zero, Int.zero_mul, Int.mul_zero, Int.one_mul, Int.mul_one, ym_k5 hk1]
    repeat (with_reducible refine And.intro ?_ ?_; · first | omega | (simp only [z32, z64]; omega))
    refine zbr_i (fun q => by omega) (fun q => ?_)
    have e5 : (l1 : Int) + -1 = (l : Nat) := by omega
    (try simp only [e5, Int.toNat_natCast])
    have e6 : (l : Int) + 1 = (l1 : Nat) := by omega
    (try simp only [e6, Int.toNat_natCast])
    have e2 : (259 : Int) + (l1 : Int) * 7 = ((259 + l1 * 7 : Nat) : Int) := by omega
    have e3 : (224 : Int) + (l : Int) * 7 = ((224 + l * 7 : Nat) : Int) := by omega
    try simp -implicitDefEqProofs only [zgn_0, zgn_s, zct_0, zct_s, Nat.reduceEqDiff, Nat.reduceBEq, Nat.reduceAdd, Nat.reduceSub, Nat.reduceMul, Int.reduceAdd, Int.reduceSub, Int.reduceMul, Int.reduceNeg, Int.reduceLT, Int.reduceLE, Int.reduceEq, Nat.zero_add, true_and, and_true, false_and, and_false, true_imp_iff, false_imp_iff, not_true_eq_false, not_false_eq_true, if_true, if_false, Bool.false_eq_true, ite_true, ite_false, reduceIte, eq_self, Int.toNat_natCast, zst_0, zst_1, zst_2, zst_3, zst_4, true_or, or_true, or_false, false_or, ze_139_0, zB_139_0, ze_139_14, zB_139_14, ze_139_34, zB_139_34, ze_139_70, zB_139_70, ze_139_93, zB_139_93, ze_139_141, zB_139_141, ze_139_158, zB_139_158, ze_139_175, zB_139_175, ze_139_214, zB_139_214, ze_139_220, zB_139_220, ze_139_223, zB_139_223, ze_139_255, zB_139_255, zbr_t, zbr_f, zrun_c, zmI_s, zmL_s, zmR_s, zgt_0, zgt_s, zln_0, zln_s, zs1_0, zs1_1i, zs1_1r, zs1_1n, zs1_1l, zs1_s, zs2_0, zs2_1i, zs2_1r, zs2_1n, zs2_1l, zs2_s, zcn_eq, zcn_ne, zcn_lt, zcn_ge, zcn_gt, zcn_le, zpu_0, zpu_1, zpu_2, zx_iconst, zx_lconst, zx_ldc, zx_ldc2, zx_null, zx_iload, zx_lload, zx_aload, zx_istore, zx_lstore, zx_astore, zx_iinc, zx_iadd, zx_isub, zx_imul, zx_idiv, zx_irem, zx_iand, zx_ior, zx_ixor, zx_ishl, zx_ishr, zx_iushr, zx_i2b, zx_i2l, zx_l2i, zx_ladd, zx_lmul, zx_ldiv, zx_lrem, zx_land, zx_lor, zx_lshl, zx_lshr, zx_lcmp, zx_dupi, zx_dupr, zx_dup2l, zx_dup2i, zx_pop, zx_ifc, zx_icmp, zx_ifnullN, zx_ifnullS, zx_ifnonN, zx_ifnonS, zx_goto, zx_gotow, zx_switch, zx_iaload, zx_baload, zx_laload, zx_aaload, zx_iastore, zx_bastore, zx_lastore, zx_aastore, zx_alen, zx_newarray, zx_anewarray, zx_new, zx_getI, zx_getL, zx_getR, zx_putI, zx_putZ, zx_putL, zx_putR, zx_callS, zx_callV, zx_objinit, zx_cpyi, zx_cpyl, zx_mmax, zx_mmin, zx_mminl, zx_ireturn, zx_areturn, zx_lreturn, zx_return, zcs_0, zcs_1, zcv_1, zcs_2, zcv_2, zcs_3, zcv_3, zcs_4, zcv_4, zcs_5, zcv_5, zcs_6, zcv_6, zcs_7, zcv_7, Int.reduceToNat, Nat.reduceDiv, Nat.reduceMod, zJ, zC, zK_wA, zN_wA, zR_wA, zS_wA, zA_wA, zK_wR, zN_wR, zR_wR, zS_wR, zA_wR, zK_cp, zN_cp, zR_cp, zS_cp, zA_cp, zK_mp, zN_mp, zR_mp, zS_mp, zA_mp, zfa, zfmm, zfa_1, zfb_1, zfa_2, zfb_2, zfa_3, zfb_3, zfa_4, zfb_4, zfa_5, zfb_5, zfa_6, zfb_6, zfa_7, zfb_7, zfa_8, zfb_8, zfa_9, zfb_9, zfa_10, zfb_10, zfa_12, zfb_12, zfa_20, zfb_20, zfa_21, zfb_21, zfa_30, zfb_30, zfa_48, zfb_48, zfa_60, zfb_60, zfa_61, zfb_61, zfa_65, zfb_65, zfa_97, zfb_97, zfa_100, zfb_100, zfa_120, zfb_120, zfa_124, zfb_124, zfa_500, zfb_500, zfa_792, zfb_792, zfa_2989, zfb_2989, zfm_2, zfn_2, zfm_3, zfn_3, zfm_4, zfn_4, zfm_6, zfn_6, zfm_7, zfn_7, zfm_8, zfn_8, zfm_12, zfn_12, zfm_49, zfn_49, zfm_60, zfn_60, zfm_61, zfn_61, zfm_792, zfn_792, zfm_2989, zfn_2989, Int.zero_add, Int.add_zero, Int.zero_mul, Int.mul_zero, Int.one_mul, Int.mul_one, ym_k5 hk1, e2, e3, e5, e6]
    (try rw [hl1])
    (try rw [e2])
    (try rw [e3])
    repeat (with_reducible refine And.intro ?_ ?_; · first | omega | (simp only [z32, z64]; omega))
    refine zc_ccu (A := B1) (a := 259 + l1 * 7) (b := 224 + l * 7) (show 1 ≤ d - 1 by omega) hk1 hn1 hn6 (by omega) (by omega) (by omega) s1 (fun G2 m2 s2 => ?_)
    try simp -implicitDefEqProofs only [zgn_0, zgn_s, zct_0, zct_s, Nat.reduceEqDiff, Nat.reduceBEq, Nat.reduceAdd, Nat.reduceSub, Nat.reduceMul, Int.reduceAdd, Int.reduceSub, Int.reduceMul, Int.reduceNeg, Int.reduceLT, Int.reduceLE, Int.reduceEq, Nat.zero_add, true_and, and_true, false_and, and_false, true_imp_iff, false_imp_iff, not_true_eq_false, not_false_eq_true, if_true, if_false, Bool.false_eq_true, ite_true, ite_false, reduceIte, eq_self, Int.toNat_natCast, zst_0, zst_1, zst_2, zst_3, zst_4, true_or, or_true, or_false, false_or, ze_139_0, zB_139_0, ze_139_14, zB_139_14, ze_139_34, zB_139_34, ze_139_70, zB_139_70, ze_139_93, zB_139_93, ze_139_141, zB_139_141, ze_139_158, zB_139_158, ze_139_175, zB_139_175, ze_139_214, zB_139_214, ze_139_220, zB_139_220, ze_139_223, zB_139_223, ze_139_255, zB_139_255, zbr_t, zbr_f, zrun_c, zmI_s, zmL_s, zmR_s, zgt_0, zgt_s, zln_0, zln_s, zs1_0, zs1_1i, zs1_1r, zs1_1n, zs1_1l, zs1_s, zs2_0, zs2_1i, zs2_1r, zs2_1n, zs2_1l, zs2_s, zcn_eq, zcn_ne, zcn_lt, zcn_ge, zcn_gt, zcn_le, zpu_0, zpu_1, zpu_2, zx_iconst, zx_lconst, zx_ldc, zx_ldc2, zx_null, zx_iload, zx_lload, zx_aload, zx_istore, zx_lstore, zx_astore, zx_iinc, zx_iadd, zx_isub, zx_imul, zx_idiv, zx_irem, zx_iand, zx_ior, zx_ixor, zx_ishl, zx_ishr, zx_iushr, zx_i2b, zx_i2l, zx_l2i, zx_ladd, zx_lmul, zx_ldiv, zx_lrem, zx_land, zx_lor, zx_lshl, zx_lshr, zx_lcmp, zx_dupi, zx_dupr, zx_dup2l, zx_dup2i, zx_pop, zx_ifc, zx_icmp, zx_ifnullN, zx_ifnullS, zx_ifnonN, zx_ifnonS, zx_goto, zx_gotow, zx_switch, zx_iaload, zx_baload, zx_laload, zx_aaload, zx_iastore, zx_bastore, zx_lastore, zx_aastore, zx_alen, zx_newarray, zx_anewarray, zx_new, zx_getI, zx_getL, zx_getR, zx_putI, zx_putZ, zx_putL, zx_putR, zx_callS, zx_callV, zx_objinit, zx_cpyi, zx_cpyl, zx_mmax, zx_mmin, zx_mminl, zx_ireturn, zx_areturn, zx_lreturn, zx_return, zcs_0, zcs_1, zcv_1, zcs_2, zcv_2, zcs_3, zcv_3, zcs_4, zcv_4, zcs_5, zcv_5, zcs_6, zcv_6, zcs_7, zcv_7, Int.reduceToNat, Nat.reduceDiv, Nat.reduceMod, zJ, zC, zK_wA, zN_wA, zR_wA, zS_wA, zA_wA, zK_wR, zN_wR, zR_wR, zS_wR, zA_wR, zK_cp, zN_cp, zR_cp, zS_cp, zA_cp, zK_mp, zN_mp, zR_mp, zS_mp, zA_mp, zfa, zfmm, zfa_1, zfb_1, zfa_2, zfb_2, zfa_3, zfb_3, zfa_4, zfb_4, zfa_5, zfb_5, zfa_6, zfb_6, zfa_7, zfb_7, zfa_8, zfb_8, zfa_9, zfb_9, zfa_10, zfb_10, zfa_12, zfb_12, zfa_20, zfb_20, zfa_21, zfb_21, zfa_30, zfb_30, zfa_48, zfb_48, zfa_60, zfb_60, zfa_61, zfb_61, zfa_65, zfb_65, zfa_97, zfb_97, zfa_100, zfb_100, zfa_120, zfb_120, zfa_124, zfb_124, zfa_500, zfb_500, zfa_792, zfb_792, zfa_2989, zfb_2989, zfm_2, zfn_2, zfm_3, zfn_3, zfm_4, zfn_4, zfm_6, zfn_6, zfm_7, zfn_7, zfm_8, zfn_8, zfm_12, zfn_12, zfm_49, zfn_49, zfm_60, zfn_60, zfm_61, zfn_61, zfm_792, zfn_792, zfm_2989, zfn_2989, Int.zero_add, Int.add_zero, Int.zero_mul, Int.mul_zero, Int.one_mul, Int.mul_one]
    repeat (with_reducible refine And.intro ?_ ?_; · first | omega | (simp only [z32, z64]; omega))
    refine fin _ G2 _ (zmd_tr m1 m2) s2 (fun c hc => ?_) (fun s x1 x2 => ?_)
    · unfold yCpy
      rw [if_pos (by omega), show 224 + l * 7 + c - (224 + l * 7) = c by omega]
      exact a1 c hc
    · unfold yCpy
      rw [if_neg (by omega)]
      exact a2 s x2
