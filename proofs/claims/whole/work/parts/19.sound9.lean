set_option maxHeartbeats 4000000 in
theorem zq_callJ {xs : Nat → Int} {L d : Nat} {sc : Bool} {m : Nat} {Q : zQ} {J : zJt} {C : zCt} {k : zKo} {il : List Instr} {bc bs : Nat} {ls : zLs} {st : List zV} {H : zH} {n : Int} (hCd : C = zCa xs L d) (ih : zIH xs L d sc m Q k il) (h : zins J C sc xs L Q (.jsr n) k bc bs ls st H) : zSN xs L d bc bs sc m (.jsr n :: il) ls st H Q := by
  intro l p e R s M args below meth c G cA A b ρ Hm locs cells slots pc lsm Z hC hR hk hW h0 hst hls hc1 hc2 hZ
  obtain ⟨j, len, hd, hj, hx, ht⟩ := zchk_cons hk (by intro q; cases q) (by intro t q; cases q)
  obtain ⟨hX, hB, hL2, hret, hlk, hown, hts, hnk, hini, hK, hA, hsc⟩ := id hC
  have ht := ht.resolve_left (by simp [zte])
  simp only [zins, zcal] at h
  simp only [zext, Bool.and_eq_true, Bool.or_eq_true, decide_eq_true_eq] at hx
  obtain ⟨⟨hx1, hx2⟩, hx5⟩ := hx
  subst hCd
  simp only [zraw] at hj
  by_cases hct : zct (n.toNat % 512) = true
  · rw [if_pos hct, List.mem_singleton] at hj
    cases hj
    rcases hx1 with hx1 | ⟨-, hx1⟩
    · simp only [zmw, decide_eq_true_eq] at hx1
      have hf := zmf_all _ hx2
      obtain ⟨hin, hse, hpar, hccl⟩ := zmf_in hf hx5
      obtain ⟨h1a, h1b, h1, h2, h2b, h3, h4, Q1, h5, h6⟩ := h
      have h2b := h2b trivial
      have hargs : ∀ v ∈ (st.take (zMi (n.toNat % 512)).2.1).reverse, zvo (zS H) v := fun v hv => hst v (List.mem_of_mem_take (List.mem_reverse.mp hv))
      have hM := zMet hx2 h5 h4 l G cA ρ hargs hW.2.2.2 Hm.size
      have hml := zmf_ml hf
      have hr1 := hR.1
      have hr2 := hR.2
      have hfr : (zrm (d - 1) (zac (n.toNat % 512) H).1 (zac (n.toNat % 512) H).2).frames + 1 ≤ R.frames := by show d - 1 + 1 + 1 ≤ R.frames; omega
      have hlo : 8 + (zml (n.toNat % 512) + 11) + (zrm (d - 1) (zac (n.toNat % 512) H).1 (zac (n.toNat % 512) H).2).locals ≤ R.locals := by show 8 + (zml (n.toNat % 512) + 11) + 60 * (d - 1 + 1) ≤ R.locals; omega
      obtain ⟨ra, hhead, hkr⟩ := h2b
      obtain ⟨as, has⟩ : ∃ as, (st.take (zMi (n.toNat % 512)).2.1).reverse = zr (some ra) :: as := by
        cases hq : (st.take (zMi (n.toNat % 512)).2.1).reverse with
        | nil => rw [hq] at hhead; cases hhead
        | cons v as => rw [hq] at hhead; exact ⟨as, by rw [Option.some.inj hhead]⟩
      have hlas : as.length + 1 = (zMi (n.toNat % 512)).2.1 := by
        have := congrArg List.length has
        simp only [List.length_reverse, List.length_take, List.length_cons] at this
        omega
      rw [has, List.map_cons] at hM
      have hM : Met l (zy (n.toNat % 512)) (zws (n.toNat % 512)) (zrm (d - 1) ((zac (n.toNat % 512) H).1) ((zac (n.toNat % 512) H).2)) (va_Pc (.ref (ρ ra) :: as.map (zv ρ)) _) _ _ _ _ := hM
      obtain ⟨q, hq, hqc⟩ := Option.map_eq_some_iff.mp hccl
      have hral : ra < zS H := hargs (zr (some ra)) (by rw [has]; exact List.mem_cons_self) ra rfl
      have hk13 : zK H ra < 13 := by rw [hkr]; exact (List.getElem?_eq_some_iff.mp hq).1
      have hra1 := zgo_lt hW.2.2.2 hral (by omega)
      have he := zw_at (cA := cA) (ρ := ρ) hra1 hral
      rw [zce_obj hk13, hkr] at he
      have hstk : st.map (zv ρ) = (as.map (zv ρ)).reverse ++ .ref (ρ ra) :: (st.drop (zMi (n.toNat % 512)).2.1).map (zv ρ) := by
        have e7 := congrArg (List.map (zv ρ)) (zsplit st (zMi (n.toNat % 512)).2.1)
        rw [has] at e7
        rw [e7]
        simp [zv, va_rf]
      have hnp : (parseMethodDescriptor (zy (n.toNat % 512)).desc).map (fun d => d.parameters.length) = some as.length := by
        cases hp : parseMethodDescriptor (zy (n.toNat % 512)).desc with
        | none => rw [hp] at hpar; cases hpar
        | some dd =>
          rw [hp] at hpar
          have hpar : dd.parameters.length + 1 = (zMi (n.toNat % 512)).2.1 := Option.some.inj hpar
          show some dd.parameters.length = some as.length
          congr 1
          omega
      have hnone := zmf_ct hf hct
      have hname : (zy (n.toNat % 512)).name = "<init>" := beq_iff_eq.mp hct
      have hr : va_Run p l e R s M args below meth c Hm locs cells slots ((zac (n.toNat % 512) H).1) ((zac (n.toNat % 512) H).2) (F0 M pc lsm (st.map (zv ρ))) ((st.drop (zMi (n.toNat % 512)).2.1).map (zv ρ)) _ _ := va_runI (b := ρ ra) (As := as.map (zv ρ)) (rest := (st.drop (zMi (n.toNat % 512)).2.1).map (zv ρ)) (bytes := zcc (n.toNat % 512)) (maxL := zml (n.toNat % 512)) (n := as.length) ⟨hX, hB, hL2, hown, hts⟩ hM
        ⟨callB_of as.length hts (zgoodIn hx2) (by unfold zws; rw [hnone]) rfl rfl (hts _ (zmf_init hf)) (hts _ (zTm (List.mem_of_getElem? hx1) rfl)) ⟨(zmf_nh hf).1, (zmf_nh hf).2, hnp⟩ ⟨hfr, hlo⟩, hname, hts _ hin⟩
        ⟨zblind, zpre hK hnk hW.1 hW.2.1⟩ rfl (by simp) hls.2.1 hstk (zrun8 h2) hd ⟨by omega, by omega⟩
      refine zback hr hW hA (fun r H' ρ' H1 locs1 hQr hext hle hrv hW1 => ?_)
      have hst' : ∀ v ∈ zpu (zMi (n.toNat % 512)).2.2.1 r ++ st.drop (zMi (n.toNat % 512)).2.1, zvo (zS H') v := by
        intro v hv
        rcases List.mem_append.mp hv with h | h
        · exact zpu_ok hf hrv _ v h
        · exact zvo_mono hle (hst v (List.mem_of_mem_drop h))
      have e9 : (zRt (n.toNat % 512) r).head?.toList ++ (st.drop (zMi (n.toNat % 512)).2.1).map (zv ρ) = (zpu (zMi (n.toNat % 512)).2.2.1 r ++ st.drop (zMi (n.toNat % 512)).2.1).map (zv ρ') := by
        rw [List.map_append, zpu_eq hf, zvs_ext hext (fun v hv => hst v (List.mem_of_mem_drop hv))]
      rw [e9]
      exact ih (bc - (zac (n.toNat % 512) H).1) (bs - (zac (n.toNat % 512) H).2) ls _ H' (h6 r H' hQr) l p e R s M args below meth c G cA A b ρ' H1 locs1 (cells + ((zac (n.toNat % 512) H).1)) (slots + ((zac (n.toNat % 512) H).2)) (pc + 3) lsm Z hC hR ht hW1 (fun q => (hext 0 hW.2.2.2.1).trans (h0 q)) hst' (hls.ext hext hle) (by omega) (by omega) (fun r H'' ρ'' Hm' locs' cells' slots' pc' lsm' g1 g2 g3 g4 g5 g6 g7 => hZ r H'' ρ'' Hm' locs' cells' slots' pc' lsm' g1 g2 (fun a ha => (g3 a (Nat.lt_of_lt_of_le ha hle)).trans (hext a ha)) (Nat.le_trans hle g4) (by omega) (by omega) g7)
    · simp only [zmwN, decide_eq_true_eq] at hx1
      have hf := zmf_all _ hx2
      obtain ⟨hin, hse, hpar, hccl⟩ := zmf_in hf hx5
      obtain ⟨h1a, h1b, h1, h2, h2b, h3, h4, Q1, h5, h6⟩ := h
      have h2b := h2b trivial
      have hargs : ∀ v ∈ (st.take (zMi (n.toNat % 512)).2.1).reverse, zvo (zS H) v := fun v hv => hst v (List.mem_of_mem_take (List.mem_reverse.mp hv))
      have hM := zMet hx2 h5 h4 l G cA ρ hargs hW.2.2.2 Hm.size
      have hml := zmf_ml hf
      have hr1 := hR.1
      have hr2 := hR.2
      have hfr : (zrm (d - 1) (zac (n.toNat % 512) H).1 (zac (n.toNat % 512) H).2).frames + 1 ≤ R.frames := by show d - 1 + 1 + 1 ≤ R.frames; omega
      have hlo : 8 + (zml (n.toNat % 512) + 11) + (zrm (d - 1) (zac (n.toNat % 512) H).1 (zac (n.toNat % 512) H).2).locals ≤ R.locals := by show 8 + (zml (n.toNat % 512) + 11) + 60 * (d - 1 + 1) ≤ R.locals; omega
      obtain ⟨ra, hhead, hkr⟩ := h2b
      obtain ⟨as, has⟩ : ∃ as, (st.take (zMi (n.toNat % 512)).2.1).reverse = zr (some ra) :: as := by
        cases hq : (st.take (zMi (n.toNat % 512)).2.1).reverse with
        | nil => rw [hq] at hhead; cases hhead
        | cons v as => rw [hq] at hhead; exact ⟨as, by rw [Option.some.inj hhead]⟩
      have hlas : as.length + 1 = (zMi (n.toNat % 512)).2.1 := by
        have := congrArg List.length has
        simp only [List.length_reverse, List.length_take, List.length_cons] at this
        omega
      rw [has, List.map_cons] at hM
      have hM : Met l (zy (n.toNat % 512)) (zws (n.toNat % 512)) (zrm (d - 1) ((zac (n.toNat % 512) H).1) ((zac (n.toNat % 512) H).2)) (va_Pc (.ref (ρ ra) :: as.map (zv ρ)) _) _ _ _ _ := hM
      obtain ⟨q, hq, hqc⟩ := Option.map_eq_some_iff.mp hccl
      have hral : ra < zS H := hargs (zr (some ra)) (by rw [has]; exact List.mem_cons_self) ra rfl
      have hk13 : zK H ra < 13 := by rw [hkr]; exact (List.getElem?_eq_some_iff.mp hq).1
      have hra1 := zgo_lt hW.2.2.2 hral (by omega)
      have he := zw_at (cA := cA) (ρ := ρ) hra1 hral
      rw [zce_obj hk13, hkr] at he
      have hstk : st.map (zv ρ) = (as.map (zv ρ)).reverse ++ .ref (ρ ra) :: (st.drop (zMi (n.toNat % 512)).2.1).map (zv ρ) := by
        have e7 := congrArg (List.map (zv ρ)) (zsplit st (zMi (n.toNat % 512)).2.1)
        rw [has] at e7
        rw [e7]
        simp [zv, va_rf]
      have hnp : (parseMethodDescriptor (zy (n.toNat % 512)).desc).map (fun d => d.parameters.length) = some as.length := by
        cases hp : parseMethodDescriptor (zy (n.toNat % 512)).desc with
        | none => rw [hp] at hpar; cases hpar
        | some dd =>
          rw [hp] at hpar
          have hpar : dd.parameters.length + 1 = (zMi (n.toNat % 512)).2.1 := Option.some.inj hpar
          show some dd.parameters.length = some as.length
          congr 1
          omega
      have hnone := zmf_ct hf hct
      have hname : (zy (n.toNat % 512)).name = "<init>" := beq_iff_eq.mp hct
      have hr : va_Run p l e R s M args below meth c Hm locs cells slots ((zac (n.toNat % 512) H).1) ((zac (n.toNat % 512) H).2) (F0 M pc lsm (st.map (zv ρ))) ((st.drop (zMi (n.toNat % 512)).2.1).map (zv ρ)) _ _ := va_runIN (host := "StagePair") (b := ρ ra) (As := as.map (zv ρ)) (rest := (st.drop (zMi (n.toNat % 512)).2.1).map (zv ρ)) (bytes := zcc (n.toNat % 512)) (maxL := zml (n.toNat % 512)) (n := as.length) ⟨hX, hB, hL2, hown, hts⟩ hM
        ⟨va_cnB as.length hts (zgoodIn hx2) (by unfold zws; rw [hnone]) rfl rfl (hnk.1 _ (List.mem_of_getElem? hx1) ⟨_, _, _, _, rfl⟩) (hts _ (zmf_init hf)) ⟨(zmf_nh hf).1, (zmf_nh hf).2, hnp⟩ ⟨hfr, hlo⟩, hname, hts _ hin⟩
        ⟨zblind, zpre hK hnk hW.1 hW.2.1⟩ rfl (by simp) hls.2.1 hstk (zrun8 h2) hd ⟨by omega, by omega⟩
      refine zback hr hW hA (fun r H' ρ' H1 locs1 hQr hext hle hrv hW1 => ?_)
      have hst' : ∀ v ∈ zpu (zMi (n.toNat % 512)).2.2.1 r ++ st.drop (zMi (n.toNat % 512)).2.1, zvo (zS H') v := by
        intro v hv
        rcases List.mem_append.mp hv with h | h
        · exact zpu_ok hf hrv _ v h
        · exact zvo_mono hle (hst v (List.mem_of_mem_drop h))
      have e9 : (zRt (n.toNat % 512) r).head?.toList ++ (st.drop (zMi (n.toNat % 512)).2.1).map (zv ρ) = (zpu (zMi (n.toNat % 512)).2.2.1 r ++ st.drop (zMi (n.toNat % 512)).2.1).map (zv ρ') := by
        rw [List.map_append, zpu_eq hf, zvs_ext hext (fun v hv => hst v (List.mem_of_mem_drop hv))]
      rw [e9]
      exact ih (bc - (zac (n.toNat % 512) H).1) (bs - (zac (n.toNat % 512) H).2) ls _ H' (h6 r H' hQr) l p e R s M args below meth c G cA A b ρ' H1 locs1 (cells + ((zac (n.toNat % 512) H).1)) (slots + ((zac (n.toNat % 512) H).2)) (pc + 3) lsm Z hC hR ht hW1 (fun q => (hext 0 hW.2.2.2.1).trans (h0 q)) hst' (hls.ext hext hle) (by omega) (by omega) (fun r H'' ρ'' Hm' locs' cells' slots' pc' lsm' g1 g2 g3 g4 g5 g6 g7 => hZ r H'' ρ'' Hm' locs' cells' slots' pc' lsm' g1 g2 (fun a ha => (g3 a (Nat.lt_of_lt_of_le ha hle)).trans (hext a ha)) (Nat.le_trans hle g4) (by omega) (by omega) g7)
  · rw [if_neg hct, List.mem_singleton] at hj
    cases hj
    have hx1 := hx1.resolve_right (fun q => hct q.1)
    simp only [zmw, decide_eq_true_eq] at hx1
    have hf := zmf_all _ hx2
    obtain ⟨hin, hse, hpar, hccl⟩ := zmf_in hf hx5
    obtain ⟨h1a, h1b, h1, h2, h2b, h3, h4, Q1, h5, h6⟩ := h
    have h2b := h2b trivial
    have hse2 := hse.resolve_left hct
    have hargs : ∀ v ∈ (st.take (zMi (n.toNat % 512)).2.1).reverse, zvo (zS H) v := fun v hv => hst v (List.mem_of_mem_take (List.mem_reverse.mp hv))
    have hM := zMet hx2 h5 h4 l G cA ρ hargs hW.2.2.2 Hm.size
    have hml := zmf_ml hf
    have hr1 := hR.1
    have hr2 := hR.2
    have hfr : (zrm (d - 1) (zac (n.toNat % 512) H).1 (zac (n.toNat % 512) H).2).frames + 1 ≤ R.frames := by show d - 1 + 1 + 1 ≤ R.frames; omega
    have hlo : 8 + (zml (n.toNat % 512) + 11) + (zrm (d - 1) (zac (n.toNat % 512) H).1 (zac (n.toNat % 512) H).2).locals ≤ R.locals := by show 8 + (zml (n.toNat % 512) + 11) + 60 * (d - 1 + 1) ≤ R.locals; omega
    obtain ⟨ra, hhead, hkr⟩ := h2b
    obtain ⟨as, has⟩ : ∃ as, (st.take (zMi (n.toNat % 512)).2.1).reverse = zr (some ra) :: as := by
      cases hq : (st.take (zMi (n.toNat % 512)).2.1).reverse with
      | nil => rw [hq] at hhead; cases hhead
      | cons v as => rw [hq] at hhead; exact ⟨as, by rw [Option.some.inj hhead]⟩
    have hlas : as.length + 1 = (zMi (n.toNat % 512)).2.1 := by
      have := congrArg List.length has
      simp only [List.length_reverse, List.length_take, List.length_cons] at this
      omega
    rw [has, List.map_cons] at hM
    have hM : Met l (zy (n.toNat % 512)) (zws (n.toNat % 512)) (zrm (d - 1) ((zac (n.toNat % 512) H).1) ((zac (n.toNat % 512) H).2)) (va_Pc (.ref (ρ ra) :: as.map (zv ρ)) _) _ _ _ _ := hM
    obtain ⟨q, hq, hqc⟩ := Option.map_eq_some_iff.mp hccl
    have hral : ra < zS H := hargs (zr (some ra)) (by rw [has]; exact List.mem_cons_self) ra rfl
    have hk13 : zK H ra < 13 := by rw [hkr]; exact (List.getElem?_eq_some_iff.mp hq).1
    have hra1 := zgo_lt hW.2.2.2 hral (by omega)
    have he := zw_at (cA := cA) (ρ := ρ) hra1 hral
    rw [zce_obj hk13, hkr] at he
    have hstk : st.map (zv ρ) = (as.map (zv ρ)).reverse ++ .ref (ρ ra) :: (st.drop (zMi (n.toNat % 512)).2.1).map (zv ρ) := by
      have e7 := congrArg (List.map (zv ρ)) (zsplit st (zMi (n.toNat % 512)).2.1)
      rw [has] at e7
      rw [e7]
      simp [zv, va_rf]
    have hnp : (parseMethodDescriptor (zy (n.toNat % 512)).desc).map (fun d => d.parameters.length) = some as.length := by
      cases hp : parseMethodDescriptor (zy (n.toNat % 512)).desc with
      | none => rw [hp] at hpar; cases hpar
      | some dd =>
        rw [hp] at hpar
        have hpar : dd.parameters.length + 1 = (zMi (n.toNat % 512)).2.1 := Option.some.inj hpar
        show some dd.parameters.length = some as.length
        congr 1
        omega
    have hr : va_Run p l e R s M args below meth c Hm locs cells slots ((zac (n.toNat % 512) H).1) ((zac (n.toNat % 512) H).2) (F0 M pc lsm (st.map (zv ρ))) ((st.drop (zMi (n.toNat % 512)).2.1).map (zv ρ)) _ _ := va_runV (C := (zy (n.toNat % 512)).cls) (b := ρ ra) (As := as.map (zv ρ)) (rest := (st.drop (zMi (n.toNat % 512)).2.1).map (zv ρ)) (ret := zre (n.toNat % 512)) (bytes := zcc (n.toNat % 512)) (maxL := zml (n.toNat % 512)) (n := as.length) ⟨hX, hB, hL2, hown, hts⟩ hM
      ⟨callB_of as.length hts (zgoodIn hx2) rfl rfl rfl (hts _ (zmf_init hf)) (hts _ (zTm (List.mem_of_getElem? hx1) rfl)) ⟨(zmf_nh hf).1, (zmf_nh hf).2, hnp⟩ ⟨hfr, hlo⟩, hts _ hin, hts _ hse2⟩
      ⟨zblind, by rw [← hqc]; exact va_recv hK hW.1 hq he, zpre hK hnk hW.1 hW.2.1⟩ rfl (by simp) hls.2.1 hstk (zrun8 h2) hd ⟨by omega, by omega⟩
    refine zback hr hW hA (fun r H' ρ' H1 locs1 hQr hext hle hrv hW1 => ?_)
    have hst' : ∀ v ∈ zpu (zMi (n.toNat % 512)).2.2.1 r ++ st.drop (zMi (n.toNat % 512)).2.1, zvo (zS H') v := by
      intro v hv
      rcases List.mem_append.mp hv with h | h
      · exact zpu_ok hf hrv _ v h
      · exact zvo_mono hle (hst v (List.mem_of_mem_drop h))
    have e9 : (zRt (n.toNat % 512) r).head?.toList ++ (st.drop (zMi (n.toNat % 512)).2.1).map (zv ρ) = (zpu (zMi (n.toNat % 512)).2.2.1 r ++ st.drop (zMi (n.toNat % 512)).2.1).map (zv ρ') := by
      rw [List.map_append, zpu_eq hf, zvs_ext hext (fun v hv => hst v (List.mem_of_mem_drop hv))]
    rw [e9]
    exact ih (bc - (zac (n.toNat % 512) H).1) (bs - (zac (n.toNat % 512) H).2) ls _ H' (h6 r H' hQr) l p e R s M args below meth c G cA A b ρ' H1 locs1 (cells + ((zac (n.toNat % 512) H).1)) (slots + ((zac (n.toNat % 512) H).2)) (pc + 3) lsm Z hC hR ht hW1 (fun q => (hext 0 hW.2.2.2.1).trans (h0 q)) hst' (hls.ext hext hle) (by omega) (by omega) (fun r H'' ρ'' Hm' locs' cells' slots' pc' lsm' g1 g2 g3 g4 g5 g6 g7 => hZ r H'' ρ'' Hm' locs' cells' slots' pc' lsm' g1 g2 (fun a ha => (g3 a (Nat.lt_of_lt_of_le ha hle)).trans (hext a ha)) (Nat.le_trans hle g4) (by omega) (by omega) g7)
theorem zq_gotow {xs : Nat → Int} {L d : Nat} {sc : Bool} {m : Nat} {Q : zQ} {J : zJt} {C : zCt} {k : zKo} {il : List Instr} {bc bs : Nat} {ls : zLs} {st : List zV} {H : zH} {t : Int} (hJ : ∀ t bc bs ls st H, J t bc bs ls st H → zSN xs L d bc bs sc m (zblk m t) ls st H Q) (h : zins J C sc xs L Q (.goto_w t) k bc bs ls st H) : zSN xs L d bc bs sc m (.goto_w t :: il) ls st H Q := by
  intro l p e R s M args below meth c G cA A b ρ Hm locs cells slots pc lsm Z hC hR hk hW h0 hst hls hc1 hc2 hZ
  have hk2 : (decide (t = (pc : Int)) && zext m (.goto_w t)) = true := hk
  simp only [Bool.and_eq_true, decide_eq_true_eq] at hk2
  obtain ⟨rfl, hx⟩ := hk2
  have hz := zjo_spec (show zjo m (pc : Int) = true from hx)
  simp only [zins] at h
  rw [Int.toNat_natCast] at h hz
  exact hJ _ bc bs ls _ H h l p e R s M args below meth c G cA A b ρ Hm locs cells slots pc lsm Z hC hR hz.2 hW h0 hst hls hc1 hc2 hZ
set_option maxHeartbeats 4000000 in
theorem zstep {xs : Nat → Int} {L d : Nat} {sc : Bool} {m : Nat} {Q : zQ} {J : zJt} {k : zKo} {i : Instr} {il : List Instr} {bc bs : Nat} {ls : zLs} {st : List zV} {H : zH} (hJ : ∀ t bc bs ls st H, J t bc bs ls st H → zSN xs L d bc bs sc m (zblk m t) ls st H Q) (ih : zIH xs L d sc m Q k il) (h : zins J (zCa xs L d) sc xs L Q i k bc bs ls st H) : zSN xs L d bc bs sc m (i :: il) ls st H Q := by
  cases i
  case iadd => exact zq_iadd ih h
  case isub => exact zq_isub ih h
  case imul => exact zq_imul ih h
  case idiv => exact zq_idiv ih h
  case irem => exact zq_irem ih h
  case iand => exact zq_iand ih h
  case ior => exact zq_ior ih h
  case ixor => exact zq_ixor ih h
  case ishl => exact zq_ishl ih h
  case ishr => exact zq_ishr ih h
  case iushr => exact zq_iushr ih h
  case ladd => exact zq_ladd ih h
  case lmul => exact zq_lmul ih h
  case ldiv => exact zq_ldiv ih h
  case lrem => exact zq_lrem ih h
  case land => exact zq_land ih h
  case lor => exact zq_lor ih h
  case lshl => exact zq_lshl ih h
  case lshr => exact zq_lshr ih h
  case i2b => exact zq_i2b ih h
  case i2l => exact zq_i2l ih h
  case l2i => exact zq_l2i ih h
  case dup => exact zq_dup ih h
  case dup2 => exact zq_dup2 ih h
  case pop => exact zq_pop ih h
  case lcmp => exact zq_lcmp ih h
  case iaload => exact zq_iaload ih h
  case baload => exact zq_baload ih h
  case laload => exact zq_laload ih h
  case aaload => exact zq_aaload ih h
  case iastore => exact zq_iastore ih h
  case bastore => exact zq_bastore ih h
  case lastore => exact zq_lastore ih h
  case aastore => exact zq_aastore ih h
  case ireturn => exact zq_ireturn ih h
  case areturn => exact zq_areturn ih h
  case lreturn => exact zq_lreturn ih h
  case iconst _ => exact zq_iconst ih h
  case jsr_w _ => exact zq_lconst ih h
  case lookupswitch _ _ => exact zq_ldc ih h
  case aconst_null => exact zq_null ih h
  case iload _ => exact zq_iload ih h
  case lload _ => exact zq_lload ih h
  case aload _ => exact zq_aload ih h
  case istore _ => exact zq_istore ih h
  case lstore _ => exact zq_lstore ih h
  case astore _ => exact zq_astore ih h
  case iinc _ _ => exact zq_iinc ih h
  case ifnull _ => exact zq_ifnull hJ ih h
  case ifnonnull _ => exact zq_ifnonnull hJ ih h
  case goto _ => exact zq_goto hJ ih h
  case goto_w _ => exact zq_gotow hJ h
  case tableswitch _ _ _ _ => exact zq_switch hJ ih h
  case arraylength => exact zq_alen ih h
  case anewarray _ => exact zq_newq ih h
  case new _ => exact zq_new ih h
  case getfield _ => exact zq_getI ih h
  case instanceof _ => exact zq_getL ih h
  case getstatic _ => exact zq_getR ih h
  case putfield _ => exact zq_putI ih h
  case invokedynamic _ => exact zq_putZ ih h
  case checkcast _ => exact zq_putL ih h
  case putstatic _ => exact zq_putR ih h
  case invokeinterface _ _ => exact zq_callS rfl ih h
  case multianewarray _ _ => exact zq_callV rfl ih h
  case jsr _ => exact zq_callJ rfl ih h
  case fload _ => exact zq_mmax ih h
  case dload _ => exact zq_mmin ih h
  case bipush _ => exact zq_mminl ih h
  case ret _ => exact zq_objinit ih h
  case dstore _ => exact zq_cpyi ih h
  case fstore _ => exact zq_cpyl ih h
  case return_ => exact zq_return ih h
  case ifCond c t => cases c <;> first | exact zq_if_eq hJ ih h | exact zq_if_ne hJ ih h | exact zq_if_lt hJ ih h | exact zq_if_ge hJ ih h | exact zq_if_gt hJ ih h | exact zq_if_le hJ ih h
  case if_icmp c t => cases c <;> first | exact zq_icmp_eq hJ ih h | exact zq_icmp_ne hJ ih h | exact zq_icmp_lt hJ ih h | exact zq_icmp_ge hJ ih h | exact zq_icmp_gt hJ ih h | exact zq_icmp_le hJ ih h
  case newarray t =>
    cases t
    case int => exact zq_newa_int ih h
    case byte => exact zq_newa_byte ih h
    case boolean => exact zq_newa_boolean ih h
    case long => exact zq_newa_long ih h
    all_goals
      intro l p e R s M args below meth c G cA A b ρ Hm locs cells slots pc lsm Z hC hR hk
      obtain ⟨j, len, hd, hj, hx, ht⟩ := zchk_cons hk (by intro q; cases q) (by intro t q; cases q)
      exact absurd hx (by simp [zext, zaty])
  all_goals exact h.elim
theorem zrun_sn {xs : Nat → Int} {L d : Nat} {sc : Bool} {m : Nat} {Q : zQ} {J : zJt} (hJ : ∀ t bc bs ls st H, J t bc bs ls st H → zSN xs L d bc bs sc m (zblk m t) ls st H Q) : ∀ il bc bs ls st H, zrun J (zCa xs L d) sc xs L Q il bc bs ls st H → zSN xs L d bc bs sc m il ls st H Q
  | [], _, _, _, _, _, h => h.elim
  | _ :: il, _, _, _, _, _, h => zstep hJ (zrun_sn hJ il) h
/-- THE INTERPRETER IS SOUND -/
theorem zsound {xs : Nat → Int} {L d bc bs : Nat} {sc : Bool} {m : Nat} {il : List Instr} {ls : zLs} {st : List zV} {H : zH} {Q : zQ} (h : zEV xs L d bc bs sc m il ls st H Q) : zSN xs L d bc bs sc m il ls st H Q :=
  h (zSN xs L) (fun d bc bs sc m il ls st H Q hF => zrun_sn (fun t bc bs ls st H hX => hX) il bc bs ls st H hF)
