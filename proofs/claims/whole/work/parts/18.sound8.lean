set_option maxHeartbeats 4000000 in
/-- behind a call -/
theorem zback {p : Program} {l : Launch} {e : Env} {R : Room} {s : State} {M : MethodId} {args : Array Value} {below : List Frame} {meth : Method} {c : Code} {Hm : Heap} {locs : List Loc} {cells slots b1 b2 pc m : Nat} {lsm : Array Slot} {st0 rest : List Value} {Z : State → Prop} {Q1 : zQ} {G : va_G} {cA : Nat → ClassId} {ρ : Nat → Nat} {H : zH} {A : Nat → Prop} {a : Array Value}
    (hr : va_Run p l e R s M args below meth c Hm locs cells slots b1 b2 (F0 M pc lsm st0) rest (zQc m Q1 G cA ρ H Hm.size a) (va_A (zw cA ρ H) Hm.size))
    (hW : zWd G cA ρ H A s Hm locs) (hA : ∀ q, s.heap.size ≤ q → A q)
    (kk : ∀ (r : Int) (H' : zH) (ρ' : Nat → Nat) (H1 : Heap) (locs1 : List Loc), Q1 r H' → (∀ a, a < zS H → ρ' a = ρ a) → zS H ≤ zS H' → zRv m r → zWd G cA ρ' H' A s H1 locs1 → W p l e R s M args below meth c H1 locs1 (cells + b1) (slots + b2) Z (F0 M (pc + 3) lsm ((zRt m r).head?.toList ++ rest))) :
    W p l e R s M args below meth c Hm locs cells slots Z (F0 M pc lsm st0) := by
  have hfree : ∀ q, va_A (zw cA ρ H) Hm.size q → A q := by
    intro q hq
    rcases hq with ⟨k, e1, h1⟩ | h1
    · exact hW.2.1.2 k _ h1
    · exact hA q (Nat.le_trans hW.2.2.1.1 h1)
  intro T hT X
  obtain ⟨v, st₀, t, T', L, h0, X', hL, e1, e2, ⟨⟨r, H', ρ', hv, hQ, hgo, hext, hle, hrv, hP1, hD1⟩, hz, hk⟩, st⟩ := hr T hT X
  cases hv
  rw [h0] at hz hk
  have hS := hW.2.2.1
  obtain ⟨t2, a1, b1⟩ := kk r H' ρ' T'.heap (locs ++ L) hQ hext hle hrv ⟨by rw [e1]; exact hP1, hD1.weaken (fun _ _ _ h => hfree _ h), ⟨Nat.le_trans hS.1 (by rw [e1]; exact hz), fun q h1 h2 => by rw [e1, hk q (Nat.lt_of_lt_of_le h1 hS.1) (fun z => h2 (hfree q z))]; exact hS.2.1 q h1 h2, fun q hq => by
      rcases List.mem_append.mp hq with h | h
      · exact hS.2.2 q h
      · exact hfree _ (hL q h)⟩, hgo⟩ T' rfl X'
  exact ⟨t2, st t2 a1, b1⟩
theorem zpu_eq {m : Nat} (hf : zmf m = true) (ρ : Nat → Nat) (r : Int) : (zpu (zMi m).2.2.1 r).map (zv ρ) = (zRt m r).head?.toList := by
  rcases zmf_rk hf with ⟨e1, e2⟩ | ⟨e1, e2⟩ | ⟨e1, e2⟩
  · rw [e2]; unfold zRt; rw [e1]; rfl
  · rw [e2]
    rcases e1 with e1 | e1 <;> (unfold zRt; rw [e1]; rfl)
  · rw [e2]; unfold zRt; rw [e1]; rfl
theorem zpu_ok {m : Nat} (hf : zmf m = true) {r : Int} (h : zRv m r) (n : Nat) : ∀ v ∈ zpu (zMi m).2.2.1 r, zvo n v := by
  rcases zmf_rk hf with ⟨e1, e2⟩ | ⟨e1, e2⟩ | ⟨e1, e2⟩
  · rw [e2]; intro v hv; cases hv
  · rw [e2]
    intro v hv
    cases List.mem_singleton.mp hv
    rcases e1 with e1 | e1
    · exact h.1 e1
    · exact h.2.1 e1
  · rw [e2]
    intro v hv
    cases List.mem_singleton.mp hv
    exact h.2.2 e1
def zCa (xs : Nat → Int) (L d : Nat) : zCt := fun b1 b2 m' args H K => 1 ≤ d ∧ (zlo args).length ≤ zml m' ∧ ∃ Q1 : zQ, zSN xs L (d - 1) b1 b2 false m' (zblk m' 0) (zent m' args) [] H Q1 ∧ ∀ r H', Q1 r H' → K r H'
theorem zrun8 {ρ : Nat → Nat} {M : MethodId} {pc : Nat} {lsm : Array Slot} {st0 : List Value} {st : List zV} (h : st.length ≤ 4) : 2 * (F0 M pc lsm st0).monitorRoom + ((st.map (zv ρ)).map fun v => v.category).sum ≤ 8 := by
  have := zcats ρ st
  exact lv_room (by omega)
theorem zblind {av : List Value} {sz : Nat} {G : va_G} {cA : Nat → ClassId} {ws : va_W} : FrameBlind (va_Pc av (fun U => U.heap.size = sz ∧ va_P G zcl ws U.heap ∧ va_K G zcl (zty cA) U ∧ va_D (fun _ => True) ws ∧ zNK U)) := by
  intro a U g mk q
  obtain ⟨q0, q1, qP, qK, qD, qN⟩ := q
  exact ⟨q0, q1, qP, va_K.moved (u := U) (U := U.calling g mk a) (Vm.Alike.refl U.vm) qK, qD, fun w hw he => by
    obtain ⟨b, i, x, k, rfl⟩ := he
    exact va_Nw.same (u := U) (U := U.calling g mk a) rfl rfl (qN.1 _ hw ⟨b, i, x, k, rfl⟩), va_AO.moved (u := U) (U := U.calling g mk a) (Vm.Alike.refl U.vm) qN.2⟩
theorem zpre {av : List Value} {s : State} {G : va_G} {cA : Nat → ClassId} {ws : va_W} {A : Nat → Prop} {Hm : Heap} (hK : va_K G zcl (zty cA) s) (hnk : zNK s) (hP : va_P G zcl ws Hm) (hD : va_D A ws) : ∀ U : State, U.heap = Hm → s.WarmedH U.vm → va_Pc av (fun U => U.heap.size = Hm.size ∧ va_P G zcl ws U.heap ∧ va_K G zcl (zty cA) U ∧ va_D (fun _ => True) ws ∧ zNK U) av.toArray U :=
  fun U hU hWm => ⟨rfl, by rw [hU], by rw [hU]; exact hP, va_K.moved hWm.alike hK, hD.weaken (fun _ _ _ _ => trivial), hnk.warm hWm⟩
theorem zsplit (st : List zV) (n : Nat) : st = (st.take n).reverse.reverse ++ st.drop n := by rw [List.reverse_reverse, List.take_append_drop]
theorem zq_callS {xs : Nat → Int} {L d : Nat} {sc : Bool} {m : Nat} {Q : zQ} {J : zJt} {C : zCt} {k : zKo} {il : List Instr} {bc bs : Nat} {ls : zLs} {st : List zV} {H : zH} {n kk : Nat} (hCd : C = zCa xs L d) (ih : zIH xs L d sc m Q k il) (h : zins J C sc xs L Q (.invokeinterface n kk) k bc bs ls st H) : zSN xs L d bc bs sc m (.invokeinterface n kk :: il) ls st H Q := by
  intro l p e R s M args below meth c G cA A b ρ Hm locs cells slots pc lsm Z hC hR hk hW h0 hst hls hc1 hc2 hZ
  obtain ⟨j, len, hd, hj, hx, ht⟩ := zchk_cons hk (by intro q; cases q) (by intro t q; cases q)
  obtain ⟨hX, hB, hL2, hret, hlk, hown, hts, hnk, hini, hK, hA, hsc⟩ := id hC
  simp only [zraw, List.mem_singleton, Prod.mk.injEq] at hj
  obtain ⟨rfl, rfl⟩ := hj
  have ht := ht.resolve_left (by simp [zte])
  simp only [zins, zcal] at h
  simp only [zext, zmw, Bool.and_eq_true, decide_eq_true_eq] at hx
  obtain ⟨⟨⟨⟨hx1, hx2⟩, hx3⟩, hx4⟩, hx5⟩ := hx
  subst hCd
  · have hf := zmf_all _ hx2
    obtain ⟨h1, h2, -, h3, h4, Q1, h5, h6⟩ := h
    obtain ⟨hstt, hpar⟩ := zmf_st hf hx5
    rw [← hx3] at h1 h2 h4 h5 h6
    rw [← hx4] at h6
    have hargs : ∀ v ∈ (st.take (zMi (n % 512)).2.1).reverse, zvo (zS H) v := fun v hv => hst v (List.mem_of_mem_take (List.mem_reverse.mp hv))
    have hM := zMet hx2 h5 h4 l G cA ρ hargs hW.2.2.2 Hm.size
    have hml := zmf_ml hf
    have hr1 := hR.1
    have hr2 := hR.2
    have hfr : (zrm (d - 1) 0 0).frames + 1 ≤ R.frames := by show d - 1 + 1 + 1 ≤ R.frames; omega
    have hlo : 8 + (zml (n % 512) + 11) + (zrm (d - 1) 0 0).locals ≤ R.locals := by show 8 + (zml (n % 512) + 11) + 60 * (d - 1 + 1) ≤ R.locals; omega
    have hr : va_Run p l e R s M args below meth c Hm locs cells slots 0 0 (F0 M pc lsm (st.map (zv ρ))) ((st.drop (zMi (n % 512)).2.1).map (zv ρ)) _ _ := va_runS (As := (st.take (zMi (n % 512)).2.1).reverse.map (zv ρ)) (rest := (st.drop (zMi (n % 512)).2.1).map (zv ρ)) (ret := zre (n % 512)) (bytes := zcc (n % 512)) (maxL := zml (n % 512)) (n := (zMi (n % 512)).2.1) ⟨hX, hB, hL2, hown, hts⟩ hM
      ⟨callB_of (zMi (n % 512)).2.1 hts (zgoodIn hx2) rfl rfl rfl (hts _ (zmf_init hf)) (hts _ (zTm (List.mem_of_getElem? hx1) rfl)) ⟨(zmf_nh hf).1, (zmf_nh hf).2, hpar⟩ ⟨hfr, hlo⟩, hts _ hstt⟩
      ⟨zblind, zpre hK hnk hW.1 hW.2.1⟩ rfl (by simp; omega) hls.2.1 (by show st.map (zv ρ) = _; rw [← List.map_reverse, ← List.map_append, ← zsplit]) (zrun8 h2) hd ⟨by omega, by omega⟩
    refine zback hr hW hA (fun r H' ρ' H1 locs1 hQr hext hle hrv hW1 => ?_)
    have hst' : ∀ v ∈ zpu (zMi (n % 512)).2.2.1 r ++ st.drop (zMi (n % 512)).2.1, zvo (zS H') v := by
      intro v hv
      rcases List.mem_append.mp hv with h | h
      · exact zpu_ok hf hrv _ v h
      · exact zvo_mono hle (hst v (List.mem_of_mem_drop h))
    have e9 : (zRt (n % 512) r).head?.toList ++ (st.drop (zMi (n % 512)).2.1).map (zv ρ) = (zpu (zMi (n % 512)).2.2.1 r ++ st.drop (zMi (n % 512)).2.1).map (zv ρ') := by
      rw [List.map_append, zpu_eq hf, zvs_ext hext (fun v hv => hst v (List.mem_of_mem_drop hv))]
    rw [e9]
    exact ih bc bs ls _ H' (h6 r H' hQr) l p e R s M args below meth c G cA A b ρ' H1 locs1 (cells + 0) (slots + 0) (pc + 3) lsm Z hC hR ht hW1 (fun q => (hext 0 hW.2.2.2.1).trans (h0 q)) hst' (hls.ext hext hle) (by omega) (by omega) (fun r H'' ρ'' Hm' locs' cells' slots' pc' lsm' g1 g2 g3 g4 g5 g6 g7 => hZ r H'' ρ'' Hm' locs' cells' slots' pc' lsm' g1 g2 (fun a ha => (g3 a (Nat.lt_of_lt_of_le ha hle)).trans (hext a ha)) (Nat.le_trans hle g4) (by omega) (by omega) g7)
theorem zq_callV {xs : Nat → Int} {L d : Nat} {sc : Bool} {m : Nat} {Q : zQ} {J : zJt} {C : zCt} {k : zKo} {il : List Instr} {bc bs : Nat} {ls : zLs} {st : List zV} {H : zH} {n kk : Nat} (hCd : C = zCa xs L d) (ih : zIH xs L d sc m Q k il) (h : zins J C sc xs L Q (.multianewarray n kk) k bc bs ls st H) : zSN xs L d bc bs sc m (.multianewarray n kk :: il) ls st H Q := by
  intro l p e R s M args below meth c G cA A b ρ Hm locs cells slots pc lsm Z hC hR hk hW h0 hst hls hc1 hc2 hZ
  obtain ⟨j, len, hd, hj, hx, ht⟩ := zchk_cons hk (by intro q; cases q) (by intro t q; cases q)
  obtain ⟨hX, hB, hL2, hret, hlk, hown, hts, hnk, hini, hK, hA, hsc⟩ := id hC
  simp only [zraw, List.mem_singleton, Prod.mk.injEq] at hj
  obtain ⟨rfl, rfl⟩ := hj
  have ht := ht.resolve_left (by simp [zte])
  simp only [zins, zcal] at h
  simp only [zext, zmw, Bool.and_eq_true, decide_eq_true_eq, Bool.not_eq_true'] at hx
  obtain ⟨⟨⟨⟨⟨⟨hx1, hx2⟩, hx6⟩, hx3⟩, hx4⟩, hx5⟩, hx7⟩ := hx
  subst hCd
  · skip
    have hf := zmf_all _ hx2
    obtain ⟨hin, hse, hpar, hccl⟩ := zmf_in hf hx5
    obtain ⟨h1, h2, h2b, h3, h4, Q1, h5, h6⟩ := h
    have h2b := h2b trivial
    have hse2 := hse.resolve_left (by rw [hx7]; decide)
    rw [← hx3] at h1 h2 h2b h4 h5 h6
    rw [← hx4] at h6
    rw [← hx6] at h2b
    have hargs : ∀ v ∈ (st.take (zMi (n % 512)).2.1).reverse, zvo (zS H) v := fun v hv => hst v (List.mem_of_mem_take (List.mem_reverse.mp hv))
    have hM := zMet hx2 h5 h4 l G cA ρ hargs hW.2.2.2 Hm.size
    have hml := zmf_ml hf
    have hr1 := hR.1
    have hr2 := hR.2
    have hfr : (zrm (d - 1) 0 0).frames + 1 ≤ R.frames := by show d - 1 + 1 + 1 ≤ R.frames; omega
    have hlo : 8 + (zml (n % 512) + 11) + (zrm (d - 1) 0 0).locals ≤ R.locals := by show 8 + (zml (n % 512) + 11) + 60 * (d - 1 + 1) ≤ R.locals; omega
    obtain ⟨ra, hhead, hkr⟩ := h2b
    obtain ⟨as, has⟩ : ∃ as, (st.take (zMi (n % 512)).2.1).reverse = zr (some ra) :: as := by
      cases hq : (st.take (zMi (n % 512)).2.1).reverse with
      | nil => rw [hq] at hhead; cases hhead
      | cons v as => rw [hq] at hhead; exact ⟨as, by rw [Option.some.inj hhead]⟩
    have hlas : as.length + 1 = (zMi (n % 512)).2.1 := by
      have := congrArg List.length has
      simp only [List.length_reverse, List.length_take, List.length_cons] at this
      omega
    rw [has, List.map_cons] at hM
    have hM : Met l (zy (n % 512)) (zws (n % 512)) (zrm (d - 1) (0) (0)) (va_Pc (.ref (ρ ra) :: as.map (zv ρ)) _) _ _ _ _ := hM
    obtain ⟨q, hq, hqc⟩ := Option.map_eq_some_iff.mp hccl
    have hral : ra < zS H := hargs (zr (some ra)) (by rw [has]; exact List.mem_cons_self) ra rfl
    have hk13 : zK H ra < 13 := by rw [hkr]; exact (List.getElem?_eq_some_iff.mp hq).1
    have hra1 := zgo_lt hW.2.2.2 hral (by omega)
    have he := zw_at (cA := cA) (ρ := ρ) hra1 hral
    rw [zce_obj hk13, hkr] at he
    have hstk : st.map (zv ρ) = (as.map (zv ρ)).reverse ++ .ref (ρ ra) :: (st.drop (zMi (n % 512)).2.1).map (zv ρ) := by
      have e7 := congrArg (List.map (zv ρ)) (zsplit st (zMi (n % 512)).2.1)
      rw [has] at e7
      rw [e7]
      simp [zv, va_rf]
    have hnp : (parseMethodDescriptor (zy (n % 512)).desc).map (fun d => d.parameters.length) = some as.length := by
      cases hp : parseMethodDescriptor (zy (n % 512)).desc with
      | none => rw [hp] at hpar; cases hpar
      | some dd =>
        rw [hp] at hpar
        have hpar : dd.parameters.length + 1 = (zMi (n % 512)).2.1 := Option.some.inj hpar
        show some dd.parameters.length = some as.length
        congr 1
        omega
    have hr : va_Run p l e R s M args below meth c Hm locs cells slots (0) (0) (F0 M pc lsm (st.map (zv ρ))) ((st.drop (zMi (n % 512)).2.1).map (zv ρ)) _ _ := va_runV (C := (zy (n % 512)).cls) (b := ρ ra) (As := as.map (zv ρ)) (rest := (st.drop (zMi (n % 512)).2.1).map (zv ρ)) (ret := zre (n % 512)) (bytes := zcc (n % 512)) (maxL := zml (n % 512)) (n := as.length) ⟨hX, hB, hL2, hown, hts⟩ hM
      ⟨callB_of as.length hts (zgoodIn hx2) rfl rfl rfl (hts _ (zmf_init hf)) (hts _ (zTm (List.mem_of_getElem? hx1) rfl)) ⟨(zmf_nh hf).1, (zmf_nh hf).2, hnp⟩ ⟨hfr, hlo⟩, hts _ hin, hts _ hse2⟩
      ⟨zblind, by rw [← hqc]; exact va_recv hK hW.1 hq he, zpre hK hnk hW.1 hW.2.1⟩ rfl (by simp) hls.2.1 hstk (zrun8 h2) hd ⟨by omega, by omega⟩
    refine zback hr hW hA (fun r H' ρ' H1 locs1 hQr hext hle hrv hW1 => ?_)
    have hst' : ∀ v ∈ zpu (zMi (n % 512)).2.2.1 r ++ st.drop (zMi (n % 512)).2.1, zvo (zS H') v := by
      intro v hv
      rcases List.mem_append.mp hv with h | h
      · exact zpu_ok hf hrv _ v h
      · exact zvo_mono hle (hst v (List.mem_of_mem_drop h))
    have e9 : (zRt (n % 512) r).head?.toList ++ (st.drop (zMi (n % 512)).2.1).map (zv ρ) = (zpu (zMi (n % 512)).2.2.1 r ++ st.drop (zMi (n % 512)).2.1).map (zv ρ') := by
      rw [List.map_append, zpu_eq hf, zvs_ext hext (fun v hv => hst v (List.mem_of_mem_drop hv))]
    rw [e9]
    exact ih bc bs ls _ H' (h6 r H' hQr) l p e R s M args below meth c G cA A b ρ' H1 locs1 (cells + (0)) (slots + (0)) (pc + 3) lsm Z hC hR ht hW1 (fun q => (hext 0 hW.2.2.2.1).trans (h0 q)) hst' (hls.ext hext hle) (by omega) (by omega) (fun r H'' ρ'' Hm' locs' cells' slots' pc' lsm' g1 g2 g3 g4 g5 g6 g7 => hZ r H'' ρ'' Hm' locs' cells' slots' pc' lsm' g1 g2 (fun a ha => (g3 a (Nat.lt_of_lt_of_le ha hle)).trans (hext a ha)) (Nat.le_trans hle g4) (by omega) (by omega) g7)
