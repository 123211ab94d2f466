theorem zjo_spec {m : Nat} {t : Int} (h : zjo m t = true) : ((t.toNat : Nat) : Int) = t ∧ zchk m t.toNat (zblk m t.toNat) = true := by
  simp only [zjo, Bool.and_eq_true, decide_eq_true_eq] at h
  exact ⟨by omega, zh_all (m, t.toNat) h.2⟩
theorem zq_if_eq {xs : Nat → Int} {L d : Nat} {sc : Bool} {m : Nat} {Q : zQ} {J : zJt} {C : zCt} {k : zKo} {il : List Instr} {bc bs : Nat} {ls : zLs} {st : List zV} {H : zH} (hJ : ∀ t bc bs ls st H, J t bc bs ls st H → zSN xs L d bc bs sc m (zblk m t) ls st H Q) {t : Int} (ih : zIH xs L d sc m Q k il) (h : zins J C sc xs L Q (.ifCond .eq t) k bc bs ls st H) : zSN xs L d bc bs sc m (.ifCond .eq t :: il) ls st H Q := by
  intro l p e R s M args below meth c G cA A b ρ Hm locs cells slots pc lsm Z hC hR hk hW h0 hst hls hc1 hc2 hZ
  obtain ⟨j, len, hd, hj, hx, ht⟩ := zchk_cons hk (by intro q; cases q) (by intro t q; cases q)
  obtain ⟨hX, hB, hL2, hret, hlk, hown, hts, hnk, hini, hK, hA, hsc⟩ := id hC
  simp only [zraw, List.mem_singleton, Prod.mk.injEq] at hj
  obtain ⟨rfl, rfl⟩ := hj
  have ht := ht.resolve_left (by simp [zte])
  simp only [zins] at h
  have hz := zjo_spec hx
  split at h
  next x st =>
    obtain ⟨hx2, hst⟩ := List.forall_mem_cons.mp hst
    refine lv_if_eq (tgt := t.toNat) hX hB hd (by omega) (fun hq => ?_) (fun hq => ?_)
    · exact hJ _ bc bs ls _ H (h.1 (((z32_inj hx2 z32_0)).mp (by first | exact hq | exact Int32.not_lt.mp hq | exact Int32.not_le.mp hq))) l p e R s M args below meth c G cA A b ρ Hm locs cells slots t.toNat lsm Z hC hR hz.2 hW h0 hst hls hc1 hc2 hZ
    · exact ih bc bs ls _ H (h.2 (fun q => hq (by first | exact ((z32_inj hx2 z32_0)).mpr q | exact Int32.not_lt.mpr (((z32_inj hx2 z32_0)).mpr q) | exact Int32.not_le.mpr (((z32_inj hx2 z32_0)).mpr q)))) l p e R s M args below meth c G cA A b ρ Hm locs cells slots (pc + 3) lsm Z hC hR ht hW h0 hst hls hc1 hc2 hZ
  next => exact h.elim
theorem zq_if_ne {xs : Nat → Int} {L d : Nat} {sc : Bool} {m : Nat} {Q : zQ} {J : zJt} {C : zCt} {k : zKo} {il : List Instr} {bc bs : Nat} {ls : zLs} {st : List zV} {H : zH} (hJ : ∀ t bc bs ls st H, J t bc bs ls st H → zSN xs L d bc bs sc m (zblk m t) ls st H Q) {t : Int} (ih : zIH xs L d sc m Q k il) (h : zins J C sc xs L Q (.ifCond .ne t) k bc bs ls st H) : zSN xs L d bc bs sc m (.ifCond .ne t :: il) ls st H Q := by
  intro l p e R s M args below meth c G cA A b ρ Hm locs cells slots pc lsm Z hC hR hk hW h0 hst hls hc1 hc2 hZ
  obtain ⟨j, len, hd, hj, hx, ht⟩ := zchk_cons hk (by intro q; cases q) (by intro t q; cases q)
  obtain ⟨hX, hB, hL2, hret, hlk, hown, hts, hnk, hini, hK, hA, hsc⟩ := id hC
  simp only [zraw, List.mem_singleton, Prod.mk.injEq] at hj
  obtain ⟨rfl, rfl⟩ := hj
  have ht := ht.resolve_left (by simp [zte])
  simp only [zins] at h
  have hz := zjo_spec hx
  split at h
  next x st =>
    obtain ⟨hx2, hst⟩ := List.forall_mem_cons.mp hst
    refine lv_if_ne (tgt := t.toNat) hX hB hd (by omega) (fun hq => ?_) (fun hq => ?_)
    · exact hJ _ bc bs ls _ H (h.1 (((not_congr (z32_inj hx2 z32_0))).mp (by first | exact hq | exact Int32.not_lt.mp hq | exact Int32.not_le.mp hq))) l p e R s M args below meth c G cA A b ρ Hm locs cells slots t.toNat lsm Z hC hR hz.2 hW h0 hst hls hc1 hc2 hZ
    · exact ih bc bs ls _ H (h.2 (fun q => q ((z32_inj hx2 z32_0).mp hq))) l p e R s M args below meth c G cA A b ρ Hm locs cells slots (pc + 3) lsm Z hC hR ht hW h0 hst hls hc1 hc2 hZ
  next => exact h.elim
theorem zq_if_lt {xs : Nat → Int} {L d : Nat} {sc : Bool} {m : Nat} {Q : zQ} {J : zJt} {C : zCt} {k : zKo} {il : List Instr} {bc bs : Nat} {ls : zLs} {st : List zV} {H : zH} (hJ : ∀ t bc bs ls st H, J t bc bs ls st H → zSN xs L d bc bs sc m (zblk m t) ls st H Q) {t : Int} (ih : zIH xs L d sc m Q k il) (h : zins J C sc xs L Q (.ifCond .lt t) k bc bs ls st H) : zSN xs L d bc bs sc m (.ifCond .lt t :: il) ls st H Q := by
  intro l p e R s M args below meth c G cA A b ρ Hm locs cells slots pc lsm Z hC hR hk hW h0 hst hls hc1 hc2 hZ
  obtain ⟨j, len, hd, hj, hx, ht⟩ := zchk_cons hk (by intro q; cases q) (by intro t q; cases q)
  obtain ⟨hX, hB, hL2, hret, hlk, hown, hts, hnk, hini, hK, hA, hsc⟩ := id hC
  simp only [zraw, List.mem_singleton, Prod.mk.injEq] at hj
  obtain ⟨rfl, rfl⟩ := hj
  have ht := ht.resolve_left (by simp [zte])
  simp only [zins] at h
  have hz := zjo_spec hx
  split at h
  next x st =>
    obtain ⟨hx2, hst⟩ := List.forall_mem_cons.mp hst
    refine lv_if_lt (tgt := t.toNat) hX hB hd (by omega) (fun hq => ?_) (fun hq => ?_)
    · exact hJ _ bc bs ls _ H (h.1 (((z32_lt hx2 z32_0)).mp (by first | exact hq | exact Int32.not_lt.mp hq | exact Int32.not_le.mp hq))) l p e R s M args below meth c G cA A b ρ Hm locs cells slots t.toNat lsm Z hC hR hz.2 hW h0 hst hls hc1 hc2 hZ
    · exact ih bc bs ls _ H (h.2 (fun q => hq (by first | exact ((z32_lt hx2 z32_0)).mpr q | exact Int32.not_lt.mpr (((z32_lt hx2 z32_0)).mpr q) | exact Int32.not_le.mpr (((z32_lt hx2 z32_0)).mpr q)))) l p e R s M args below meth c G cA A b ρ Hm locs cells slots (pc + 3) lsm Z hC hR ht hW h0 hst hls hc1 hc2 hZ
  next => exact h.elim
theorem zq_if_ge {xs : Nat → Int} {L d : Nat} {sc : Bool} {m : Nat} {Q : zQ} {J : zJt} {C : zCt} {k : zKo} {il : List Instr} {bc bs : Nat} {ls : zLs} {st : List zV} {H : zH} (hJ : ∀ t bc bs ls st H, J t bc bs ls st H → zSN xs L d bc bs sc m (zblk m t) ls st H Q) {t : Int} (ih : zIH xs L d sc m Q k il) (h : zins J C sc xs L Q (.ifCond .ge t) k bc bs ls st H) : zSN xs L d bc bs sc m (.ifCond .ge t :: il) ls st H Q := by
  intro l p e R s M args below meth c G cA A b ρ Hm locs cells slots pc lsm Z hC hR hk hW h0 hst hls hc1 hc2 hZ
  obtain ⟨j, len, hd, hj, hx, ht⟩ := zchk_cons hk (by intro q; cases q) (by intro t q; cases q)
  obtain ⟨hX, hB, hL2, hret, hlk, hown, hts, hnk, hini, hK, hA, hsc⟩ := id hC
  simp only [zraw, List.mem_singleton, Prod.mk.injEq] at hj
  obtain ⟨rfl, rfl⟩ := hj
  have ht := ht.resolve_left (by simp [zte])
  simp only [zins] at h
  have hz := zjo_spec hx
  split at h
  next x st =>
    obtain ⟨hx2, hst⟩ := List.forall_mem_cons.mp hst
    refine lv_if_ge (tgt := t.toNat) hX hB hd (by omega) (fun hq => ?_) (fun hq => ?_)
    · exact hJ _ bc bs ls _ H (h.1 (((z32_le z32_0 hx2)).mp (by first | exact hq | exact Int32.not_lt.mp hq | exact Int32.not_le.mp hq))) l p e R s M args below meth c G cA A b ρ Hm locs cells slots t.toNat lsm Z hC hR hz.2 hW h0 hst hls hc1 hc2 hZ
    · exact ih bc bs ls _ H (h.2 (fun q => hq (by first | exact ((z32_le z32_0 hx2)).mpr q | exact Int32.not_lt.mpr (((z32_le z32_0 hx2)).mpr q) | exact Int32.not_le.mpr (((z32_le z32_0 hx2)).mpr q)))) l p e R s M args below meth c G cA A b ρ Hm locs cells slots (pc + 3) lsm Z hC hR ht hW h0 hst hls hc1 hc2 hZ
  next => exact h.elim
theorem zq_if_gt {xs : Nat → Int} {L d : Nat} {sc : Bool} {m : Nat} {Q : zQ} {J : zJt} {C : zCt} {k : zKo} {il : List Instr} {bc bs : Nat} {ls : zLs} {st : List zV} {H : zH} (hJ : ∀ t bc bs ls st H, J t bc bs ls st H → zSN xs L d bc bs sc m (zblk m t) ls st H Q) {t : Int} (ih : zIH xs L d sc m Q k il) (h : zins J C sc xs L Q (.ifCond .gt t) k bc bs ls st H) : zSN xs L d bc bs sc m (.ifCond .gt t :: il) ls st H Q := by
  intro l p e R s M args below meth c G cA A b ρ Hm locs cells slots pc lsm Z hC hR hk hW h0 hst hls hc1 hc2 hZ
  obtain ⟨j, len, hd, hj, hx, ht⟩ := zchk_cons hk (by intro q; cases q) (by intro t q; cases q)
  obtain ⟨hX, hB, hL2, hret, hlk, hown, hts, hnk, hini, hK, hA, hsc⟩ := id hC
  simp only [zraw, List.mem_singleton, Prod.mk.injEq] at hj
  obtain ⟨rfl, rfl⟩ := hj
  have ht := ht.resolve_left (by simp [zte])
  simp only [zins] at h
  have hz := zjo_spec hx
  split at h
  next x st =>
    obtain ⟨hx2, hst⟩ := List.forall_mem_cons.mp hst
    refine lv_if_gt (tgt := t.toNat) hX hB hd (by omega) (fun hq => ?_) (fun hq => ?_)
    · exact hJ _ bc bs ls _ H (h.1 (((z32_lt z32_0 hx2)).mp (by first | exact hq | exact Int32.not_lt.mp hq | exact Int32.not_le.mp hq))) l p e R s M args below meth c G cA A b ρ Hm locs cells slots t.toNat lsm Z hC hR hz.2 hW h0 hst hls hc1 hc2 hZ
    · exact ih bc bs ls _ H (h.2 (fun q => hq (by first | exact ((z32_lt z32_0 hx2)).mpr q | exact Int32.not_lt.mpr (((z32_lt z32_0 hx2)).mpr q) | exact Int32.not_le.mpr (((z32_lt z32_0 hx2)).mpr q)))) l p e R s M args below meth c G cA A b ρ Hm locs cells slots (pc + 3) lsm Z hC hR ht hW h0 hst hls hc1 hc2 hZ
  next => exact h.elim
theorem zq_if_le {xs : Nat → Int} {L d : Nat} {sc : Bool} {m : Nat} {Q : zQ} {J : zJt} {C : zCt} {k : zKo} {il : List Instr} {bc bs : Nat} {ls : zLs} {st : List zV} {H : zH} (hJ : ∀ t bc bs ls st H, J t bc bs ls st H → zSN xs L d bc bs sc m (zblk m t) ls st H Q) {t : Int} (ih : zIH xs L d sc m Q k il) (h : zins J C sc xs L Q (.ifCond .le t) k bc bs ls st H) : zSN xs L d bc bs sc m (.ifCond .le t :: il) ls st H Q := by
  intro l p e R s M args below meth c G cA A b ρ Hm locs cells slots pc lsm Z hC hR hk hW h0 hst hls hc1 hc2 hZ
  obtain ⟨j, len, hd, hj, hx, ht⟩ := zchk_cons hk (by intro q; cases q) (by intro t q; cases q)
  obtain ⟨hX, hB, hL2, hret, hlk, hown, hts, hnk, hini, hK, hA, hsc⟩ := id hC
  simp only [zraw, List.mem_singleton, Prod.mk.injEq] at hj
  obtain ⟨rfl, rfl⟩ := hj
  have ht := ht.resolve_left (by simp [zte])
  simp only [zins] at h
  have hz := zjo_spec hx
  split at h
  next x st =>
    obtain ⟨hx2, hst⟩ := List.forall_mem_cons.mp hst
    refine lv_if_le (tgt := t.toNat) hX hB hd (by omega) (fun hq => ?_) (fun hq => ?_)
    · exact hJ _ bc bs ls _ H (h.1 (((z32_le hx2 z32_0)).mp (by first | exact hq | exact Int32.not_lt.mp hq | exact Int32.not_le.mp hq))) l p e R s M args below meth c G cA A b ρ Hm locs cells slots t.toNat lsm Z hC hR hz.2 hW h0 hst hls hc1 hc2 hZ
    · exact ih bc bs ls _ H (h.2 (fun q => hq (by first | exact ((z32_le hx2 z32_0)).mpr q | exact Int32.not_lt.mpr (((z32_le hx2 z32_0)).mpr q) | exact Int32.not_le.mpr (((z32_le hx2 z32_0)).mpr q)))) l p e R s M args below meth c G cA A b ρ Hm locs cells slots (pc + 3) lsm Z hC hR ht hW h0 hst hls hc1 hc2 hZ
  next => exact h.elim
theorem zq_icmp_eq {xs : Nat → Int} {L d : Nat} {sc : Bool} {m : Nat} {Q : zQ} {J : zJt} {C : zCt} {k : zKo} {il : List Instr} {bc bs : Nat} {ls : zLs} {st : List zV} {H : zH} (hJ : ∀ t bc bs ls st H, J t bc bs ls st H → zSN xs L d bc bs sc m (zblk m t) ls st H Q) {t : Int} (ih : zIH xs L d sc m Q k il) (h : zins J C sc xs L Q (.if_icmp .eq t) k bc bs ls st H) : zSN xs L d bc bs sc m (.if_icmp .eq t :: il) ls st H Q := by
  intro l p e R s M args below meth c G cA A b ρ Hm locs cells slots pc lsm Z hC hR hk hW h0 hst hls hc1 hc2 hZ
  obtain ⟨j, len, hd, hj, hx, ht⟩ := zchk_cons hk (by intro q; cases q) (by intro t q; cases q)
  obtain ⟨hX, hB, hL2, hret, hlk, hown, hts, hnk, hini, hK, hA, hsc⟩ := id hC
  simp only [zraw, List.mem_singleton, Prod.mk.injEq] at hj
  obtain ⟨rfl, rfl⟩ := hj
  have ht := ht.resolve_left (by simp [zte])
  simp only [zins] at h
  have hz := zjo_spec hx
  split at h
  next y x st =>
    obtain ⟨hy, hst⟩ := List.forall_mem_cons.mp hst
    obtain ⟨hx2, hst⟩ := List.forall_mem_cons.mp hst
    refine lv_icmp_eq (tgt := t.toNat) hX hB hd (by omega) (fun hq => ?_) (fun hq => ?_)
    · exact hJ _ bc bs ls _ H (h.1 (((z32_inj hx2 hy)).mp (by first | exact hq | exact Int32.not_lt.mp hq | exact Int32.not_le.mp hq))) l p e R s M args below meth c G cA A b ρ Hm locs cells slots t.toNat lsm Z hC hR hz.2 hW h0 hst hls hc1 hc2 hZ
    · exact ih bc bs ls _ H (h.2 (fun q => hq (by first | exact ((z32_inj hx2 hy)).mpr q | exact Int32.not_lt.mpr (((z32_inj hx2 hy)).mpr q) | exact Int32.not_le.mpr (((z32_inj hx2 hy)).mpr q)))) l p e R s M args below meth c G cA A b ρ Hm locs cells slots (pc + 3) lsm Z hC hR ht hW h0 hst hls hc1 hc2 hZ
  next => exact h.elim
theorem zq_icmp_ne {xs : Nat → Int} {L d : Nat} {sc : Bool} {m : Nat} {Q : zQ} {J : zJt} {C : zCt} {k : zKo} {il : List Instr} {bc bs : Nat} {ls : zLs} {st : List zV} {H : zH} (hJ : ∀ t bc bs ls st H, J t bc bs ls st H → zSN xs L d bc bs sc m (zblk m t) ls st H Q) {t : Int} (ih : zIH xs L d sc m Q k il) (h : zins J C sc xs L Q (.if_icmp .ne t) k bc bs ls st H) : zSN xs L d bc bs sc m (.if_icmp .ne t :: il) ls st H Q := by
  intro l p e R s M args below meth c G cA A b ρ Hm locs cells slots pc lsm Z hC hR hk hW h0 hst hls hc1 hc2 hZ
  obtain ⟨j, len, hd, hj, hx, ht⟩ := zchk_cons hk (by intro q; cases q) (by intro t q; cases q)
  obtain ⟨hX, hB, hL2, hret, hlk, hown, hts, hnk, hini, hK, hA, hsc⟩ := id hC
  simp only [zraw, List.mem_singleton, Prod.mk.injEq] at hj
  obtain ⟨rfl, rfl⟩ := hj
  have ht := ht.resolve_left (by simp [zte])
  simp only [zins] at h
  have hz := zjo_spec hx
  split at h
  next y x st =>
    obtain ⟨hy, hst⟩ := List.forall_mem_cons.mp hst
    obtain ⟨hx2, hst⟩ := List.forall_mem_cons.mp hst
    refine lv_icmp_ne (tgt := t.toNat) hX hB hd (by omega) (fun hq => ?_) (fun hq => ?_)
    · exact hJ _ bc bs ls _ H (h.1 (((not_congr (z32_inj hx2 hy))).mp (by first | exact hq | exact Int32.not_lt.mp hq | exact Int32.not_le.mp hq))) l p e R s M args below meth c G cA A b ρ Hm locs cells slots t.toNat lsm Z hC hR hz.2 hW h0 hst hls hc1 hc2 hZ
    · exact ih bc bs ls _ H (h.2 (fun q => q ((z32_inj hx2 hy).mp hq))) l p e R s M args below meth c G cA A b ρ Hm locs cells slots (pc + 3) lsm Z hC hR ht hW h0 hst hls hc1 hc2 hZ
  next => exact h.elim
theorem zq_icmp_lt {xs : Nat → Int} {L d : Nat} {sc : Bool} {m : Nat} {Q : zQ} {J : zJt} {C : zCt} {k : zKo} {il : List Instr} {bc bs : Nat} {ls : zLs} {st : List zV} {H : zH} (hJ : ∀ t bc bs ls st H, J t bc bs ls st H → zSN xs L d bc bs sc m (zblk m t) ls st H Q) {t : Int} (ih : zIH xs L d sc m Q k il) (h : zins J C sc xs L Q (.if_icmp .lt t) k bc bs ls st H) : zSN xs L d bc bs sc m (.if_icmp .lt t :: il) ls st H Q := by
  intro l p e R s M args below meth c G cA A b ρ Hm locs cells slots pc lsm Z hC hR hk hW h0 hst hls hc1 hc2 hZ
  obtain ⟨j, len, hd, hj, hx, ht⟩ := zchk_cons hk (by intro q; cases q) (by intro t q; cases q)
  obtain ⟨hX, hB, hL2, hret, hlk, hown, hts, hnk, hini, hK, hA, hsc⟩ := id hC
  simp only [zraw, List.mem_singleton, Prod.mk.injEq] at hj
  obtain ⟨rfl, rfl⟩ := hj
  have ht := ht.resolve_left (by simp [zte])
  simp only [zins] at h
  have hz := zjo_spec hx
  split at h
  next y x st =>
    obtain ⟨hy, hst⟩ := List.forall_mem_cons.mp hst
    obtain ⟨hx2, hst⟩ := List.forall_mem_cons.mp hst
    refine lv_icmp_lt (tgt := t.toNat) hX hB hd (by omega) (fun hq => ?_) (fun hq => ?_)
    · exact hJ _ bc bs ls _ H (h.1 (((z32_lt hx2 hy)).mp (by first | exact hq | exact Int32.not_lt.mp hq | exact Int32.not_le.mp hq))) l p e R s M args below meth c G cA A b ρ Hm locs cells slots t.toNat lsm Z hC hR hz.2 hW h0 hst hls hc1 hc2 hZ
    · exact ih bc bs ls _ H (h.2 (fun q => hq (by first | exact ((z32_lt hx2 hy)).mpr q | exact Int32.not_lt.mpr (((z32_lt hx2 hy)).mpr q) | exact Int32.not_le.mpr (((z32_lt hx2 hy)).mpr q)))) l p e R s M args below meth c G cA A b ρ Hm locs cells slots (pc + 3) lsm Z hC hR ht hW h0 hst hls hc1 hc2 hZ
  next => exact h.elim
theorem zq_icmp_ge {xs : Nat → Int} {L d : Nat} {sc : Bool} {m : Nat} {Q : zQ} {J : zJt} {C : zCt} {k : zKo} {il : List Instr} {bc bs : Nat} {ls : zLs} {st : List zV} {H : zH} (hJ : ∀ t bc bs ls st H, J t bc bs ls st H → zSN xs L d bc bs sc m (zblk m t) ls st H Q) {t : Int} (ih : zIH xs L d sc m Q k il) (h : zins J C sc xs L Q (.if_icmp .ge t) k bc bs ls st H) : zSN xs L d bc bs sc m (.if_icmp .ge t :: il) ls st H Q := by
  intro l p e R s M args below meth c G cA A b ρ Hm locs cells slots pc lsm Z hC hR hk hW h0 hst hls hc1 hc2 hZ
  obtain ⟨j, len, hd, hj, hx, ht⟩ := zchk_cons hk (by intro q; cases q) (by intro t q; cases q)
  obtain ⟨hX, hB, hL2, hret, hlk, hown, hts, hnk, hini, hK, hA, hsc⟩ := id hC
  simp only [zraw, List.mem_singleton, Prod.mk.injEq] at hj
  obtain ⟨rfl, rfl⟩ := hj
  have ht := ht.resolve_left (by simp [zte])
  simp only [zins] at h
  have hz := zjo_spec hx
  split at h
  next y x st =>
    obtain ⟨hy, hst⟩ := List.forall_mem_cons.mp hst
    obtain ⟨hx2, hst⟩ := List.forall_mem_cons.mp hst
    refine lv_icmp_ge (tgt := t.toNat) hX hB hd (by omega) (fun hq => ?_) (fun hq => ?_)
    · exact hJ _ bc bs ls _ H (h.1 (((z32_le hy hx2)).mp (by first | exact hq | exact Int32.not_lt.mp hq | exact Int32.not_le.mp hq))) l p e R s M args below meth c G cA A b ρ Hm locs cells slots t.toNat lsm Z hC hR hz.2 hW h0 hst hls hc1 hc2 hZ
    · exact ih bc bs ls _ H (h.2 (fun q => hq (by first | exact ((z32_le hy hx2)).mpr q | exact Int32.not_lt.mpr (((z32_le hy hx2)).mpr q) | exact Int32.not_le.mpr (((z32_le hy hx2)).mpr q)))) l p e R s M args below meth c G cA A b ρ Hm locs cells slots (pc + 3) lsm Z hC hR ht hW h0 hst hls hc1 hc2 hZ
  next => exact h.elim
theorem zq_icmp_gt {xs : Nat → Int} {L d : Nat} {sc : Bool} {m : Nat} {Q : zQ} {J : zJt} {C : zCt} {k : zKo} {il : List Instr} {bc bs : Nat} {ls : zLs} {st : List zV} {H : zH} (hJ : ∀ t bc bs ls st H, J t bc bs ls st H → zSN xs L d bc bs sc m (zblk m t) ls st H Q) {t : Int} (ih : zIH xs L d sc m Q k il) (h : zins J C sc xs L Q (.if_icmp .gt t) k bc bs ls st H) : zSN xs L d bc bs sc m (.if_icmp .gt t :: il) ls st H Q := by
  intro l p e R s M args below meth c G cA A b ρ Hm locs cells slots pc lsm Z hC hR hk hW h0 hst hls hc1 hc2 hZ
  obtain ⟨j, len, hd, hj, hx, ht⟩ := zchk_cons hk (by intro q; cases q) (by intro t q; cases q)
  obtain ⟨hX, hB, hL2, hret, hlk, hown, hts, hnk, hini, hK, hA, hsc⟩ := id hC
  simp only [zraw, List.mem_singleton, Prod.mk.injEq] at hj
  obtain ⟨rfl, rfl⟩ := hj
  have ht := ht.resolve_left (by simp [zte])
  simp only [zins] at h
  have hz := zjo_spec hx
  split at h
  next y x st =>
    obtain ⟨hy, hst⟩ := List.forall_mem_cons.mp hst
    obtain ⟨hx2, hst⟩ := List.forall_mem_cons.mp hst
    refine lv_icmp_gt (tgt := t.toNat) hX hB hd (by omega) (fun hq => ?_) (fun hq => ?_)
    · exact hJ _ bc bs ls _ H (h.1 (((z32_lt hy hx2)).mp (by first | exact hq | exact Int32.not_lt.mp hq | exact Int32.not_le.mp hq))) l p e R s M args below meth c G cA A b ρ Hm locs cells slots t.toNat lsm Z hC hR hz.2 hW h0 hst hls hc1 hc2 hZ
    · exact ih bc bs ls _ H (h.2 (fun q => hq (by first | exact ((z32_lt hy hx2)).mpr q | exact Int32.not_lt.mpr (((z32_lt hy hx2)).mpr q) | exact Int32.not_le.mpr (((z32_lt hy hx2)).mpr q)))) l p e R s M args below meth c G cA A b ρ Hm locs cells slots (pc + 3) lsm Z hC hR ht hW h0 hst hls hc1 hc2 hZ
  next => exact h.elim
theorem zq_icmp_le {xs : Nat → Int} {L d : Nat} {sc : Bool} {m : Nat} {Q : zQ} {J : zJt} {C : zCt} {k : zKo} {il : List Instr} {bc bs : Nat} {ls : zLs} {st : List zV} {H : zH} (hJ : ∀ t bc bs ls st H, J t bc bs ls st H → zSN xs L d bc bs sc m (zblk m t) ls st H Q) {t : Int} (ih : zIH xs L d sc m Q k il) (h : zins J C sc xs L Q (.if_icmp .le t) k bc bs ls st H) : zSN xs L d bc bs sc m (.if_icmp .le t :: il) ls st H Q := by
  intro l p e R s M args below meth c G cA A b ρ Hm locs cells slots pc lsm Z hC hR hk hW h0 hst hls hc1 hc2 hZ
  obtain ⟨j, len, hd, hj, hx, ht⟩ := zchk_cons hk (by intro q; cases q) (by intro t q; cases q)
  obtain ⟨hX, hB, hL2, hret, hlk, hown, hts, hnk, hini, hK, hA, hsc⟩ := id hC
  simp only [zraw, List.mem_singleton, Prod.mk.injEq] at hj
  obtain ⟨rfl, rfl⟩ := hj
  have ht := ht.resolve_left (by simp [zte])
  simp only [zins] at h
  have hz := zjo_spec hx
  split at h
  next y x st =>
    obtain ⟨hy, hst⟩ := List.forall_mem_cons.mp hst
    obtain ⟨hx2, hst⟩ := List.forall_mem_cons.mp hst
    refine lv_icmp_le (tgt := t.toNat) hX hB hd (by omega) (fun hq => ?_) (fun hq => ?_)
    · exact hJ _ bc bs ls _ H (h.1 (((z32_le hx2 hy)).mp (by first | exact hq | exact Int32.not_lt.mp hq | exact Int32.not_le.mp hq))) l p e R s M args below meth c G cA A b ρ Hm locs cells slots t.toNat lsm Z hC hR hz.2 hW h0 hst hls hc1 hc2 hZ
    · exact ih bc bs ls _ H (h.2 (fun q => hq (by first | exact ((z32_le hx2 hy)).mpr q | exact Int32.not_lt.mpr (((z32_le hx2 hy)).mpr q) | exact Int32.not_le.mpr (((z32_le hx2 hy)).mpr q)))) l p e R s M args below meth c G cA A b ρ Hm locs cells slots (pc + 3) lsm Z hC hR ht hW h0 hst hls hc1 hc2 hZ
  next => exact h.elim
theorem zq_ifnull {xs : Nat → Int} {L d : Nat} {sc : Bool} {m : Nat} {Q : zQ} {J : zJt} {C : zCt} {k : zKo} {il : List Instr} {bc bs : Nat} {ls : zLs} {st : List zV} {H : zH} (hJ : ∀ t bc bs ls st H, J t bc bs ls st H → zSN xs L d bc bs sc m (zblk m t) ls st H Q) {t : Int} (ih : zIH xs L d sc m Q k il) (h : zins J C sc xs L Q (.ifnull t) k bc bs ls st H) : zSN xs L d bc bs sc m (.ifnull t :: il) ls st H Q := by
  intro l p e R s M args below meth c G cA A b ρ Hm locs cells slots pc lsm Z hC hR hk hW h0 hst hls hc1 hc2 hZ
  obtain ⟨j, len, hd, hj, hx, ht⟩ := zchk_cons hk (by intro q; cases q) (by intro t q; cases q)
  obtain ⟨hX, hB, hL2, hret, hlk, hown, hts, hnk, hini, hK, hA, hsc⟩ := id hC
  simp only [zraw, List.mem_singleton, Prod.mk.injEq] at hj
  obtain ⟨rfl, rfl⟩ := hj
  have ht := ht.resolve_left (by simp [zte])
  simp only [zins] at h
  have hz := zjo_spec hx
  split at h
  next st =>
    obtain ⟨hx2, hst⟩ := List.forall_mem_cons.mp hst
    refine lv_ifnullN (tgt := t.toNat) hX hB hd (by omega) ?_
    exact hJ _ bc bs ls _ H h l p e R s M args below meth c G cA A b ρ Hm locs cells slots t.toNat lsm Z hC hR hz.2 hW h0 hst hls hc1 hc2 hZ
  next a st =>
    obtain ⟨hx2, hst⟩ := List.forall_mem_cons.mp hst
    refine lv_ifnull hX hB hd ?_
    exact ih bc bs ls _ H h l p e R s M args below meth c G cA A b ρ Hm locs cells slots (pc + 3) lsm Z hC hR ht hW h0 hst hls hc1 hc2 hZ
  next => exact h.elim
theorem zq_ifnonnull {xs : Nat → Int} {L d : Nat} {sc : Bool} {m : Nat} {Q : zQ} {J : zJt} {C : zCt} {k : zKo} {il : List Instr} {bc bs : Nat} {ls : zLs} {st : List zV} {H : zH} (hJ : ∀ t bc bs ls st H, J t bc bs ls st H → zSN xs L d bc bs sc m (zblk m t) ls st H Q) {t : Int} (ih : zIH xs L d sc m Q k il) (h : zins J C sc xs L Q (.ifnonnull t) k bc bs ls st H) : zSN xs L d bc bs sc m (.ifnonnull t :: il) ls st H Q := by
  intro l p e R s M args below meth c G cA A b ρ Hm locs cells slots pc lsm Z hC hR hk hW h0 hst hls hc1 hc2 hZ
  obtain ⟨j, len, hd, hj, hx, ht⟩ := zchk_cons hk (by intro q; cases q) (by intro t q; cases q)
  obtain ⟨hX, hB, hL2, hret, hlk, hown, hts, hnk, hini, hK, hA, hsc⟩ := id hC
  simp only [zraw, List.mem_singleton, Prod.mk.injEq] at hj
  obtain ⟨rfl, rfl⟩ := hj
  have ht := ht.resolve_left (by simp [zte])
  simp only [zins] at h
  have hz := zjo_spec hx
  split at h
  next st =>
    obtain ⟨hx2, hst⟩ := List.forall_mem_cons.mp hst
    refine lv_ifnonnullN hX hB hd ?_
    exact ih bc bs ls _ H h l p e R s M args below meth c G cA A b ρ Hm locs cells slots (pc + 3) lsm Z hC hR ht hW h0 hst hls hc1 hc2 hZ
  next a st =>
    obtain ⟨hx2, hst⟩ := List.forall_mem_cons.mp hst
    refine lv_ifnonnull (tgt := t.toNat) hX hB hd (by omega) ?_
    exact hJ _ bc bs ls _ H h l p e R s M args below meth c G cA A b ρ Hm locs cells slots t.toNat lsm Z hC hR hz.2 hW h0 hst hls hc1 hc2 hZ
  next => exact h.elim
theorem zq_goto {xs : Nat → Int} {L d : Nat} {sc : Bool} {m : Nat} {Q : zQ} {J : zJt} {C : zCt} {k : zKo} {il : List Instr} {bc bs : Nat} {ls : zLs} {st : List zV} {H : zH} (hJ : ∀ t bc bs ls st H, J t bc bs ls st H → zSN xs L d bc bs sc m (zblk m t) ls st H Q) {t : Int} (ih : zIH xs L d sc m Q k il) (h : zins J C sc xs L Q (.goto t) k bc bs ls st H) : zSN xs L d bc bs sc m (.goto t :: il) ls st H Q := by
  intro l p e R s M args below meth c G cA A b ρ Hm locs cells slots pc lsm Z hC hR hk hW h0 hst hls hc1 hc2 hZ
  obtain ⟨j, len, hd, hj, hx, ht⟩ := zchk_cons hk (by intro q; cases q) (by intro t q; cases q)
  obtain ⟨hX, hB, hL2, hret, hlk, hown, hts, hnk, hini, hK, hA, hsc⟩ := id hC
  simp only [zraw, List.mem_singleton, Prod.mk.injEq] at hj
  obtain ⟨rfl, rfl⟩ := hj
  simp only [zins] at h
  have hz := zjo_spec hx
  refine lv_goto (tgt := t.toNat) hX hB hd (by omega) ?_
  exact hJ _ bc bs ls _ H h l p e R s M args below meth c G cA A b ρ Hm locs cells slots t.toNat lsm Z hC hR hz.2 hW h0 hst hls hc1 hc2 hZ
theorem zq_switch {xs : Nat → Int} {L d : Nat} {sc : Bool} {m : Nat} {Q : zQ} {J : zJt} {C : zCt} {k : zKo} {il : List Instr} {bc bs : Nat} {ls : zLs} {st : List zV} {H : zH} (hJ : ∀ t bc bs ls st H, J t bc bs ls st H → zSN xs L d bc bs sc m (zblk m t) ls st H Q) {dd lo hi : Int} {offs : Array Int} (ih : zIH xs L d sc m Q k il) (h : zins J C sc xs L Q (.tableswitch dd lo hi offs) k bc bs ls st H) : zSN xs L d bc bs sc m (.tableswitch dd lo hi offs :: il) ls st H Q := by
  intro l p e R s M args below meth c G cA A b ρ Hm locs cells slots pc lsm Z hC hR hk hW h0 hst hls hc1 hc2 hZ
  obtain ⟨j, len, hd, hj, hx, ht⟩ := zchk_cons hk (by intro q; cases q) (by intro t q; cases q)
  obtain ⟨hX, hB, hL2, hret, hlk, hown, hts, hnk, hini, hK, hA, hsc⟩ := id hC
  simp only [zraw, List.mem_singleton, Prod.mk.injEq] at hj
  obtain ⟨rfl, rfl⟩ := hj
  simp only [zins] at h
  simp only [zext, Bool.and_eq_true, decide_eq_true_eq] at hx
  obtain ⟨⟨hx1, hx3⟩, hx4⟩ := hx
  split at h
  next x st =>
    obtain ⟨hx2, hst⟩ := List.forall_mem_cons.mp hst
    have e32 : (Int32.ofInt x).toInt = x := z32_i hx2
    by_cases hq : x < lo ∨ hi < x
    · have hz := zjo_spec hx1
      have esw : zsw dd lo hi offs x = dd := by unfold zsw; rw [if_pos hq]
      rw [esw] at h
      refine lv_tableOut (tgt := dd.toNat) hX hB hd (by rw [e32]; exact hq) (by omega) ?_
      exact hJ _ bc bs ls _ H h l p e R s M args below meth c G cA A b ρ Hm locs cells slots dd.toNat lsm Z hC hR hz.2 hW h0 hst hls hc1 hc2 hZ
    · have hl : (x - lo).toNat < offs.size := by omega
      have hm : offs[(x - lo).toNat] ∈ offs.toList := Array.mem_toList_iff.mpr (Array.getElem_mem hl)
      have hz := zjo_spec (List.all_eq_true.mp hx3 _ hm)
      have esw : zsw dd lo hi offs x = offs[(x - lo).toNat] := by
        unfold zsw
        rw [if_neg hq, Array.getD_eq_getD_getElem?, Array.getElem?_eq_getElem hl]
        rfl
      rw [esw] at h
      refine lv_tableIn (off := offs[(x - lo).toNat] - pc) (tgt := (offs[(x - lo).toNat]).toNat) hX hB hd (by rw [e32]; omega) (by rw [e32]; omega) ?_ (by omega) ?_
      · rw [e32, Array.getElem?_map, Array.getElem?_eq_getElem hl]
        rfl
      · exact hJ _ bc bs ls _ H h l p e R s M args below meth c G cA A b ρ Hm locs cells slots (offs[(x - lo).toNat]).toNat lsm Z hC hR hz.2 hW h0 hst hls hc1 hc2 hZ
  next => exact h.elim
