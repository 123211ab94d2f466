theorem zh_all : ∀ q ∈ zPr, zchk q.1 q.2 (zblk q.1 q.2) = true := sorry
theorem zmf_all : ∀ m, m < 310 → zmf m = true := sorry
theorem zgood_all : lw_tbl.all goodWord = true := sorry
theorem zcl_inst : ∀ q ∈ zcl, Cond.instantiable q.1 q.2.2 ∈ lw_tbl ∧ Cond.initialized q.1 ∈ lw_tbl := sorry
theorem ztb_arr : Cond.arrayClass .int ∈ lw_tbl ∧ Cond.arrayClass .byte ∈ lw_tbl ∧ Cond.arrayClass .boolean ∈ lw_tbl ∧ Cond.arrayClass .long ∈ lw_tbl ∧ Cond.arrayOver (.object "StagePair$Shapes") ∈ lw_tbl := sorry
theorem ztb_obj : Cond.instanceMethod objectInit ∈ lw_tbl ∧ Cond.code objectInit ⟨#[0xb1]⟩ 1 none ∈ lw_tbl ∧ Cond.native arraycopyName ∈ lw_tbl ∧ Cond.static arraycopyName ∈ lw_tbl ∧ Cond.initialized "java/lang/System" ∈ lw_tbl := sorry
