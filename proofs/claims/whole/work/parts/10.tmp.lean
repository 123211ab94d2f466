theorem zh_all : ∀ q ∈ zPr, zchk q.1 q.2 (zblk q.1 q.2) = true := sorry
theorem zmf_all : ∀ m, m < 307 → zmf m = true := sorry
theorem zcode_all : ∀ m, m < 307 → Cond.code (zy m) (zcc m) (zml m) (zre m) ∈ lw_tbl := sorry
theorem zcl_inst : ∀ q ∈ zcl, Cond.instantiable q.1 q.2.2 ∈ lw_tbl ∧ Cond.initialized q.1 ∈ lw_tbl := sorry
theorem ztb_arr : Cond.arrayClass .int ∈ lw_tbl ∧ Cond.arrayClass .byte ∈ lw_tbl ∧ Cond.arrayClass .boolean ∈ lw_tbl ∧ Cond.arrayClass .long ∈ lw_tbl ∧ Cond.arrayOver (.object "StagePair$Shapes") ∈ lw_tbl := sorry
theorem ztb_obj : Cond.instanceMethod objectInit ∈ lw_tbl ∧ Cond.code objectInit ⟨#[0xb1]⟩ 1 none ∈ lw_tbl ∧ Cond.native arraycopyName ∈ lw_tbl ∧ Cond.static arraycopyName ∈ lw_tbl ∧ Cond.initialized "java/lang/System" ∈ lw_tbl := sorry
theorem ztb_math : Cond.static Lib.Math.max.name ∈ lw_tbl ∧ Cond.static Lib.Math.min.name ∈ lw_tbl ∧ Cond.static Lib.MathLoose.min_long.x ∈ lw_tbl ∧ Cond.initialized "java/lang/Math" ∈ lw_tbl ∧ Cond.code Lib.Math.max.name Lib.Math.max.code 2 (some .int) ∈ lw_tbl ∧ Cond.code Lib.Math.min.name Lib.Math.min.code 2 (some .int) ∈ lw_tbl ∧ Cond.code Lib.MathLoose.min_long.x Lib.MathLoose.min_long.code 4 (some .long) ∈ lw_tbl := sorry
