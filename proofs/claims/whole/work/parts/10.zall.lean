theorem zh_all : ∀ q ∈ zPr, zchk q.1 q.2 (zblk q.1 q.2) = true := fun q h => (List.mem_append.mp h).elim (zh_0 q) (fun h => (List.mem_append.mp h).elim (zh_1 q) (fun h => (List.mem_append.mp h).elim (zh_2 q) (fun h => (List.mem_append.mp h).elim (zh_3 q) (fun h => (List.mem_append.mp h).elim (zh_4 q) (fun h => (List.mem_append.mp h).elim (zh_5 q) (fun h => (List.mem_append.mp h).elim (zh_6 q) (fun h => (List.mem_append.mp h).elim (zh_7 q) (fun h => (List.mem_append.mp h).elim (zh_8 q) (fun h => (List.mem_append.mp h).elim (zh_9 q) (fun h => (List.mem_append.mp h).elim (zh_10 q) (fun h => (List.mem_append.mp h).elim (zh_11 q) (fun h => (List.mem_append.mp h).elim (zh_12 q) (fun h => (List.mem_append.mp h).elim (zh_13 q) (fun h => (List.mem_append.mp h).elim (zh_14 q) (fun h => (List.mem_append.mp h).elim (zh_15 q) (fun h => (List.mem_append.mp h).elim (zh_16 q) (fun h => (List.mem_append.mp h).elim (zh_17 q) (fun h => (List.mem_append.mp h).elim (zh_18 q) (fun h => (List.mem_append.mp h).elim (zh_19 q) (fun h => (List.mem_append.mp h).elim (zh_20 q) (fun h => (List.mem_append.mp h).elim (zh_21 q) (fun h => (List.mem_append.mp h).elim (zh_22 q) (fun h => (List.mem_append.mp h).elim (zh_23 q) (fun h => (List.mem_append.mp h).elim (zh_24 q) (fun h => (List.mem_append.mp h).elim (zh_25 q) (fun h => (List.mem_append.mp h).elim (zh_26 q) (fun h => (List.mem_append.mp h).elim (zh_27 q) (fun h => (List.mem_append.mp h).elim (zh_28 q) (fun h => (List.mem_append.mp h).elim (zh_29 q) (fun h => (List.mem_append.mp h).elim (zh_30 q) (fun h => (List.mem_append.mp h).elim (zh_31 q) (fun h => (List.mem_append.mp h).elim (zh_32 q) (fun h => (List.mem_append.mp h).elim (zh_33 q) (fun h => (List.mem_append.mp h).elim (zh_34 q) (fun h => (List.mem_append.mp h).elim (zh_35 q) (fun h => (List.mem_append.mp h).elim (zh_36 q) (fun h => (List.mem_append.mp h).elim (zh_37 q) (fun h => (List.mem_append.mp h).elim (zh_38 q) (fun h => (List.mem_append.mp h).elim (zh_39 q) (fun h => (List.mem_append.mp h).elim (zh_40 q) (fun h => (List.mem_append.mp h).elim (zh_41 q) (fun h => (List.mem_append.mp h).elim (zh_42 q) (fun h => (List.mem_append.mp h).elim (zh_43 q) (fun h => (List.mem_append.mp h).elim (zh_44 q) (fun h => (List.mem_append.mp h).elim (zh_45 q) (fun h => (List.mem_append.mp h).elim (zh_46 q) (fun h => (List.mem_append.mp h).elim (zh_47 q) (fun h => (List.mem_append.mp h).elim (zh_48 q) (fun h => zh_49 q h)))))))))))))))))))))))))))))))))))))))))))))))))
set_option maxRecDepth 1000000 in
theorem zmf_0 : ∀ m, m < 31 → 0 ≤ m → zmf m = true := by
  have h : ∀ m ∈ List.range' 0 31, zmf m = true := by decide +kernel
  intro m h1 h2
  exact h m (List.mem_range'_1.mpr (by omega))
set_option maxRecDepth 1000000 in
theorem zmf_31 : ∀ m, m < 62 → 31 ≤ m → zmf m = true := by
  have h : ∀ m ∈ List.range' 31 31, zmf m = true := by decide +kernel
  intro m h1 h2
  exact h m (List.mem_range'_1.mpr (by omega))
set_option maxRecDepth 1000000 in
theorem zmf_62 : ∀ m, m < 93 → 62 ≤ m → zmf m = true := by
  have h : ∀ m ∈ List.range' 62 31, zmf m = true := by decide +kernel
  intro m h1 h2
  exact h m (List.mem_range'_1.mpr (by omega))
set_option maxRecDepth 1000000 in
theorem zmf_93 : ∀ m, m < 124 → 93 ≤ m → zmf m = true := by
  have h : ∀ m ∈ List.range' 93 31, zmf m = true := by decide +kernel
  intro m h1 h2
  exact h m (List.mem_range'_1.mpr (by omega))
set_option maxRecDepth 1000000 in
theorem zmf_124 : ∀ m, m < 155 → 124 ≤ m → zmf m = true := by
  have h : ∀ m ∈ List.range' 124 31, zmf m = true := by decide +kernel
  intro m h1 h2
  exact h m (List.mem_range'_1.mpr (by omega))
set_option maxRecDepth 1000000 in
theorem zmf_155 : ∀ m, m < 186 → 155 ≤ m → zmf m = true := by
  have h : ∀ m ∈ List.range' 155 31, zmf m = true := by decide +kernel
  intro m h1 h2
  exact h m (List.mem_range'_1.mpr (by omega))
set_option maxRecDepth 1000000 in
theorem zmf_186 : ∀ m, m < 217 → 186 ≤ m → zmf m = true := by
  have h : ∀ m ∈ List.range' 186 31, zmf m = true := by decide +kernel
  intro m h1 h2
  exact h m (List.mem_range'_1.mpr (by omega))
set_option maxRecDepth 1000000 in
theorem zmf_217 : ∀ m, m < 248 → 217 ≤ m → zmf m = true := by
  have h : ∀ m ∈ List.range' 217 31, zmf m = true := by decide +kernel
  intro m h1 h2
  exact h m (List.mem_range'_1.mpr (by omega))
set_option maxRecDepth 1000000 in
theorem zmf_248 : ∀ m, m < 279 → 248 ≤ m → zmf m = true := by
  have h : ∀ m ∈ List.range' 248 31, zmf m = true := by decide +kernel
  intro m h1 h2
  exact h m (List.mem_range'_1.mpr (by omega))
set_option maxRecDepth 1000000 in
theorem zmf_279 : ∀ m, m < 307 → 279 ≤ m → zmf m = true := by
  have h : ∀ m ∈ List.range' 279 28, zmf m = true := by decide +kernel
  intro m h1 h2
  exact h m (List.mem_range'_1.mpr (by omega))
theorem zmf_all : ∀ m, m < 307 → zmf m = true := by
  intro m h
  by_cases h0 : m < 31
  · exact zmf_0 m h0 (by omega)
  by_cases h31 : m < 62
  · exact zmf_31 m h31 (by omega)
  by_cases h62 : m < 93
  · exact zmf_62 m h62 (by omega)
  by_cases h93 : m < 124
  · exact zmf_93 m h93 (by omega)
  by_cases h124 : m < 155
  · exact zmf_124 m h124 (by omega)
  by_cases h155 : m < 186
  · exact zmf_155 m h155 (by omega)
  by_cases h186 : m < 217
  · exact zmf_186 m h186 (by omega)
  by_cases h217 : m < 248
  · exact zmf_217 m h217 (by omega)
  by_cases h248 : m < 279
  · exact zmf_248 m h248 (by omega)
  by_cases h279 : m < 307
  · exact zmf_279 m h279 (by omega)
  · omega
set_option maxRecDepth 1000000 in
theorem zcw_0 : lw_tbl[123]? = some (.code (zy 0) (zcc 0) (zml 0) (zre 0)) := rfl
set_option maxRecDepth 1000000 in
theorem zcw_1 : lw_tbl[131]? = some (.code (zy 1) (zcc 1) (zml 1) (zre 1)) := rfl
set_option maxRecDepth 1000000 in
theorem zcw_2 : lw_tbl[171]? = some (.code (zy 2) (zcc 2) (zml 2) (zre 2)) := rfl
set_option maxRecDepth 1000000 in
theorem zcw_3 : lw_tbl[175]? = some (.code (zy 3) (zcc 3) (zml 3) (zre 3)) := rfl
set_option maxRecDepth 1000000 in
theorem zcw_4 : lw_tbl[207]? = some (.code (zy 4) (zcc 4) (zml 4) (zre 4)) := rfl
set_option maxRecDepth 1000000 in
theorem zcw_5 : lw_tbl[255]? = some (.code (zy 5) (zcc 5) (zml 5) (zre 5)) := rfl
set_option maxRecDepth 1000000 in
theorem zcw_6 : lw_tbl[299]? = some (.code (zy 6) (zcc 6) (zml 6) (zre 6)) := rfl
set_option maxRecDepth 1000000 in
theorem zcw_7 : lw_tbl[306]? = some (.code (zy 7) (zcc 7) (zml 7) (zre 7)) := rfl
set_option maxRecDepth 1000000 in
theorem zcw_8 : lw_tbl[314]? = some (.code (zy 8) (zcc 8) (zml 8) (zre 8)) := rfl
set_option maxRecDepth 1000000 in
theorem zcw_9 : lw_tbl[379]? = some (.code (zy 9) (zcc 9) (zml 9) (zre 9)) := rfl
set_option maxRecDepth 1000000 in
theorem zcw_10 : lw_tbl[419]? = some (.code (zy 10) (zcc 10) (zml 10) (zre 10)) := rfl
set_option maxRecDepth 1000000 in
theorem zcw_11 : lw_tbl[453]? = some (.code (zy 11) (zcc 11) (zml 11) (zre 11)) := rfl
set_option maxRecDepth 1000000 in
theorem zcw_12 : lw_tbl[487]? = some (.code (zy 12) (zcc 12) (zml 12) (zre 12)) := rfl
set_option maxRecDepth 1000000 in
theorem zcw_13 : lw_tbl[591]? = some (.code (zy 13) (zcc 13) (zml 13) (zre 13)) := rfl
set_option maxRecDepth 1000000 in
theorem zcw_14 : lw_tbl[595]? = some (.code (zy 14) (zcc 14) (zml 14) (zre 14)) := rfl
set_option maxRecDepth 1000000 in
theorem zcw_15 : lw_tbl[599]? = some (.code (zy 15) (zcc 15) (zml 15) (zre 15)) := rfl
set_option maxRecDepth 1000000 in
theorem zcw_16 : lw_tbl[603]? = some (.code (zy 16) (zcc 16) (zml 16) (zre 16)) := rfl
set_option maxRecDepth 1000000 in
theorem zcw_17 : lw_tbl[607]? = some (.code (zy 17) (zcc 17) (zml 17) (zre 17)) := rfl
set_option maxRecDepth 1000000 in
theorem zcw_18 : lw_tbl[611]? = some (.code (zy 18) (zcc 18) (zml 18) (zre 18)) := rfl
set_option maxRecDepth 1000000 in
theorem zcw_19 : lw_tbl[615]? = some (.code (zy 19) (zcc 19) (zml 19) (zre 19)) := rfl
set_option maxRecDepth 1000000 in
theorem zcw_20 : lw_tbl[619]? = some (.code (zy 20) (zcc 20) (zml 20) (zre 20)) := rfl
set_option maxRecDepth 1000000 in
theorem zcw_21 : lw_tbl[623]? = some (.code (zy 21) (zcc 21) (zml 21) (zre 21)) := rfl
set_option maxRecDepth 1000000 in
theorem zcw_22 : lw_tbl[627]? = some (.code (zy 22) (zcc 22) (zml 22) (zre 22)) := rfl
set_option maxRecDepth 1000000 in
theorem zcw_23 : lw_tbl[634]? = some (.code (zy 23) (zcc 23) (zml 23) (zre 23)) := rfl
set_option maxRecDepth 1000000 in
theorem zcw_24 : lw_tbl[638]? = some (.code (zy 24) (zcc 24) (zml 24) (zre 24)) := rfl
set_option maxRecDepth 1000000 in
theorem zcw_25 : lw_tbl[642]? = some (.code (zy 25) (zcc 25) (zml 25) (zre 25)) := rfl
set_option maxRecDepth 1000000 in
theorem zcw_26 : lw_tbl[646]? = some (.code (zy 26) (zcc 26) (zml 26) (zre 26)) := rfl
set_option maxRecDepth 1000000 in
theorem zcw_27 : lw_tbl[650]? = some (.code (zy 27) (zcc 27) (zml 27) (zre 27)) := rfl
set_option maxRecDepth 1000000 in
theorem zcw_28 : lw_tbl[653]? = some (.code (zy 28) (zcc 28) (zml 28) (zre 28)) := rfl
set_option maxRecDepth 1000000 in
theorem zcw_29 : lw_tbl[657]? = some (.code (zy 29) (zcc 29) (zml 29) (zre 29)) := rfl
set_option maxRecDepth 1000000 in
theorem zcw_30 : lw_tbl[661]? = some (.code (zy 30) (zcc 30) (zml 30) (zre 30)) := rfl
set_option maxRecDepth 1000000 in
theorem zcw_31 : lw_tbl[665]? = some (.code (zy 31) (zcc 31) (zml 31) (zre 31)) := rfl
set_option maxRecDepth 1000000 in
theorem zcw_32 : lw_tbl[669]? = some (.code (zy 32) (zcc 32) (zml 32) (zre 32)) := rfl
set_option maxRecDepth 1000000 in
theorem zcw_33 : lw_tbl[673]? = some (.code (zy 33) (zcc 33) (zml 33) (zre 33)) := rfl
set_option maxRecDepth 1000000 in
theorem zcw_34 : lw_tbl[677]? = some (.code (zy 34) (zcc 34) (zml 34) (zre 34)) := rfl
set_option maxRecDepth 1000000 in
theorem zcw_35 : lw_tbl[681]? = some (.code (zy 35) (zcc 35) (zml 35) (zre 35)) := rfl
set_option maxRecDepth 1000000 in
theorem zcw_36 : lw_tbl[685]? = some (.code (zy 36) (zcc 36) (zml 36) (zre 36)) := rfl
set_option maxRecDepth 1000000 in
theorem zcw_37 : lw_tbl[689]? = some (.code (zy 37) (zcc 37) (zml 37) (zre 37)) := rfl
set_option maxRecDepth 1000000 in
theorem zcw_38 : lw_tbl[693]? = some (.code (zy 38) (zcc 38) (zml 38) (zre 38)) := rfl
set_option maxRecDepth 1000000 in
theorem zcw_39 : lw_tbl[697]? = some (.code (zy 39) (zcc 39) (zml 39) (zre 39)) := rfl
set_option maxRecDepth 1000000 in
theorem zcw_40 : lw_tbl[701]? = some (.code (zy 40) (zcc 40) (zml 40) (zre 40)) := rfl
set_option maxRecDepth 1000000 in
theorem zcw_41 : lw_tbl[705]? = some (.code (zy 41) (zcc 41) (zml 41) (zre 41)) := rfl
set_option maxRecDepth 1000000 in
theorem zcw_42 : lw_tbl[709]? = some (.code (zy 42) (zcc 42) (zml 42) (zre 42)) := rfl
set_option maxRecDepth 1000000 in
theorem zcw_43 : lw_tbl[713]? = some (.code (zy 43) (zcc 43) (zml 43) (zre 43)) := rfl
set_option maxRecDepth 1000000 in
theorem zcw_44 : lw_tbl[717]? = some (.code (zy 44) (zcc 44) (zml 44) (zre 44)) := rfl
set_option maxRecDepth 1000000 in
theorem zcw_45 : lw_tbl[721]? = some (.code (zy 45) (zcc 45) (zml 45) (zre 45)) := rfl
set_option maxRecDepth 1000000 in
theorem zcw_46 : lw_tbl[725]? = some (.code (zy 46) (zcc 46) (zml 46) (zre 46)) := rfl
set_option maxRecDepth 1000000 in
theorem zcw_47 : lw_tbl[733]? = some (.code (zy 47) (zcc 47) (zml 47) (zre 47)) := rfl
set_option maxRecDepth 1000000 in
theorem zcw_48 : lw_tbl[738]? = some (.code (zy 48) (zcc 48) (zml 48) (zre 48)) := rfl
set_option maxRecDepth 1000000 in
theorem zcw_49 : lw_tbl[742]? = some (.code (zy 49) (zcc 49) (zml 49) (zre 49)) := rfl
set_option maxRecDepth 1000000 in
theorem zcw_50 : lw_tbl[746]? = some (.code (zy 50) (zcc 50) (zml 50) (zre 50)) := rfl
set_option maxRecDepth 1000000 in
theorem zcw_51 : lw_tbl[750]? = some (.code (zy 51) (zcc 51) (zml 51) (zre 51)) := rfl
set_option maxRecDepth 1000000 in
theorem zcw_52 : lw_tbl[754]? = some (.code (zy 52) (zcc 52) (zml 52) (zre 52)) := rfl
set_option maxRecDepth 1000000 in
theorem zcw_53 : lw_tbl[758]? = some (.code (zy 53) (zcc 53) (zml 53) (zre 53)) := rfl
set_option maxRecDepth 1000000 in
theorem zcw_54 : lw_tbl[762]? = some (.code (zy 54) (zcc 54) (zml 54) (zre 54)) := rfl
set_option maxRecDepth 1000000 in
theorem zcw_55 : lw_tbl[766]? = some (.code (zy 55) (zcc 55) (zml 55) (zre 55)) := rfl
set_option maxRecDepth 1000000 in
theorem zcw_56 : lw_tbl[770]? = some (.code (zy 56) (zcc 56) (zml 56) (zre 56)) := rfl
set_option maxRecDepth 1000000 in
theorem zcw_57 : lw_tbl[774]? = some (.code (zy 57) (zcc 57) (zml 57) (zre 57)) := rfl
set_option maxRecDepth 1000000 in
theorem zcw_58 : lw_tbl[778]? = some (.code (zy 58) (zcc 58) (zml 58) (zre 58)) := rfl
set_option maxRecDepth 1000000 in
theorem zcw_59 : lw_tbl[782]? = some (.code (zy 59) (zcc 59) (zml 59) (zre 59)) := rfl
set_option maxRecDepth 1000000 in
theorem zcw_60 : lw_tbl[786]? = some (.code (zy 60) (zcc 60) (zml 60) (zre 60)) := rfl
set_option maxRecDepth 1000000 in
theorem zcw_61 : lw_tbl[790]? = some (.code (zy 61) (zcc 61) (zml 61) (zre 61)) := rfl
set_option maxRecDepth 1000000 in
theorem zcw_62 : lw_tbl[794]? = some (.code (zy 62) (zcc 62) (zml 62) (zre 62)) := rfl
set_option maxRecDepth 1000000 in
theorem zcw_63 : lw_tbl[797]? = some (.code (zy 63) (zcc 63) (zml 63) (zre 63)) := rfl
set_option maxRecDepth 1000000 in
theorem zcw_64 : lw_tbl[800]? = some (.code (zy 64) (zcc 64) (zml 64) (zre 64)) := rfl
set_option maxRecDepth 1000000 in
theorem zcw_65 : lw_tbl[804]? = some (.code (zy 65) (zcc 65) (zml 65) (zre 65)) := rfl
set_option maxRecDepth 1000000 in
theorem zcw_66 : lw_tbl[807]? = some (.code (zy 66) (zcc 66) (zml 66) (zre 66)) := rfl
set_option maxRecDepth 1000000 in
theorem zcw_67 : lw_tbl[811]? = some (.code (zy 67) (zcc 67) (zml 67) (zre 67)) := rfl
set_option maxRecDepth 1000000 in
theorem zcw_68 : lw_tbl[817]? = some (.code (zy 68) (zcc 68) (zml 68) (zre 68)) := rfl
set_option maxRecDepth 1000000 in
theorem zcw_69 : lw_tbl[822]? = some (.code (zy 69) (zcc 69) (zml 69) (zre 69)) := rfl
set_option maxRecDepth 1000000 in
theorem zcw_70 : lw_tbl[826]? = some (.code (zy 70) (zcc 70) (zml 70) (zre 70)) := rfl
set_option maxRecDepth 1000000 in
theorem zcw_71 : lw_tbl[830]? = some (.code (zy 71) (zcc 71) (zml 71) (zre 71)) := rfl
set_option maxRecDepth 1000000 in
theorem zcw_72 : lw_tbl[834]? = some (.code (zy 72) (zcc 72) (zml 72) (zre 72)) := rfl
set_option maxRecDepth 1000000 in
theorem zcw_73 : lw_tbl[839]? = some (.code (zy 73) (zcc 73) (zml 73) (zre 73)) := rfl
set_option maxRecDepth 1000000 in
theorem zcw_74 : lw_tbl[843]? = some (.code (zy 74) (zcc 74) (zml 74) (zre 74)) := rfl
set_option maxRecDepth 1000000 in
theorem zcw_75 : lw_tbl[847]? = some (.code (zy 75) (zcc 75) (zml 75) (zre 75)) := rfl
set_option maxRecDepth 1000000 in
theorem zcw_76 : lw_tbl[851]? = some (.code (zy 76) (zcc 76) (zml 76) (zre 76)) := rfl
set_option maxRecDepth 1000000 in
theorem zcw_77 : lw_tbl[855]? = some (.code (zy 77) (zcc 77) (zml 77) (zre 77)) := rfl
set_option maxRecDepth 1000000 in
theorem zcw_78 : lw_tbl[859]? = some (.code (zy 78) (zcc 78) (zml 78) (zre 78)) := rfl
set_option maxRecDepth 1000000 in
theorem zcw_79 : lw_tbl[863]? = some (.code (zy 79) (zcc 79) (zml 79) (zre 79)) := rfl
set_option maxRecDepth 1000000 in
theorem zcw_80 : lw_tbl[867]? = some (.code (zy 80) (zcc 80) (zml 80) (zre 80)) := rfl
set_option maxRecDepth 1000000 in
theorem zcw_81 : lw_tbl[871]? = some (.code (zy 81) (zcc 81) (zml 81) (zre 81)) := rfl
set_option maxRecDepth 1000000 in
theorem zcw_82 : lw_tbl[875]? = some (.code (zy 82) (zcc 82) (zml 82) (zre 82)) := rfl
set_option maxRecDepth 1000000 in
theorem zcw_83 : lw_tbl[879]? = some (.code (zy 83) (zcc 83) (zml 83) (zre 83)) := rfl
set_option maxRecDepth 1000000 in
theorem zcw_84 : lw_tbl[883]? = some (.code (zy 84) (zcc 84) (zml 84) (zre 84)) := rfl
set_option maxRecDepth 1000000 in
theorem zcw_85 : lw_tbl[887]? = some (.code (zy 85) (zcc 85) (zml 85) (zre 85)) := rfl
set_option maxRecDepth 1000000 in
theorem zcw_86 : lw_tbl[891]? = some (.code (zy 86) (zcc 86) (zml 86) (zre 86)) := rfl
set_option maxRecDepth 1000000 in
theorem zcw_87 : lw_tbl[898]? = some (.code (zy 87) (zcc 87) (zml 87) (zre 87)) := rfl
set_option maxRecDepth 1000000 in
theorem zcw_88 : lw_tbl[902]? = some (.code (zy 88) (zcc 88) (zml 88) (zre 88)) := rfl
set_option maxRecDepth 1000000 in
theorem zcw_89 : lw_tbl[906]? = some (.code (zy 89) (zcc 89) (zml 89) (zre 89)) := rfl
set_option maxRecDepth 1000000 in
theorem zcw_90 : lw_tbl[910]? = some (.code (zy 90) (zcc 90) (zml 90) (zre 90)) := rfl
set_option maxRecDepth 1000000 in
theorem zcw_91 : lw_tbl[916]? = some (.code (zy 91) (zcc 91) (zml 91) (zre 91)) := rfl
set_option maxRecDepth 1000000 in
theorem zcw_92 : lw_tbl[920]? = some (.code (zy 92) (zcc 92) (zml 92) (zre 92)) := rfl
set_option maxRecDepth 1000000 in
theorem zcw_93 : lw_tbl[924]? = some (.code (zy 93) (zcc 93) (zml 93) (zre 93)) := rfl
set_option maxRecDepth 1000000 in
theorem zcw_94 : lw_tbl[928]? = some (.code (zy 94) (zcc 94) (zml 94) (zre 94)) := rfl
set_option maxRecDepth 1000000 in
theorem zcw_95 : lw_tbl[931]? = some (.code (zy 95) (zcc 95) (zml 95) (zre 95)) := rfl
set_option maxRecDepth 1000000 in
theorem zcw_96 : lw_tbl[935]? = some (.code (zy 96) (zcc 96) (zml 96) (zre 96)) := rfl
set_option maxRecDepth 1000000 in
theorem zcw_97 : lw_tbl[939]? = some (.code (zy 97) (zcc 97) (zml 97) (zre 97)) := rfl
set_option maxRecDepth 1000000 in
theorem zcw_98 : lw_tbl[944]? = some (.code (zy 98) (zcc 98) (zml 98) (zre 98)) := rfl
set_option maxRecDepth 1000000 in
theorem zcw_99 : lw_tbl[948]? = some (.code (zy 99) (zcc 99) (zml 99) (zre 99)) := rfl
set_option maxRecDepth 1000000 in
theorem zcw_100 : lw_tbl[952]? = some (.code (zy 100) (zcc 100) (zml 100) (zre 100)) := rfl
set_option maxRecDepth 1000000 in
theorem zcw_101 : lw_tbl[956]? = some (.code (zy 101) (zcc 101) (zml 101) (zre 101)) := rfl
set_option maxRecDepth 1000000 in
theorem zcw_102 : lw_tbl[960]? = some (.code (zy 102) (zcc 102) (zml 102) (zre 102)) := rfl
set_option maxRecDepth 1000000 in
theorem zcw_103 : lw_tbl[964]? = some (.code (zy 103) (zcc 103) (zml 103) (zre 103)) := rfl
set_option maxRecDepth 1000000 in
theorem zcw_104 : lw_tbl[968]? = some (.code (zy 104) (zcc 104) (zml 104) (zre 104)) := rfl
set_option maxRecDepth 1000000 in
theorem zcw_105 : lw_tbl[972]? = some (.code (zy 105) (zcc 105) (zml 105) (zre 105)) := rfl
set_option maxRecDepth 1000000 in
theorem zcw_106 : lw_tbl[978]? = some (.code (zy 106) (zcc 106) (zml 106) (zre 106)) := rfl
set_option maxRecDepth 1000000 in
theorem zcw_107 : lw_tbl[982]? = some (.code (zy 107) (zcc 107) (zml 107) (zre 107)) := rfl
set_option maxRecDepth 1000000 in
theorem zcw_108 : lw_tbl[988]? = some (.code (zy 108) (zcc 108) (zml 108) (zre 108)) := rfl
set_option maxRecDepth 1000000 in
theorem zcw_109 : lw_tbl[992]? = some (.code (zy 109) (zcc 109) (zml 109) (zre 109)) := rfl
set_option maxRecDepth 1000000 in
theorem zcw_110 : lw_tbl[997]? = some (.code (zy 110) (zcc 110) (zml 110) (zre 110)) := rfl
set_option maxRecDepth 1000000 in
theorem zcw_111 : lw_tbl[1001]? = some (.code (zy 111) (zcc 111) (zml 111) (zre 111)) := rfl
set_option maxRecDepth 1000000 in
theorem zcw_112 : lw_tbl[1006]? = some (.code (zy 112) (zcc 112) (zml 112) (zre 112)) := rfl
set_option maxRecDepth 1000000 in
theorem zcw_113 : lw_tbl[1010]? = some (.code (zy 113) (zcc 113) (zml 113) (zre 113)) := rfl
set_option maxRecDepth 1000000 in
theorem zcw_114 : lw_tbl[1014]? = some (.code (zy 114) (zcc 114) (zml 114) (zre 114)) := rfl
set_option maxRecDepth 1000000 in
theorem zcw_115 : lw_tbl[1018]? = some (.code (zy 115) (zcc 115) (zml 115) (zre 115)) := rfl
set_option maxRecDepth 1000000 in
theorem zcw_116 : lw_tbl[1022]? = some (.code (zy 116) (zcc 116) (zml 116) (zre 116)) := rfl
set_option maxRecDepth 1000000 in
theorem zcw_117 : lw_tbl[1026]? = some (.code (zy 117) (zcc 117) (zml 117) (zre 117)) := rfl
set_option maxRecDepth 1000000 in
theorem zcw_118 : lw_tbl[1030]? = some (.code (zy 118) (zcc 118) (zml 118) (zre 118)) := rfl
set_option maxRecDepth 1000000 in
theorem zcw_119 : lw_tbl[1034]? = some (.code (zy 119) (zcc 119) (zml 119) (zre 119)) := rfl
set_option maxRecDepth 1000000 in
theorem zcw_120 : lw_tbl[1039]? = some (.code (zy 120) (zcc 120) (zml 120) (zre 120)) := rfl
set_option maxRecDepth 1000000 in
theorem zcw_121 : lw_tbl[1043]? = some (.code (zy 121) (zcc 121) (zml 121) (zre 121)) := rfl
set_option maxRecDepth 1000000 in
theorem zcw_122 : lw_tbl[1047]? = some (.code (zy 122) (zcc 122) (zml 122) (zre 122)) := rfl
set_option maxRecDepth 1000000 in
theorem zcw_123 : lw_tbl[1051]? = some (.code (zy 123) (zcc 123) (zml 123) (zre 123)) := rfl
set_option maxRecDepth 1000000 in
theorem zcw_124 : lw_tbl[1055]? = some (.code (zy 124) (zcc 124) (zml 124) (zre 124)) := rfl
set_option maxRecDepth 1000000 in
theorem zcw_125 : lw_tbl[1060]? = some (.code (zy 125) (zcc 125) (zml 125) (zre 125)) := rfl
set_option maxRecDepth 1000000 in
theorem zcw_126 : lw_tbl[1064]? = some (.code (zy 126) (zcc 126) (zml 126) (zre 126)) := rfl
set_option maxRecDepth 1000000 in
theorem zcw_127 : lw_tbl[1068]? = some (.code (zy 127) (zcc 127) (zml 127) (zre 127)) := rfl
set_option maxRecDepth 1000000 in
theorem zcw_128 : lw_tbl[1073]? = some (.code (zy 128) (zcc 128) (zml 128) (zre 128)) := rfl
set_option maxRecDepth 1000000 in
theorem zcw_129 : lw_tbl[1077]? = some (.code (zy 129) (zcc 129) (zml 129) (zre 129)) := rfl
set_option maxRecDepth 1000000 in
theorem zcw_130 : lw_tbl[1080]? = some (.code (zy 130) (zcc 130) (zml 130) (zre 130)) := rfl
set_option maxRecDepth 1000000 in
theorem zcw_131 : lw_tbl[1084]? = some (.code (zy 131) (zcc 131) (zml 131) (zre 131)) := rfl
set_option maxRecDepth 1000000 in
theorem zcw_132 : lw_tbl[1089]? = some (.code (zy 132) (zcc 132) (zml 132) (zre 132)) := rfl
set_option maxRecDepth 1000000 in
theorem zcw_133 : lw_tbl[1093]? = some (.code (zy 133) (zcc 133) (zml 133) (zre 133)) := rfl
set_option maxRecDepth 1000000 in
theorem zcw_134 : lw_tbl[1096]? = some (.code (zy 134) (zcc 134) (zml 134) (zre 134)) := rfl
set_option maxRecDepth 1000000 in
theorem zcw_135 : lw_tbl[1104]? = some (.code (zy 135) (zcc 135) (zml 135) (zre 135)) := rfl
set_option maxRecDepth 1000000 in
theorem zcw_136 : lw_tbl[1110]? = some (.code (zy 136) (zcc 136) (zml 136) (zre 136)) := rfl
set_option maxRecDepth 1000000 in
theorem zcw_137 : lw_tbl[1115]? = some (.code (zy 137) (zcc 137) (zml 137) (zre 137)) := rfl
set_option maxRecDepth 1000000 in
theorem zcw_138 : lw_tbl[1144]? = some (.code (zy 138) (zcc 138) (zml 138) (zre 138)) := rfl
set_option maxRecDepth 1000000 in
theorem zcw_139 : lw_tbl[1151]? = some (.code (zy 139) (zcc 139) (zml 139) (zre 139)) := rfl
set_option maxRecDepth 1000000 in
theorem zcw_140 : lw_tbl[1155]? = some (.code (zy 140) (zcc 140) (zml 140) (zre 140)) := rfl
set_option maxRecDepth 1000000 in
theorem zcw_141 : lw_tbl[1160]? = some (.code (zy 141) (zcc 141) (zml 141) (zre 141)) := rfl
set_option maxRecDepth 1000000 in
theorem zcw_142 : lw_tbl[1164]? = some (.code (zy 142) (zcc 142) (zml 142) (zre 142)) := rfl
set_option maxRecDepth 1000000 in
theorem zcw_143 : lw_tbl[1168]? = some (.code (zy 143) (zcc 143) (zml 143) (zre 143)) := rfl
set_option maxRecDepth 1000000 in
theorem zcw_144 : lw_tbl[1173]? = some (.code (zy 144) (zcc 144) (zml 144) (zre 144)) := rfl
set_option maxRecDepth 1000000 in
theorem zcw_145 : lw_tbl[1177]? = some (.code (zy 145) (zcc 145) (zml 145) (zre 145)) := rfl
set_option maxRecDepth 1000000 in
theorem zcw_146 : lw_tbl[1181]? = some (.code (zy 146) (zcc 146) (zml 146) (zre 146)) := rfl
set_option maxRecDepth 1000000 in
theorem zcw_147 : lw_tbl[1184]? = some (.code (zy 147) (zcc 147) (zml 147) (zre 147)) := rfl
set_option maxRecDepth 1000000 in
theorem zcw_148 : lw_tbl[1188]? = some (.code (zy 148) (zcc 148) (zml 148) (zre 148)) := rfl
set_option maxRecDepth 1000000 in
theorem zcw_149 : lw_tbl[1192]? = some (.code (zy 149) (zcc 149) (zml 149) (zre 149)) := rfl
set_option maxRecDepth 1000000 in
theorem zcw_150 : lw_tbl[1196]? = some (.code (zy 150) (zcc 150) (zml 150) (zre 150)) := rfl
set_option maxRecDepth 1000000 in
theorem zcw_151 : lw_tbl[1201]? = some (.code (zy 151) (zcc 151) (zml 151) (zre 151)) := rfl
set_option maxRecDepth 1000000 in
theorem zcw_152 : lw_tbl[1205]? = some (.code (zy 152) (zcc 152) (zml 152) (zre 152)) := rfl
set_option maxRecDepth 1000000 in
theorem zcw_153 : lw_tbl[1209]? = some (.code (zy 153) (zcc 153) (zml 153) (zre 153)) := rfl
set_option maxRecDepth 1000000 in
theorem zcw_154 : lw_tbl[1213]? = some (.code (zy 154) (zcc 154) (zml 154) (zre 154)) := rfl
set_option maxRecDepth 1000000 in
theorem zcw_155 : lw_tbl[1217]? = some (.code (zy 155) (zcc 155) (zml 155) (zre 155)) := rfl
set_option maxRecDepth 1000000 in
theorem zcw_156 : lw_tbl[1221]? = some (.code (zy 156) (zcc 156) (zml 156) (zre 156)) := rfl
set_option maxRecDepth 1000000 in
theorem zcw_157 : lw_tbl[1225]? = some (.code (zy 157) (zcc 157) (zml 157) (zre 157)) := rfl
set_option maxRecDepth 1000000 in
theorem zcw_158 : lw_tbl[1229]? = some (.code (zy 158) (zcc 158) (zml 158) (zre 158)) := rfl
set_option maxRecDepth 1000000 in
theorem zcw_159 : lw_tbl[1233]? = some (.code (zy 159) (zcc 159) (zml 159) (zre 159)) := rfl
set_option maxRecDepth 1000000 in
theorem zcw_160 : lw_tbl[1238]? = some (.code (zy 160) (zcc 160) (zml 160) (zre 160)) := rfl
set_option maxRecDepth 1000000 in
theorem zcw_161 : lw_tbl[1242]? = some (.code (zy 161) (zcc 161) (zml 161) (zre 161)) := rfl
set_option maxRecDepth 1000000 in
theorem zcw_162 : lw_tbl[1246]? = some (.code (zy 162) (zcc 162) (zml 162) (zre 162)) := rfl
set_option maxRecDepth 1000000 in
theorem zcw_163 : lw_tbl[1252]? = some (.code (zy 163) (zcc 163) (zml 163) (zre 163)) := rfl
set_option maxRecDepth 1000000 in
theorem zcw_164 : lw_tbl[1256]? = some (.code (zy 164) (zcc 164) (zml 164) (zre 164)) := rfl
set_option maxRecDepth 1000000 in
theorem zcw_165 : lw_tbl[1260]? = some (.code (zy 165) (zcc 165) (zml 165) (zre 165)) := rfl
set_option maxRecDepth 1000000 in
theorem zcw_166 : lw_tbl[1264]? = some (.code (zy 166) (zcc 166) (zml 166) (zre 166)) := rfl
set_option maxRecDepth 1000000 in
theorem zcw_167 : lw_tbl[1268]? = some (.code (zy 167) (zcc 167) (zml 167) (zre 167)) := rfl
set_option maxRecDepth 1000000 in
theorem zcw_168 : lw_tbl[1273]? = some (.code (zy 168) (zcc 168) (zml 168) (zre 168)) := rfl
set_option maxRecDepth 1000000 in
theorem zcw_169 : lw_tbl[1277]? = some (.code (zy 169) (zcc 169) (zml 169) (zre 169)) := rfl
set_option maxRecDepth 1000000 in
theorem zcw_170 : lw_tbl[1281]? = some (.code (zy 170) (zcc 170) (zml 170) (zre 170)) := rfl
set_option maxRecDepth 1000000 in
theorem zcw_171 : lw_tbl[1285]? = some (.code (zy 171) (zcc 171) (zml 171) (zre 171)) := rfl
set_option maxRecDepth 1000000 in
theorem zcw_172 : lw_tbl[1289]? = some (.code (zy 172) (zcc 172) (zml 172) (zre 172)) := rfl
set_option maxRecDepth 1000000 in
theorem zcw_173 : lw_tbl[1293]? = some (.code (zy 173) (zcc 173) (zml 173) (zre 173)) := rfl
set_option maxRecDepth 1000000 in
theorem zcw_174 : lw_tbl[1297]? = some (.code (zy 174) (zcc 174) (zml 174) (zre 174)) := rfl
set_option maxRecDepth 1000000 in
theorem zcw_175 : lw_tbl[1301]? = some (.code (zy 175) (zcc 175) (zml 175) (zre 175)) := rfl
set_option maxRecDepth 1000000 in
theorem zcw_176 : lw_tbl[1305]? = some (.code (zy 176) (zcc 176) (zml 176) (zre 176)) := rfl
set_option maxRecDepth 1000000 in
theorem zcw_177 : lw_tbl[1309]? = some (.code (zy 177) (zcc 177) (zml 177) (zre 177)) := rfl
set_option maxRecDepth 1000000 in
theorem zcw_178 : lw_tbl[1313]? = some (.code (zy 178) (zcc 178) (zml 178) (zre 178)) := rfl
set_option maxRecDepth 1000000 in
theorem zcw_179 : lw_tbl[1316]? = some (.code (zy 179) (zcc 179) (zml 179) (zre 179)) := rfl
set_option maxRecDepth 1000000 in
theorem zcw_180 : lw_tbl[1321]? = some (.code (zy 180) (zcc 180) (zml 180) (zre 180)) := rfl
set_option maxRecDepth 1000000 in
theorem zcw_181 : lw_tbl[1325]? = some (.code (zy 181) (zcc 181) (zml 181) (zre 181)) := rfl
set_option maxRecDepth 1000000 in
theorem zcw_182 : lw_tbl[1329]? = some (.code (zy 182) (zcc 182) (zml 182) (zre 182)) := rfl
set_option maxRecDepth 1000000 in
theorem zcw_183 : lw_tbl[1333]? = some (.code (zy 183) (zcc 183) (zml 183) (zre 183)) := rfl
set_option maxRecDepth 1000000 in
theorem zcw_184 : lw_tbl[1337]? = some (.code (zy 184) (zcc 184) (zml 184) (zre 184)) := rfl
set_option maxRecDepth 1000000 in
theorem zcw_185 : lw_tbl[1341]? = some (.code (zy 185) (zcc 185) (zml 185) (zre 185)) := rfl
set_option maxRecDepth 1000000 in
theorem zcw_186 : lw_tbl[1346]? = some (.code (zy 186) (zcc 186) (zml 186) (zre 186)) := rfl
set_option maxRecDepth 1000000 in
theorem zcw_187 : lw_tbl[1350]? = some (.code (zy 187) (zcc 187) (zml 187) (zre 187)) := rfl
set_option maxRecDepth 1000000 in
theorem zcw_188 : lw_tbl[1354]? = some (.code (zy 188) (zcc 188) (zml 188) (zre 188)) := rfl
set_option maxRecDepth 1000000 in
theorem zcw_189 : lw_tbl[1359]? = some (.code (zy 189) (zcc 189) (zml 189) (zre 189)) := rfl
set_option maxRecDepth 1000000 in
theorem zcw_190 : lw_tbl[1363]? = some (.code (zy 190) (zcc 190) (zml 190) (zre 190)) := rfl
set_option maxRecDepth 1000000 in
theorem zcw_191 : lw_tbl[1367]? = some (.code (zy 191) (zcc 191) (zml 191) (zre 191)) := rfl
set_option maxRecDepth 1000000 in
theorem zcw_192 : lw_tbl[1370]? = some (.code (zy 192) (zcc 192) (zml 192) (zre 192)) := rfl
set_option maxRecDepth 1000000 in
theorem zcw_193 : lw_tbl[1374]? = some (.code (zy 193) (zcc 193) (zml 193) (zre 193)) := rfl
set_option maxRecDepth 1000000 in
theorem zcw_194 : lw_tbl[1378]? = some (.code (zy 194) (zcc 194) (zml 194) (zre 194)) := rfl
set_option maxRecDepth 1000000 in
theorem zcw_195 : lw_tbl[1383]? = some (.code (zy 195) (zcc 195) (zml 195) (zre 195)) := rfl
set_option maxRecDepth 1000000 in
theorem zcw_196 : lw_tbl[1387]? = some (.code (zy 196) (zcc 196) (zml 196) (zre 196)) := rfl
set_option maxRecDepth 1000000 in
theorem zcw_197 : lw_tbl[1393]? = some (.code (zy 197) (zcc 197) (zml 197) (zre 197)) := rfl
set_option maxRecDepth 1000000 in
theorem zcw_198 : lw_tbl[1658]? = some (.code (zy 198) (zcc 198) (zml 198) (zre 198)) := rfl
set_option maxRecDepth 1000000 in
theorem zcw_199 : lw_tbl[1662]? = some (.code (zy 199) (zcc 199) (zml 199) (zre 199)) := rfl
set_option maxRecDepth 1000000 in
theorem zcw_200 : lw_tbl[1666]? = some (.code (zy 200) (zcc 200) (zml 200) (zre 200)) := rfl
set_option maxRecDepth 1000000 in
theorem zcw_201 : lw_tbl[1669]? = some (.code (zy 201) (zcc 201) (zml 201) (zre 201)) := rfl
set_option maxRecDepth 1000000 in
theorem zcw_202 : lw_tbl[1672]? = some (.code (zy 202) (zcc 202) (zml 202) (zre 202)) := rfl
set_option maxRecDepth 1000000 in
theorem zcw_203 : lw_tbl[1676]? = some (.code (zy 203) (zcc 203) (zml 203) (zre 203)) := rfl
set_option maxRecDepth 1000000 in
theorem zcw_204 : lw_tbl[1679]? = some (.code (zy 204) (zcc 204) (zml 204) (zre 204)) := rfl
set_option maxRecDepth 1000000 in
theorem zcw_205 : lw_tbl[1683]? = some (.code (zy 205) (zcc 205) (zml 205) (zre 205)) := rfl
set_option maxRecDepth 1000000 in
theorem zcw_206 : lw_tbl[1687]? = some (.code (zy 206) (zcc 206) (zml 206) (zre 206)) := rfl
set_option maxRecDepth 1000000 in
theorem zcw_207 : lw_tbl[1691]? = some (.code (zy 207) (zcc 207) (zml 207) (zre 207)) := rfl
set_option maxRecDepth 1000000 in
theorem zcw_208 : lw_tbl[1695]? = some (.code (zy 208) (zcc 208) (zml 208) (zre 208)) := rfl
set_option maxRecDepth 1000000 in
theorem zcw_209 : lw_tbl[1699]? = some (.code (zy 209) (zcc 209) (zml 209) (zre 209)) := rfl
set_option maxRecDepth 1000000 in
theorem zcw_210 : lw_tbl[1703]? = some (.code (zy 210) (zcc 210) (zml 210) (zre 210)) := rfl
set_option maxRecDepth 1000000 in
theorem zcw_211 : lw_tbl[1706]? = some (.code (zy 211) (zcc 211) (zml 211) (zre 211)) := rfl
set_option maxRecDepth 1000000 in
theorem zcw_212 : lw_tbl[1710]? = some (.code (zy 212) (zcc 212) (zml 212) (zre 212)) := rfl
set_option maxRecDepth 1000000 in
theorem zcw_213 : lw_tbl[1714]? = some (.code (zy 213) (zcc 213) (zml 213) (zre 213)) := rfl
set_option maxRecDepth 1000000 in
theorem zcw_214 : lw_tbl[1718]? = some (.code (zy 214) (zcc 214) (zml 214) (zre 214)) := rfl
set_option maxRecDepth 1000000 in
theorem zcw_215 : lw_tbl[1722]? = some (.code (zy 215) (zcc 215) (zml 215) (zre 215)) := rfl
set_option maxRecDepth 1000000 in
theorem zcw_216 : lw_tbl[1726]? = some (.code (zy 216) (zcc 216) (zml 216) (zre 216)) := rfl
set_option maxRecDepth 1000000 in
theorem zcw_217 : lw_tbl[1730]? = some (.code (zy 217) (zcc 217) (zml 217) (zre 217)) := rfl
set_option maxRecDepth 1000000 in
theorem zcw_218 : lw_tbl[1734]? = some (.code (zy 218) (zcc 218) (zml 218) (zre 218)) := rfl
set_option maxRecDepth 1000000 in
theorem zcw_219 : lw_tbl[1738]? = some (.code (zy 219) (zcc 219) (zml 219) (zre 219)) := rfl
set_option maxRecDepth 1000000 in
theorem zcw_220 : lw_tbl[1742]? = some (.code (zy 220) (zcc 220) (zml 220) (zre 220)) := rfl
set_option maxRecDepth 1000000 in
theorem zcw_221 : lw_tbl[1746]? = some (.code (zy 221) (zcc 221) (zml 221) (zre 221)) := rfl
set_option maxRecDepth 1000000 in
theorem zcw_222 : lw_tbl[1750]? = some (.code (zy 222) (zcc 222) (zml 222) (zre 222)) := rfl
set_option maxRecDepth 1000000 in
theorem zcw_223 : lw_tbl[1754]? = some (.code (zy 223) (zcc 223) (zml 223) (zre 223)) := rfl
set_option maxRecDepth 1000000 in
theorem zcw_224 : lw_tbl[1758]? = some (.code (zy 224) (zcc 224) (zml 224) (zre 224)) := rfl
set_option maxRecDepth 1000000 in
theorem zcw_225 : lw_tbl[1762]? = some (.code (zy 225) (zcc 225) (zml 225) (zre 225)) := rfl
set_option maxRecDepth 1000000 in
theorem zcw_226 : lw_tbl[1766]? = some (.code (zy 226) (zcc 226) (zml 226) (zre 226)) := rfl
set_option maxRecDepth 1000000 in
theorem zcw_227 : lw_tbl[1770]? = some (.code (zy 227) (zcc 227) (zml 227) (zre 227)) := rfl
set_option maxRecDepth 1000000 in
theorem zcw_228 : lw_tbl[1774]? = some (.code (zy 228) (zcc 228) (zml 228) (zre 228)) := rfl
set_option maxRecDepth 1000000 in
theorem zcw_229 : lw_tbl[1777]? = some (.code (zy 229) (zcc 229) (zml 229) (zre 229)) := rfl
set_option maxRecDepth 1000000 in
theorem zcw_230 : lw_tbl[1781]? = some (.code (zy 230) (zcc 230) (zml 230) (zre 230)) := rfl
set_option maxRecDepth 1000000 in
theorem zcw_231 : lw_tbl[1785]? = some (.code (zy 231) (zcc 231) (zml 231) (zre 231)) := rfl
set_option maxRecDepth 1000000 in
theorem zcw_232 : lw_tbl[1789]? = some (.code (zy 232) (zcc 232) (zml 232) (zre 232)) := rfl
set_option maxRecDepth 1000000 in
theorem zcw_233 : lw_tbl[1792]? = some (.code (zy 233) (zcc 233) (zml 233) (zre 233)) := rfl
set_option maxRecDepth 1000000 in
theorem zcw_234 : lw_tbl[1796]? = some (.code (zy 234) (zcc 234) (zml 234) (zre 234)) := rfl
set_option maxRecDepth 1000000 in
theorem zcw_235 : lw_tbl[1800]? = some (.code (zy 235) (zcc 235) (zml 235) (zre 235)) := rfl
set_option maxRecDepth 1000000 in
theorem zcw_236 : lw_tbl[1804]? = some (.code (zy 236) (zcc 236) (zml 236) (zre 236)) := rfl
set_option maxRecDepth 1000000 in
theorem zcw_237 : lw_tbl[1808]? = some (.code (zy 237) (zcc 237) (zml 237) (zre 237)) := rfl
set_option maxRecDepth 1000000 in
theorem zcw_238 : lw_tbl[1812]? = some (.code (zy 238) (zcc 238) (zml 238) (zre 238)) := rfl
set_option maxRecDepth 1000000 in
theorem zcw_239 : lw_tbl[1816]? = some (.code (zy 239) (zcc 239) (zml 239) (zre 239)) := rfl
set_option maxRecDepth 1000000 in
theorem zcw_240 : lw_tbl[1820]? = some (.code (zy 240) (zcc 240) (zml 240) (zre 240)) := rfl
set_option maxRecDepth 1000000 in
theorem zcw_241 : lw_tbl[1824]? = some (.code (zy 241) (zcc 241) (zml 241) (zre 241)) := rfl
set_option maxRecDepth 1000000 in
theorem zcw_242 : lw_tbl[1828]? = some (.code (zy 242) (zcc 242) (zml 242) (zre 242)) := rfl
set_option maxRecDepth 1000000 in
theorem zcw_243 : lw_tbl[1832]? = some (.code (zy 243) (zcc 243) (zml 243) (zre 243)) := rfl
set_option maxRecDepth 1000000 in
theorem zcw_244 : lw_tbl[1836]? = some (.code (zy 244) (zcc 244) (zml 244) (zre 244)) := rfl
set_option maxRecDepth 1000000 in
theorem zcw_245 : lw_tbl[1840]? = some (.code (zy 245) (zcc 245) (zml 245) (zre 245)) := rfl
set_option maxRecDepth 1000000 in
theorem zcw_246 : lw_tbl[1844]? = some (.code (zy 246) (zcc 246) (zml 246) (zre 246)) := rfl
set_option maxRecDepth 1000000 in
theorem zcw_247 : lw_tbl[1848]? = some (.code (zy 247) (zcc 247) (zml 247) (zre 247)) := rfl
set_option maxRecDepth 1000000 in
theorem zcw_248 : lw_tbl[1852]? = some (.code (zy 248) (zcc 248) (zml 248) (zre 248)) := rfl
set_option maxRecDepth 1000000 in
theorem zcw_249 : lw_tbl[1856]? = some (.code (zy 249) (zcc 249) (zml 249) (zre 249)) := rfl
set_option maxRecDepth 1000000 in
theorem zcw_250 : lw_tbl[1860]? = some (.code (zy 250) (zcc 250) (zml 250) (zre 250)) := rfl
set_option maxRecDepth 1000000 in
theorem zcw_251 : lw_tbl[1864]? = some (.code (zy 251) (zcc 251) (zml 251) (zre 251)) := rfl
set_option maxRecDepth 1000000 in
theorem zcw_252 : lw_tbl[1868]? = some (.code (zy 252) (zcc 252) (zml 252) (zre 252)) := rfl
set_option maxRecDepth 1000000 in
theorem zcw_253 : lw_tbl[1872]? = some (.code (zy 253) (zcc 253) (zml 253) (zre 253)) := rfl
set_option maxRecDepth 1000000 in
theorem zcw_254 : lw_tbl[1876]? = some (.code (zy 254) (zcc 254) (zml 254) (zre 254)) := rfl
set_option maxRecDepth 1000000 in
theorem zcw_255 : lw_tbl[1880]? = some (.code (zy 255) (zcc 255) (zml 255) (zre 255)) := rfl
set_option maxRecDepth 1000000 in
theorem zcw_256 : lw_tbl[1884]? = some (.code (zy 256) (zcc 256) (zml 256) (zre 256)) := rfl
set_option maxRecDepth 1000000 in
theorem zcw_257 : lw_tbl[1888]? = some (.code (zy 257) (zcc 257) (zml 257) (zre 257)) := rfl
set_option maxRecDepth 1000000 in
theorem zcw_258 : lw_tbl[1892]? = some (.code (zy 258) (zcc 258) (zml 258) (zre 258)) := rfl
set_option maxRecDepth 1000000 in
theorem zcw_259 : lw_tbl[1896]? = some (.code (zy 259) (zcc 259) (zml 259) (zre 259)) := rfl
set_option maxRecDepth 1000000 in
theorem zcw_260 : lw_tbl[1900]? = some (.code (zy 260) (zcc 260) (zml 260) (zre 260)) := rfl
set_option maxRecDepth 1000000 in
theorem zcw_261 : lw_tbl[1904]? = some (.code (zy 261) (zcc 261) (zml 261) (zre 261)) := rfl
set_option maxRecDepth 1000000 in
theorem zcw_262 : lw_tbl[1908]? = some (.code (zy 262) (zcc 262) (zml 262) (zre 262)) := rfl
set_option maxRecDepth 1000000 in
theorem zcw_263 : lw_tbl[1912]? = some (.code (zy 263) (zcc 263) (zml 263) (zre 263)) := rfl
set_option maxRecDepth 1000000 in
theorem zcw_264 : lw_tbl[1916]? = some (.code (zy 264) (zcc 264) (zml 264) (zre 264)) := rfl
set_option maxRecDepth 1000000 in
theorem zcw_265 : lw_tbl[1920]? = some (.code (zy 265) (zcc 265) (zml 265) (zre 265)) := rfl
set_option maxRecDepth 1000000 in
theorem zcw_266 : lw_tbl[1924]? = some (.code (zy 266) (zcc 266) (zml 266) (zre 266)) := rfl
set_option maxRecDepth 1000000 in
theorem zcw_267 : lw_tbl[1929]? = some (.code (zy 267) (zcc 267) (zml 267) (zre 267)) := rfl
set_option maxRecDepth 1000000 in
theorem zcw_268 : lw_tbl[1935]? = some (.code (zy 268) (zcc 268) (zml 268) (zre 268)) := rfl
set_option maxRecDepth 1000000 in
theorem zcw_269 : lw_tbl[1938]? = some (.code (zy 269) (zcc 269) (zml 269) (zre 269)) := rfl
set_option maxRecDepth 1000000 in
theorem zcw_270 : lw_tbl[1942]? = some (.code (zy 270) (zcc 270) (zml 270) (zre 270)) := rfl
set_option maxRecDepth 1000000 in
theorem zcw_271 : lw_tbl[1946]? = some (.code (zy 271) (zcc 271) (zml 271) (zre 271)) := rfl
set_option maxRecDepth 1000000 in
theorem zcw_272 : lw_tbl[1950]? = some (.code (zy 272) (zcc 272) (zml 272) (zre 272)) := rfl
set_option maxRecDepth 1000000 in
theorem zcw_273 : lw_tbl[1954]? = some (.code (zy 273) (zcc 273) (zml 273) (zre 273)) := rfl
set_option maxRecDepth 1000000 in
theorem zcw_274 : lw_tbl[1958]? = some (.code (zy 274) (zcc 274) (zml 274) (zre 274)) := rfl
set_option maxRecDepth 1000000 in
theorem zcw_275 : lw_tbl[1962]? = some (.code (zy 275) (zcc 275) (zml 275) (zre 275)) := rfl
set_option maxRecDepth 1000000 in
theorem zcw_276 : lw_tbl[1966]? = some (.code (zy 276) (zcc 276) (zml 276) (zre 276)) := rfl
set_option maxRecDepth 1000000 in
theorem zcw_277 : lw_tbl[1970]? = some (.code (zy 277) (zcc 277) (zml 277) (zre 277)) := rfl
set_option maxRecDepth 1000000 in
theorem zcw_278 : lw_tbl[1974]? = some (.code (zy 278) (zcc 278) (zml 278) (zre 278)) := rfl
set_option maxRecDepth 1000000 in
theorem zcw_279 : lw_tbl[1978]? = some (.code (zy 279) (zcc 279) (zml 279) (zre 279)) := rfl
set_option maxRecDepth 1000000 in
theorem zcw_280 : lw_tbl[1982]? = some (.code (zy 280) (zcc 280) (zml 280) (zre 280)) := rfl
set_option maxRecDepth 1000000 in
theorem zcw_281 : lw_tbl[1986]? = some (.code (zy 281) (zcc 281) (zml 281) (zre 281)) := rfl
set_option maxRecDepth 1000000 in
theorem zcw_282 : lw_tbl[1990]? = some (.code (zy 282) (zcc 282) (zml 282) (zre 282)) := rfl
set_option maxRecDepth 1000000 in
theorem zcw_283 : lw_tbl[1994]? = some (.code (zy 283) (zcc 283) (zml 283) (zre 283)) := rfl
set_option maxRecDepth 1000000 in
theorem zcw_284 : lw_tbl[1998]? = some (.code (zy 284) (zcc 284) (zml 284) (zre 284)) := rfl
set_option maxRecDepth 1000000 in
theorem zcw_285 : lw_tbl[2002]? = some (.code (zy 285) (zcc 285) (zml 285) (zre 285)) := rfl
set_option maxRecDepth 1000000 in
theorem zcw_286 : lw_tbl[2006]? = some (.code (zy 286) (zcc 286) (zml 286) (zre 286)) := rfl
set_option maxRecDepth 1000000 in
theorem zcw_287 : lw_tbl[2010]? = some (.code (zy 287) (zcc 287) (zml 287) (zre 287)) := rfl
set_option maxRecDepth 1000000 in
theorem zcw_288 : lw_tbl[2014]? = some (.code (zy 288) (zcc 288) (zml 288) (zre 288)) := rfl
set_option maxRecDepth 1000000 in
theorem zcw_289 : lw_tbl[2018]? = some (.code (zy 289) (zcc 289) (zml 289) (zre 289)) := rfl
set_option maxRecDepth 1000000 in
theorem zcw_290 : lw_tbl[2022]? = some (.code (zy 290) (zcc 290) (zml 290) (zre 290)) := rfl
set_option maxRecDepth 1000000 in
theorem zcw_291 : lw_tbl[2026]? = some (.code (zy 291) (zcc 291) (zml 291) (zre 291)) := rfl
set_option maxRecDepth 1000000 in
theorem zcw_292 : lw_tbl[2031]? = some (.code (zy 292) (zcc 292) (zml 292) (zre 292)) := rfl
set_option maxRecDepth 1000000 in
theorem zcw_293 : lw_tbl[2035]? = some (.code (zy 293) (zcc 293) (zml 293) (zre 293)) := rfl
set_option maxRecDepth 1000000 in
theorem zcw_294 : lw_tbl[2038]? = some (.code (zy 294) (zcc 294) (zml 294) (zre 294)) := rfl
set_option maxRecDepth 1000000 in
theorem zcw_295 : lw_tbl[2043]? = some (.code (zy 295) (zcc 295) (zml 295) (zre 295)) := rfl
set_option maxRecDepth 1000000 in
theorem zcw_296 : lw_tbl[2048]? = some (.code (zy 296) (zcc 296) (zml 296) (zre 296)) := rfl
set_option maxRecDepth 1000000 in
theorem zcw_297 : lw_tbl[2052]? = some (.code (zy 297) (zcc 297) (zml 297) (zre 297)) := rfl
set_option maxRecDepth 1000000 in
theorem zcw_298 : lw_tbl[2056]? = some (.code (zy 298) (zcc 298) (zml 298) (zre 298)) := rfl
set_option maxRecDepth 1000000 in
theorem zcw_299 : lw_tbl[2059]? = some (.code (zy 299) (zcc 299) (zml 299) (zre 299)) := rfl
set_option maxRecDepth 1000000 in
theorem zcw_300 : lw_tbl[2063]? = some (.code (zy 300) (zcc 300) (zml 300) (zre 300)) := rfl
set_option maxRecDepth 1000000 in
theorem zcw_301 : lw_tbl[2067]? = some (.code (zy 301) (zcc 301) (zml 301) (zre 301)) := rfl
set_option maxRecDepth 1000000 in
theorem zcw_302 : lw_tbl[2071]? = some (.code (zy 302) (zcc 302) (zml 302) (zre 302)) := rfl
set_option maxRecDepth 1000000 in
theorem zcw_303 : lw_tbl[2075]? = some (.code (zy 303) (zcc 303) (zml 303) (zre 303)) := rfl
set_option maxRecDepth 1000000 in
theorem zcw_304 : lw_tbl[2079]? = some (.code (zy 304) (zcc 304) (zml 304) (zre 304)) := rfl
set_option maxRecDepth 1000000 in
theorem zcw_305 : lw_tbl[2083]? = some (.code (zy 305) (zcc 305) (zml 305) (zre 305)) := rfl
set_option maxRecDepth 1000000 in
theorem zcw_306 : lw_tbl[2087]? = some (.code (zy 306) (zcc 306) (zml 306) (zre 306)) := rfl
def zCw_0 : List (Nat × Nat) := [(0, 123), (1, 131), (2, 171), (3, 175), (4, 207), (5, 255), (6, 299), (7, 306), (8, 314), (9, 379), (10, 419), (11, 453), (12, 487), (13, 591), (14, 595), (15, 599), (16, 603), (17, 607), (18, 611), (19, 615)]
theorem zCw_p0 : ∀ q ∈ zCw_0, lw_tbl[q.2]? = some (.code (zy q.1) (zcc q.1) (zml q.1) (zre q.1)) := List.forall_mem_cons.mpr ⟨zcw_0, List.forall_mem_cons.mpr ⟨zcw_1, List.forall_mem_cons.mpr ⟨zcw_2, List.forall_mem_cons.mpr ⟨zcw_3, List.forall_mem_cons.mpr ⟨zcw_4, List.forall_mem_cons.mpr ⟨zcw_5, List.forall_mem_cons.mpr ⟨zcw_6, List.forall_mem_cons.mpr ⟨zcw_7, List.forall_mem_cons.mpr ⟨zcw_8, List.forall_mem_cons.mpr ⟨zcw_9, List.forall_mem_cons.mpr ⟨zcw_10, List.forall_mem_cons.mpr ⟨zcw_11, List.forall_mem_cons.mpr ⟨zcw_12, List.forall_mem_cons.mpr ⟨zcw_13, List.forall_mem_cons.mpr ⟨zcw_14, List.forall_mem_cons.mpr ⟨zcw_15, List.forall_mem_cons.mpr ⟨zcw_16, List.forall_mem_cons.mpr ⟨zcw_17, List.forall_mem_cons.mpr ⟨zcw_18, List.forall_mem_cons.mpr ⟨zcw_19, fun _ h => absurd h List.not_mem_nil⟩⟩⟩⟩⟩⟩⟩⟩⟩⟩⟩⟩⟩⟩⟩⟩⟩⟩⟩⟩
def zCw_1 : List (Nat × Nat) := [(20, 619), (21, 623), (22, 627), (23, 634), (24, 638), (25, 642), (26, 646), (27, 650), (28, 653), (29, 657), (30, 661), (31, 665), (32, 669), (33, 673), (34, 677), (35, 681), (36, 685), (37, 689), (38, 693), (39, 697)]
theorem zCw_p1 : ∀ q ∈ zCw_1, lw_tbl[q.2]? = some (.code (zy q.1) (zcc q.1) (zml q.1) (zre q.1)) := List.forall_mem_cons.mpr ⟨zcw_20, List.forall_mem_cons.mpr ⟨zcw_21, List.forall_mem_cons.mpr ⟨zcw_22, List.forall_mem_cons.mpr ⟨zcw_23, List.forall_mem_cons.mpr ⟨zcw_24, List.forall_mem_cons.mpr ⟨zcw_25, List.forall_mem_cons.mpr ⟨zcw_26, List.forall_mem_cons.mpr ⟨zcw_27, List.forall_mem_cons.mpr ⟨zcw_28, List.forall_mem_cons.mpr ⟨zcw_29, List.forall_mem_cons.mpr ⟨zcw_30, List.forall_mem_cons.mpr ⟨zcw_31, List.forall_mem_cons.mpr ⟨zcw_32, List.forall_mem_cons.mpr ⟨zcw_33, List.forall_mem_cons.mpr ⟨zcw_34, List.forall_mem_cons.mpr ⟨zcw_35, List.forall_mem_cons.mpr ⟨zcw_36, List.forall_mem_cons.mpr ⟨zcw_37, List.forall_mem_cons.mpr ⟨zcw_38, List.forall_mem_cons.mpr ⟨zcw_39, fun _ h => absurd h List.not_mem_nil⟩⟩⟩⟩⟩⟩⟩⟩⟩⟩⟩⟩⟩⟩⟩⟩⟩⟩⟩⟩
def zCw_2 : List (Nat × Nat) := [(40, 701), (41, 705), (42, 709), (43, 713), (44, 717), (45, 721), (46, 725), (47, 733), (48, 738), (49, 742), (50, 746), (51, 750), (52, 754), (53, 758), (54, 762), (55, 766), (56, 770), (57, 774), (58, 778), (59, 782)]
theorem zCw_p2 : ∀ q ∈ zCw_2, lw_tbl[q.2]? = some (.code (zy q.1) (zcc q.1) (zml q.1) (zre q.1)) := List.forall_mem_cons.mpr ⟨zcw_40, List.forall_mem_cons.mpr ⟨zcw_41, List.forall_mem_cons.mpr ⟨zcw_42, List.forall_mem_cons.mpr ⟨zcw_43, List.forall_mem_cons.mpr ⟨zcw_44, List.forall_mem_cons.mpr ⟨zcw_45, List.forall_mem_cons.mpr ⟨zcw_46, List.forall_mem_cons.mpr ⟨zcw_47, List.forall_mem_cons.mpr ⟨zcw_48, List.forall_mem_cons.mpr ⟨zcw_49, List.forall_mem_cons.mpr ⟨zcw_50, List.forall_mem_cons.mpr ⟨zcw_51, List.forall_mem_cons.mpr ⟨zcw_52, List.forall_mem_cons.mpr ⟨zcw_53, List.forall_mem_cons.mpr ⟨zcw_54, List.forall_mem_cons.mpr ⟨zcw_55, List.forall_mem_cons.mpr ⟨zcw_56, List.forall_mem_cons.mpr ⟨zcw_57, List.forall_mem_cons.mpr ⟨zcw_58, List.forall_mem_cons.mpr ⟨zcw_59, fun _ h => absurd h List.not_mem_nil⟩⟩⟩⟩⟩⟩⟩⟩⟩⟩⟩⟩⟩⟩⟩⟩⟩⟩⟩⟩
def zCw_3 : List (Nat × Nat) := [(60, 786), (61, 790), (62, 794), (63, 797), (64, 800), (65, 804), (66, 807), (67, 811), (68, 817), (69, 822), (70, 826), (71, 830), (72, 834), (73, 839), (74, 843), (75, 847), (76, 851), (77, 855), (78, 859), (79, 863)]
theorem zCw_p3 : ∀ q ∈ zCw_3, lw_tbl[q.2]? = some (.code (zy q.1) (zcc q.1) (zml q.1) (zre q.1)) := List.forall_mem_cons.mpr ⟨zcw_60, List.forall_mem_cons.mpr ⟨zcw_61, List.forall_mem_cons.mpr ⟨zcw_62, List.forall_mem_cons.mpr ⟨zcw_63, List.forall_mem_cons.mpr ⟨zcw_64, List.forall_mem_cons.mpr ⟨zcw_65, List.forall_mem_cons.mpr ⟨zcw_66, List.forall_mem_cons.mpr ⟨zcw_67, List.forall_mem_cons.mpr ⟨zcw_68, List.forall_mem_cons.mpr ⟨zcw_69, List.forall_mem_cons.mpr ⟨zcw_70, List.forall_mem_cons.mpr ⟨zcw_71, List.forall_mem_cons.mpr ⟨zcw_72, List.forall_mem_cons.mpr ⟨zcw_73, List.forall_mem_cons.mpr ⟨zcw_74, List.forall_mem_cons.mpr ⟨zcw_75, List.forall_mem_cons.mpr ⟨zcw_76, List.forall_mem_cons.mpr ⟨zcw_77, List.forall_mem_cons.mpr ⟨zcw_78, List.forall_mem_cons.mpr ⟨zcw_79, fun _ h => absurd h List.not_mem_nil⟩⟩⟩⟩⟩⟩⟩⟩⟩⟩⟩⟩⟩⟩⟩⟩⟩⟩⟩⟩
def zCw_4 : List (Nat × Nat) := [(80, 867), (81, 871), (82, 875), (83, 879), (84, 883), (85, 887), (86, 891), (87, 898), (88, 902), (89, 906), (90, 910), (91, 916), (92, 920), (93, 924), (94, 928), (95, 931), (96, 935), (97, 939), (98, 944), (99, 948)]
theorem zCw_p4 : ∀ q ∈ zCw_4, lw_tbl[q.2]? = some (.code (zy q.1) (zcc q.1) (zml q.1) (zre q.1)) := List.forall_mem_cons.mpr ⟨zcw_80, List.forall_mem_cons.mpr ⟨zcw_81, List.forall_mem_cons.mpr ⟨zcw_82, List.forall_mem_cons.mpr ⟨zcw_83, List.forall_mem_cons.mpr ⟨zcw_84, List.forall_mem_cons.mpr ⟨zcw_85, List.forall_mem_cons.mpr ⟨zcw_86, List.forall_mem_cons.mpr ⟨zcw_87, List.forall_mem_cons.mpr ⟨zcw_88, List.forall_mem_cons.mpr ⟨zcw_89, List.forall_mem_cons.mpr ⟨zcw_90, List.forall_mem_cons.mpr ⟨zcw_91, List.forall_mem_cons.mpr ⟨zcw_92, List.forall_mem_cons.mpr ⟨zcw_93, List.forall_mem_cons.mpr ⟨zcw_94, List.forall_mem_cons.mpr ⟨zcw_95, List.forall_mem_cons.mpr ⟨zcw_96, List.forall_mem_cons.mpr ⟨zcw_97, List.forall_mem_cons.mpr ⟨zcw_98, List.forall_mem_cons.mpr ⟨zcw_99, fun _ h => absurd h List.not_mem_nil⟩⟩⟩⟩⟩⟩⟩⟩⟩⟩⟩⟩⟩⟩⟩⟩⟩⟩⟩⟩
def zCw_5 : List (Nat × Nat) := [(100, 952), (101, 956), (102, 960), (103, 964), (104, 968), (105, 972), (106, 978), (107, 982), (108, 988), (109, 992), (110, 997), (111, 1001), (112, 1006), (113, 1010), (114, 1014), (115, 1018), (116, 1022), (117, 1026), (118, 1030), (119, 1034)]
theorem zCw_p5 : ∀ q ∈ zCw_5, lw_tbl[q.2]? = some (.code (zy q.1) (zcc q.1) (zml q.1) (zre q.1)) := List.forall_mem_cons.mpr ⟨zcw_100, List.forall_mem_cons.mpr ⟨zcw_101, List.forall_mem_cons.mpr ⟨zcw_102, List.forall_mem_cons.mpr ⟨zcw_103, List.forall_mem_cons.mpr ⟨zcw_104, List.forall_mem_cons.mpr ⟨zcw_105, List.forall_mem_cons.mpr ⟨zcw_106, List.forall_mem_cons.mpr ⟨zcw_107, List.forall_mem_cons.mpr ⟨zcw_108, List.forall_mem_cons.mpr ⟨zcw_109, List.forall_mem_cons.mpr ⟨zcw_110, List.forall_mem_cons.mpr ⟨zcw_111, List.forall_mem_cons.mpr ⟨zcw_112, List.forall_mem_cons.mpr ⟨zcw_113, List.forall_mem_cons.mpr ⟨zcw_114, List.forall_mem_cons.mpr ⟨zcw_115, List.forall_mem_cons.mpr ⟨zcw_116, List.forall_mem_cons.mpr ⟨zcw_117, List.forall_mem_cons.mpr ⟨zcw_118, List.forall_mem_cons.mpr ⟨zcw_119, fun _ h => absurd h List.not_mem_nil⟩⟩⟩⟩⟩⟩⟩⟩⟩⟩⟩⟩⟩⟩⟩⟩⟩⟩⟩⟩
def zCw_6 : List (Nat × Nat) := [(120, 1039), (121, 1043), (122, 1047), (123, 1051), (124, 1055), (125, 1060), (126, 1064), (127, 1068), (128, 1073), (129, 1077), (130, 1080), (131, 1084), (132, 1089), (133, 1093), (134, 1096), (135, 1104), (136, 1110), (137, 1115), (138, 1144), (139, 1151)]
theorem zCw_p6 : ∀ q ∈ zCw_6, lw_tbl[q.2]? = some (.code (zy q.1) (zcc q.1) (zml q.1) (zre q.1)) := List.forall_mem_cons.mpr ⟨zcw_120, List.forall_mem_cons.mpr ⟨zcw_121, List.forall_mem_cons.mpr ⟨zcw_122, List.forall_mem_cons.mpr ⟨zcw_123, List.forall_mem_cons.mpr ⟨zcw_124, List.forall_mem_cons.mpr ⟨zcw_125, List.forall_mem_cons.mpr ⟨zcw_126, List.forall_mem_cons.mpr ⟨zcw_127, List.forall_mem_cons.mpr ⟨zcw_128, List.forall_mem_cons.mpr ⟨zcw_129, List.forall_mem_cons.mpr ⟨zcw_130, List.forall_mem_cons.mpr ⟨zcw_131, List.forall_mem_cons.mpr ⟨zcw_132, List.forall_mem_cons.mpr ⟨zcw_133, List.forall_mem_cons.mpr ⟨zcw_134, List.forall_mem_cons.mpr ⟨zcw_135, List.forall_mem_cons.mpr ⟨zcw_136, List.forall_mem_cons.mpr ⟨zcw_137, List.forall_mem_cons.mpr ⟨zcw_138, List.forall_mem_cons.mpr ⟨zcw_139, fun _ h => absurd h List.not_mem_nil⟩⟩⟩⟩⟩⟩⟩⟩⟩⟩⟩⟩⟩⟩⟩⟩⟩⟩⟩⟩
def zCw_7 : List (Nat × Nat) := [(140, 1155), (141, 1160), (142, 1164), (143, 1168), (144, 1173), (145, 1177), (146, 1181), (147, 1184), (148, 1188), (149, 1192), (150, 1196), (151, 1201), (152, 1205), (153, 1209), (154, 1213), (155, 1217), (156, 1221), (157, 1225), (158, 1229), (159, 1233)]
theorem zCw_p7 : ∀ q ∈ zCw_7, lw_tbl[q.2]? = some (.code (zy q.1) (zcc q.1) (zml q.1) (zre q.1)) := List.forall_mem_cons.mpr ⟨zcw_140, List.forall_mem_cons.mpr ⟨zcw_141, List.forall_mem_cons.mpr ⟨zcw_142, List.forall_mem_cons.mpr ⟨zcw_143, List.forall_mem_cons.mpr ⟨zcw_144, List.forall_mem_cons.mpr ⟨zcw_145, List.forall_mem_cons.mpr ⟨zcw_146, List.forall_mem_cons.mpr ⟨zcw_147, List.forall_mem_cons.mpr ⟨zcw_148, List.forall_mem_cons.mpr ⟨zcw_149, List.forall_mem_cons.mpr ⟨zcw_150, List.forall_mem_cons.mpr ⟨zcw_151, List.forall_mem_cons.mpr ⟨zcw_152, List.forall_mem_cons.mpr ⟨zcw_153, List.forall_mem_cons.mpr ⟨zcw_154, List.forall_mem_cons.mpr ⟨zcw_155, List.forall_mem_cons.mpr ⟨zcw_156, List.forall_mem_cons.mpr ⟨zcw_157, List.forall_mem_cons.mpr ⟨zcw_158, List.forall_mem_cons.mpr ⟨zcw_159, fun _ h => absurd h List.not_mem_nil⟩⟩⟩⟩⟩⟩⟩⟩⟩⟩⟩⟩⟩⟩⟩⟩⟩⟩⟩⟩
def zCw_8 : List (Nat × Nat) := [(160, 1238), (161, 1242), (162, 1246), (163, 1252), (164, 1256), (165, 1260), (166, 1264), (167, 1268), (168, 1273), (169, 1277), (170, 1281), (171, 1285), (172, 1289), (173, 1293), (174, 1297), (175, 1301), (176, 1305), (177, 1309), (178, 1313), (179, 1316)]
theorem zCw_p8 : ∀ q ∈ zCw_8, lw_tbl[q.2]? = some (.code (zy q.1) (zcc q.1) (zml q.1) (zre q.1)) := List.forall_mem_cons.mpr ⟨zcw_160, List.forall_mem_cons.mpr ⟨zcw_161, List.forall_mem_cons.mpr ⟨zcw_162, List.forall_mem_cons.mpr ⟨zcw_163, List.forall_mem_cons.mpr ⟨zcw_164, List.forall_mem_cons.mpr ⟨zcw_165, List.forall_mem_cons.mpr ⟨zcw_166, List.forall_mem_cons.mpr ⟨zcw_167, List.forall_mem_cons.mpr ⟨zcw_168, List.forall_mem_cons.mpr ⟨zcw_169, List.forall_mem_cons.mpr ⟨zcw_170, List.forall_mem_cons.mpr ⟨zcw_171, List.forall_mem_cons.mpr ⟨zcw_172, List.forall_mem_cons.mpr ⟨zcw_173, List.forall_mem_cons.mpr ⟨zcw_174, List.forall_mem_cons.mpr ⟨zcw_175, List.forall_mem_cons.mpr ⟨zcw_176, List.forall_mem_cons.mpr ⟨zcw_177, List.forall_mem_cons.mpr ⟨zcw_178, List.forall_mem_cons.mpr ⟨zcw_179, fun _ h => absurd h List.not_mem_nil⟩⟩⟩⟩⟩⟩⟩⟩⟩⟩⟩⟩⟩⟩⟩⟩⟩⟩⟩⟩
def zCw_9 : List (Nat × Nat) := [(180, 1321), (181, 1325), (182, 1329), (183, 1333), (184, 1337), (185, 1341), (186, 1346), (187, 1350), (188, 1354), (189, 1359), (190, 1363), (191, 1367), (192, 1370), (193, 1374), (194, 1378), (195, 1383), (196, 1387), (197, 1393), (198, 1658), (199, 1662)]
theorem zCw_p9 : ∀ q ∈ zCw_9, lw_tbl[q.2]? = some (.code (zy q.1) (zcc q.1) (zml q.1) (zre q.1)) := List.forall_mem_cons.mpr ⟨zcw_180, List.forall_mem_cons.mpr ⟨zcw_181, List.forall_mem_cons.mpr ⟨zcw_182, List.forall_mem_cons.mpr ⟨zcw_183, List.forall_mem_cons.mpr ⟨zcw_184, List.forall_mem_cons.mpr ⟨zcw_185, List.forall_mem_cons.mpr ⟨zcw_186, List.forall_mem_cons.mpr ⟨zcw_187, List.forall_mem_cons.mpr ⟨zcw_188, List.forall_mem_cons.mpr ⟨zcw_189, List.forall_mem_cons.mpr ⟨zcw_190, List.forall_mem_cons.mpr ⟨zcw_191, List.forall_mem_cons.mpr ⟨zcw_192, List.forall_mem_cons.mpr ⟨zcw_193, List.forall_mem_cons.mpr ⟨zcw_194, List.forall_mem_cons.mpr ⟨zcw_195, List.forall_mem_cons.mpr ⟨zcw_196, List.forall_mem_cons.mpr ⟨zcw_197, List.forall_mem_cons.mpr ⟨zcw_198, List.forall_mem_cons.mpr ⟨zcw_199, fun _ h => absurd h List.not_mem_nil⟩⟩⟩⟩⟩⟩⟩⟩⟩⟩⟩⟩⟩⟩⟩⟩⟩⟩⟩⟩
def zCw_10 : List (Nat × Nat) := [(200, 1666), (201, 1669), (202, 1672), (203, 1676), (204, 1679), (205, 1683), (206, 1687), (207, 1691), (208, 1695), (209, 1699), (210, 1703), (211, 1706), (212, 1710), (213, 1714), (214, 1718), (215, 1722), (216, 1726), (217, 1730), (218, 1734), (219, 1738)]
theorem zCw_p10 : ∀ q ∈ zCw_10, lw_tbl[q.2]? = some (.code (zy q.1) (zcc q.1) (zml q.1) (zre q.1)) := List.forall_mem_cons.mpr ⟨zcw_200, List.forall_mem_cons.mpr ⟨zcw_201, List.forall_mem_cons.mpr ⟨zcw_202, List.forall_mem_cons.mpr ⟨zcw_203, List.forall_mem_cons.mpr ⟨zcw_204, List.forall_mem_cons.mpr ⟨zcw_205, List.forall_mem_cons.mpr ⟨zcw_206, List.forall_mem_cons.mpr ⟨zcw_207, List.forall_mem_cons.mpr ⟨zcw_208, List.forall_mem_cons.mpr ⟨zcw_209, List.forall_mem_cons.mpr ⟨zcw_210, List.forall_mem_cons.mpr ⟨zcw_211, List.forall_mem_cons.mpr ⟨zcw_212, List.forall_mem_cons.mpr ⟨zcw_213, List.forall_mem_cons.mpr ⟨zcw_214, List.forall_mem_cons.mpr ⟨zcw_215, List.forall_mem_cons.mpr ⟨zcw_216, List.forall_mem_cons.mpr ⟨zcw_217, List.forall_mem_cons.mpr ⟨zcw_218, List.forall_mem_cons.mpr ⟨zcw_219, fun _ h => absurd h List.not_mem_nil⟩⟩⟩⟩⟩⟩⟩⟩⟩⟩⟩⟩⟩⟩⟩⟩⟩⟩⟩⟩
def zCw_11 : List (Nat × Nat) := [(220, 1742), (221, 1746), (222, 1750), (223, 1754), (224, 1758), (225, 1762), (226, 1766), (227, 1770), (228, 1774), (229, 1777), (230, 1781), (231, 1785), (232, 1789), (233, 1792), (234, 1796), (235, 1800), (236, 1804), (237, 1808), (238, 1812), (239, 1816)]
theorem zCw_p11 : ∀ q ∈ zCw_11, lw_tbl[q.2]? = some (.code (zy q.1) (zcc q.1) (zml q.1) (zre q.1)) := List.forall_mem_cons.mpr ⟨zcw_220, List.forall_mem_cons.mpr ⟨zcw_221, List.forall_mem_cons.mpr ⟨zcw_222, List.forall_mem_cons.mpr ⟨zcw_223, List.forall_mem_cons.mpr ⟨zcw_224, List.forall_mem_cons.mpr ⟨zcw_225, List.forall_mem_cons.mpr ⟨zcw_226, List.forall_mem_cons.mpr ⟨zcw_227, List.forall_mem_cons.mpr ⟨zcw_228, List.forall_mem_cons.mpr ⟨zcw_229, List.forall_mem_cons.mpr ⟨zcw_230, List.forall_mem_cons.mpr ⟨zcw_231, List.forall_mem_cons.mpr ⟨zcw_232, List.forall_mem_cons.mpr ⟨zcw_233, List.forall_mem_cons.mpr ⟨zcw_234, List.forall_mem_cons.mpr ⟨zcw_235, List.forall_mem_cons.mpr ⟨zcw_236, List.forall_mem_cons.mpr ⟨zcw_237, List.forall_mem_cons.mpr ⟨zcw_238, List.forall_mem_cons.mpr ⟨zcw_239, fun _ h => absurd h List.not_mem_nil⟩⟩⟩⟩⟩⟩⟩⟩⟩⟩⟩⟩⟩⟩⟩⟩⟩⟩⟩⟩
def zCw_12 : List (Nat × Nat) := [(240, 1820), (241, 1824), (242, 1828), (243, 1832), (244, 1836), (245, 1840), (246, 1844), (247, 1848), (248, 1852), (249, 1856), (250, 1860), (251, 1864), (252, 1868), (253, 1872), (254, 1876), (255, 1880), (256, 1884), (257, 1888), (258, 1892), (259, 1896)]
theorem zCw_p12 : ∀ q ∈ zCw_12, lw_tbl[q.2]? = some (.code (zy q.1) (zcc q.1) (zml q.1) (zre q.1)) := List.forall_mem_cons.mpr ⟨zcw_240, List.forall_mem_cons.mpr ⟨zcw_241, List.forall_mem_cons.mpr ⟨zcw_242, List.forall_mem_cons.mpr ⟨zcw_243, List.forall_mem_cons.mpr ⟨zcw_244, List.forall_mem_cons.mpr ⟨zcw_245, List.forall_mem_cons.mpr ⟨zcw_246, List.forall_mem_cons.mpr ⟨zcw_247, List.forall_mem_cons.mpr ⟨zcw_248, List.forall_mem_cons.mpr ⟨zcw_249, List.forall_mem_cons.mpr ⟨zcw_250, List.forall_mem_cons.mpr ⟨zcw_251, List.forall_mem_cons.mpr ⟨zcw_252, List.forall_mem_cons.mpr ⟨zcw_253, List.forall_mem_cons.mpr ⟨zcw_254, List.forall_mem_cons.mpr ⟨zcw_255, List.forall_mem_cons.mpr ⟨zcw_256, List.forall_mem_cons.mpr ⟨zcw_257, List.forall_mem_cons.mpr ⟨zcw_258, List.forall_mem_cons.mpr ⟨zcw_259, fun _ h => absurd h List.not_mem_nil⟩⟩⟩⟩⟩⟩⟩⟩⟩⟩⟩⟩⟩⟩⟩⟩⟩⟩⟩⟩
def zCw_13 : List (Nat × Nat) := [(260, 1900), (261, 1904), (262, 1908), (263, 1912), (264, 1916), (265, 1920), (266, 1924), (267, 1929), (268, 1935), (269, 1938), (270, 1942), (271, 1946), (272, 1950), (273, 1954), (274, 1958), (275, 1962), (276, 1966), (277, 1970), (278, 1974), (279, 1978)]
theorem zCw_p13 : ∀ q ∈ zCw_13, lw_tbl[q.2]? = some (.code (zy q.1) (zcc q.1) (zml q.1) (zre q.1)) := List.forall_mem_cons.mpr ⟨zcw_260, List.forall_mem_cons.mpr ⟨zcw_261, List.forall_mem_cons.mpr ⟨zcw_262, List.forall_mem_cons.mpr ⟨zcw_263, List.forall_mem_cons.mpr ⟨zcw_264, List.forall_mem_cons.mpr ⟨zcw_265, List.forall_mem_cons.mpr ⟨zcw_266, List.forall_mem_cons.mpr ⟨zcw_267, List.forall_mem_cons.mpr ⟨zcw_268, List.forall_mem_cons.mpr ⟨zcw_269, List.forall_mem_cons.mpr ⟨zcw_270, List.forall_mem_cons.mpr ⟨zcw_271, List.forall_mem_cons.mpr ⟨zcw_272, List.forall_mem_cons.mpr ⟨zcw_273, List.forall_mem_cons.mpr ⟨zcw_274, List.forall_mem_cons.mpr ⟨zcw_275, List.forall_mem_cons.mpr ⟨zcw_276, List.forall_mem_cons.mpr ⟨zcw_277, List.forall_mem_cons.mpr ⟨zcw_278, List.forall_mem_cons.mpr ⟨zcw_279, fun _ h => absurd h List.not_mem_nil⟩⟩⟩⟩⟩⟩⟩⟩⟩⟩⟩⟩⟩⟩⟩⟩⟩⟩⟩⟩
def zCw_14 : List (Nat × Nat) := [(280, 1982), (281, 1986), (282, 1990), (283, 1994), (284, 1998), (285, 2002), (286, 2006), (287, 2010), (288, 2014), (289, 2018), (290, 2022), (291, 2026), (292, 2031), (293, 2035), (294, 2038), (295, 2043), (296, 2048), (297, 2052), (298, 2056), (299, 2059)]
theorem zCw_p14 : ∀ q ∈ zCw_14, lw_tbl[q.2]? = some (.code (zy q.1) (zcc q.1) (zml q.1) (zre q.1)) := List.forall_mem_cons.mpr ⟨zcw_280, List.forall_mem_cons.mpr ⟨zcw_281, List.forall_mem_cons.mpr ⟨zcw_282, List.forall_mem_cons.mpr ⟨zcw_283, List.forall_mem_cons.mpr ⟨zcw_284, List.forall_mem_cons.mpr ⟨zcw_285, List.forall_mem_cons.mpr ⟨zcw_286, List.forall_mem_cons.mpr ⟨zcw_287, List.forall_mem_cons.mpr ⟨zcw_288, List.forall_mem_cons.mpr ⟨zcw_289, List.forall_mem_cons.mpr ⟨zcw_290, List.forall_mem_cons.mpr ⟨zcw_291, List.forall_mem_cons.mpr ⟨zcw_292, List.forall_mem_cons.mpr ⟨zcw_293, List.forall_mem_cons.mpr ⟨zcw_294, List.forall_mem_cons.mpr ⟨zcw_295, List.forall_mem_cons.mpr ⟨zcw_296, List.forall_mem_cons.mpr ⟨zcw_297, List.forall_mem_cons.mpr ⟨zcw_298, List.forall_mem_cons.mpr ⟨zcw_299, fun _ h => absurd h List.not_mem_nil⟩⟩⟩⟩⟩⟩⟩⟩⟩⟩⟩⟩⟩⟩⟩⟩⟩⟩⟩⟩
def zCw_15 : List (Nat × Nat) := [(300, 2063), (301, 2067), (302, 2071), (303, 2075), (304, 2079), (305, 2083), (306, 2087)]
theorem zCw_p15 : ∀ q ∈ zCw_15, lw_tbl[q.2]? = some (.code (zy q.1) (zcc q.1) (zml q.1) (zre q.1)) := List.forall_mem_cons.mpr ⟨zcw_300, List.forall_mem_cons.mpr ⟨zcw_301, List.forall_mem_cons.mpr ⟨zcw_302, List.forall_mem_cons.mpr ⟨zcw_303, List.forall_mem_cons.mpr ⟨zcw_304, List.forall_mem_cons.mpr ⟨zcw_305, List.forall_mem_cons.mpr ⟨zcw_306, fun _ h => absurd h List.not_mem_nil⟩⟩⟩⟩⟩⟩⟩
def zCw : List (Nat × Nat) := zCw_0 ++ (zCw_1 ++ (zCw_2 ++ (zCw_3 ++ (zCw_4 ++ (zCw_5 ++ (zCw_6 ++ (zCw_7 ++ (zCw_8 ++ (zCw_9 ++ (zCw_10 ++ (zCw_11 ++ (zCw_12 ++ (zCw_13 ++ (zCw_14 ++ (zCw_15)))))))))))))))
theorem zCw_p : ∀ q ∈ zCw, lw_tbl[q.2]? = some (.code (zy q.1) (zcc q.1) (zml q.1) (zre q.1)) := fun q h => (List.mem_append.mp h).elim (zCw_p0 q) (fun h => (List.mem_append.mp h).elim (zCw_p1 q) (fun h => (List.mem_append.mp h).elim (zCw_p2 q) (fun h => (List.mem_append.mp h).elim (zCw_p3 q) (fun h => (List.mem_append.mp h).elim (zCw_p4 q) (fun h => (List.mem_append.mp h).elim (zCw_p5 q) (fun h => (List.mem_append.mp h).elim (zCw_p6 q) (fun h => (List.mem_append.mp h).elim (zCw_p7 q) (fun h => (List.mem_append.mp h).elim (zCw_p8 q) (fun h => (List.mem_append.mp h).elim (zCw_p9 q) (fun h => (List.mem_append.mp h).elim (zCw_p10 q) (fun h => (List.mem_append.mp h).elim (zCw_p11 q) (fun h => (List.mem_append.mp h).elim (zCw_p12 q) (fun h => (List.mem_append.mp h).elim (zCw_p13 q) (fun h => (List.mem_append.mp h).elim (zCw_p14 q) (fun h => zCw_p15 q h)))))))))))))))
set_option maxRecDepth 1000000 in
theorem zCw_in : ∀ m ∈ List.range 307, (m, (zMi m).2.2.2.1) ∈ zCw := by decide +kernel
theorem zcode_all : ∀ m, m < 307 → Cond.code (zy m) (zcc m) (zml m) (zre m) ∈ lw_tbl := fun m h => List.mem_of_getElem? (zCw_p _ (zCw_in m (List.mem_range.mpr h)))
set_option maxRecDepth 1000000 in
theorem zcl_inst : ∀ q ∈ zcl, Cond.instantiable q.1 q.2.2 ∈ lw_tbl ∧ Cond.initialized q.1 ∈ lw_tbl := by decide +kernel
set_option maxRecDepth 1000000 in
theorem ztb_arr : Cond.arrayClass .int ∈ lw_tbl ∧ Cond.arrayClass .byte ∈ lw_tbl ∧ Cond.arrayClass .boolean ∈ lw_tbl ∧ Cond.arrayClass .long ∈ lw_tbl ∧ Cond.arrayOver (.object "StagePair$Shapes") ∈ lw_tbl := by decide +kernel
set_option maxRecDepth 1000000 in
theorem ztb_obj : Cond.instanceMethod objectInit ∈ lw_tbl ∧ Cond.code objectInit ⟨#[0xb1]⟩ 1 none ∈ lw_tbl ∧ Cond.native arraycopyName ∈ lw_tbl ∧ Cond.static arraycopyName ∈ lw_tbl ∧ Cond.initialized "java/lang/System" ∈ lw_tbl := by decide +kernel
set_option maxRecDepth 1000000 in
theorem ztb_math : Cond.static Lib.Math.max.name ∈ lw_tbl ∧ Cond.static Lib.Math.min.name ∈ lw_tbl ∧ Cond.static Lib.MathLoose.min_long.x ∈ lw_tbl ∧ Cond.initialized "java/lang/Math" ∈ lw_tbl ∧ Cond.code Lib.Math.max.name Lib.Math.max.code 2 (some .int) ∈ lw_tbl ∧ Cond.code Lib.Math.min.name Lib.Math.min.code 2 (some .int) ∈ lw_tbl ∧ Cond.code Lib.MathLoose.min_long.x Lib.MathLoose.min_long.code 4 (some .long) ∈ lw_tbl := by decide +kernel
