set_option maxRecDepth 1000000 in
theorem zh_44 : ∀ q ∈ zPr_44, zchk q.1 q.2 (zblk q.1 q.2) = true := by decide +kernel
set_option maxRecDepth 1000000 in
theorem zh_45 : ∀ q ∈ zPr_45, zchk q.1 q.2 (zblk q.1 q.2) = true := by decide +kernel
