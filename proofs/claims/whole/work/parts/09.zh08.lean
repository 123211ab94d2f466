set_option maxRecDepth 1000000 in
theorem zh_46 : ∀ q ∈ zPr_46, zchk q.1 q.2 (zblk q.1 q.2) = true := by decide +kernel
set_option maxRecDepth 1000000 in
theorem zh_47 : ∀ q ∈ zPr_47, zchk q.1 q.2 (zblk q.1 q.2) = true := by decide +kernel
