set_option maxRecDepth 1000000 in
theorem zh_40 : ∀ q ∈ zPr_40, zchk q.1 q.2 (zblk q.1 q.2) = true := by decide +kernel
set_option maxRecDepth 1000000 in
theorem zh_41 : ∀ q ∈ zPr_41, zchk q.1 q.2 (zblk q.1 q.2) = true := by decide +kernel
