set_option maxRecDepth 1000000 in
theorem zh_48 : ∀ q ∈ zPr_48, zchk q.1 q.2 (zblk q.1 q.2) = true := by decide +kernel
set_option maxRecDepth 1000000 in
theorem zh_49 : ∀ q ∈ zPr_49, zchk q.1 q.2 (zblk q.1 q.2) = true := by decide +kernel
