set_option maxRecDepth 1000000 in
theorem zh_42 : ∀ q ∈ zPr_42, zchk q.1 q.2 (zblk q.1 q.2) = true := by decide +kernel
set_option maxRecDepth 1000000 in
theorem zh_43 : ∀ q ∈ zPr_43, zchk q.1 q.2 (zblk q.1 q.2) = true := by decide +kernel
