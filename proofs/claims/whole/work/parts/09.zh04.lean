set_option maxRecDepth 1000000 in
theorem zh_36 : ∀ q ∈ zPr_36, zchk q.1 q.2 (zblk q.1 q.2) = true := by decide +kernel
set_option maxRecDepth 1000000 in
theorem zh_37 : ∀ q ∈ zPr_37, zchk q.1 q.2 (zblk q.1 q.2) = true := by decide +kernel
set_option maxRecDepth 1000000 in
theorem zh_38 : ∀ q ∈ zPr_38, zchk q.1 q.2 (zblk q.1 q.2) = true := by decide +kernel
set_option maxRecDepth 1000000 in
theorem zh_39 : ∀ q ∈ zPr_39, zchk q.1 q.2 (zblk q.1 q.2) = true := by decide +kernel
