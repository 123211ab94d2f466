set_option maxRecDepth 1000000 in
theorem zh_18 : ∀ q ∈ zPr_18, zchk q.1 q.2 (zblk q.1 q.2) = true := by decide +kernel
set_option maxRecDepth 1000000 in
theorem zh_19 : ∀ q ∈ zPr_19, zchk q.1 q.2 (zblk q.1 q.2) = true := by decide +kernel
set_option maxRecDepth 1000000 in
theorem zh_20 : ∀ q ∈ zPr_20, zchk q.1 q.2 (zblk q.1 q.2) = true := by decide +kernel
set_option maxRecDepth 1000000 in
theorem zh_21 : ∀ q ∈ zPr_21, zchk q.1 q.2 (zblk q.1 q.2) = true := by decide +kernel
set_option maxRecDepth 1000000 in
theorem zh_22 : ∀ q ∈ zPr_22, zchk q.1 q.2 (zblk q.1 q.2) = true := by decide +kernel
set_option maxRecDepth 1000000 in
theorem zh_23 : ∀ q ∈ zPr_23, zchk q.1 q.2 (zblk q.1 q.2) = true := by decide +kernel
set_option maxRecDepth 1000000 in
theorem zh_24 : ∀ q ∈ zPr_24, zchk q.1 q.2 (zblk q.1 q.2) = true := by decide +kernel
set_option maxRecDepth 1000000 in
theorem zh_25 : ∀ q ∈ zPr_25, zchk q.1 q.2 (zblk q.1 q.2) = true := by decide +kernel
set_option maxRecDepth 1000000 in
theorem zh_26 : ∀ q ∈ zPr_26, zchk q.1 q.2 (zblk q.1 q.2) = true := by decide +kernel
