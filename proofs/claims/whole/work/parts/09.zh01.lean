set_option maxRecDepth 1000000 in
theorem zh_9 : ∀ q ∈ zPr_9, zchk q.1 q.2 (zblk q.1 q.2) = true := by decide +kernel
set_option maxRecDepth 1000000 in
theorem zh_10 : ∀ q ∈ zPr_10, zchk q.1 q.2 (zblk q.1 q.2) = true := by decide +kernel
set_option maxRecDepth 1000000 in
theorem zh_11 : ∀ q ∈ zPr_11, zchk q.1 q.2 (zblk q.1 q.2) = true := by decide +kernel
set_option maxRecDepth 1000000 in
theorem zh_12 : ∀ q ∈ zPr_12, zchk q.1 q.2 (zblk q.1 q.2) = true := by decide +kernel
set_option maxRecDepth 1000000 in
theorem zh_13 : ∀ q ∈ zPr_13, zchk q.1 q.2 (zblk q.1 q.2) = true := by decide +kernel
set_option maxRecDepth 1000000 in
theorem zh_14 : ∀ q ∈ zPr_14, zchk q.1 q.2 (zblk q.1 q.2) = true := by decide +kernel
set_option maxRecDepth 1000000 in
theorem zh_15 : ∀ q ∈ zPr_15, zchk q.1 q.2 (zblk q.1 q.2) = true := by decide +kernel
set_option maxRecDepth 1000000 in
theorem zh_16 : ∀ q ∈ zPr_16, zchk q.1 q.2 (zblk q.1 q.2) = true := by decide +kernel
set_option maxRecDepth 1000000 in
theorem zh_17 : ∀ q ∈ zPr_17, zchk q.1 q.2 (zblk q.1 q.2) = true := by decide +kernel
