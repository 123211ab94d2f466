set_option maxRecDepth 1000000 in
theorem zh_0 : ∀ q ∈ zPr_0, zchk q.1 q.2 (zblk q.1 q.2) = true := by decide +kernel
set_option maxRecDepth 1000000 in
theorem zh_1 : ∀ q ∈ zPr_1, zchk q.1 q.2 (zblk q.1 q.2) = true := by decide +kernel
set_option maxRecDepth 1000000 in
theorem zh_2 : ∀ q ∈ zPr_2, zchk q.1 q.2 (zblk q.1 q.2) = true := by decide +kernel
set_option maxRecDepth 1000000 in
theorem zh_3 : ∀ q ∈ zPr_3, zchk q.1 q.2 (zblk q.1 q.2) = true := by decide +kernel
set_option maxRecDepth 1000000 in
theorem zh_4 : ∀ q ∈ zPr_4, zchk q.1 q.2 (zblk q.1 q.2) = true := by decide +kernel
set_option maxRecDepth 1000000 in
theorem zh_5 : ∀ q ∈ zPr_5, zchk q.1 q.2 (zblk q.1 q.2) = true := by decide +kernel
set_option maxRecDepth 1000000 in
theorem zh_6 : ∀ q ∈ zPr_6, zchk q.1 q.2 (zblk q.1 q.2) = true := by decide +kernel
set_option maxRecDepth 1000000 in
theorem zh_7 : ∀ q ∈ zPr_7, zchk q.1 q.2 (zblk q.1 q.2) = true := by decide +kernel
set_option maxRecDepth 1000000 in
theorem zh_8 : ∀ q ∈ zPr_8, zchk q.1 q.2 (zblk q.1 q.2) = true := by decide +kernel
