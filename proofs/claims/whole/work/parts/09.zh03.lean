set_option maxRecDepth 1000000 in
theorem zh_27 : ∀ q ∈ zPr_27, zchk q.1 q.2 (zblk q.1 q.2) = true := by decide +kernel
set_option maxRecDepth 1000000 in
theorem zh_28 : ∀ q ∈ zPr_28, zchk q.1 q.2 (zblk q.1 q.2) = true := by decide +kernel
set_option maxRecDepth 1000000 in
theorem zh_29 : ∀ q ∈ zPr_29, zchk q.1 q.2 (zblk q.1 q.2) = true := by decide +kernel
set_option maxRecDepth 1000000 in
theorem zh_30 : ∀ q ∈ zPr_30, zchk q.1 q.2 (zblk q.1 q.2) = true := by decide +kernel
set_option maxRecDepth 1000000 in
theorem zh_31 : ∀ q ∈ zPr_31, zchk q.1 q.2 (zblk q.1 q.2) = true := by decide +kernel
set_option maxRecDepth 1000000 in
theorem zh_32 : ∀ q ∈ zPr_32, zchk q.1 q.2 (zblk q.1 q.2) = true := by decide +kernel
set_option maxRecDepth 1000000 in
theorem zh_33 : ∀ q ∈ zPr_33, zchk q.1 q.2 (zblk q.1 q.2) = true := by decide +kernel
set_option maxRecDepth 1000000 in
theorem zh_34 : ∀ q ∈ zPr_34, zchk q.1 q.2 (zblk q.1 q.2) = true := by decide +kernel
set_option maxRecDepth 1000000 in
theorem zh_35 : ∀ q ∈ zPr_35, zchk q.1 q.2 (zblk q.1 q.2) = true := by decide +kernel
