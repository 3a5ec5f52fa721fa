set_option maxRecDepth 100000 in
theorem zinl_1 : ∀ w ∈ u_ws RX1 TX1 8, w ∈ lw_tbl := zwl_of (cs := [(2, 68), (2, 70), (2, 72), (2, 74), (2, 76), (2, 78), (2, 80), (2, 82)]) (by decide +kernel)
set_option maxRecDepth 100000 in
theorem zgd_1 : (u_ws RX1 TX1 8).all goodWord = true := by decide +kernel
set_option maxRecDepth 100000 in
theorem zin_1 : ∀ w ∈ u_ws RX1 TX1 8, w ∈ zTG := fun w h => List.mem_filter.mpr ⟨zinl_1 w h, List.all_eq_true.mp zgd_1 w h⟩
set_option maxRecDepth 100000 in
theorem zinl_2 : ∀ w ∈ u_ws RX2 TX2 10, w ∈ lw_tbl := zwl_of (cs := [(1, 90), (1, 92), (1, 94), (1, 96), (1, 98), (1, 100), (1, 102), (1, 104), (1, 106), (1, 108)]) (by decide +kernel)
set_option maxRecDepth 100000 in
theorem zgd_2 : (u_ws RX2 TX2 10).all goodWord = true := by decide +kernel
set_option maxRecDepth 100000 in
theorem zin_2 : ∀ w ∈ u_ws RX2 TX2 10, w ∈ zTG := fun w h => List.mem_filter.mpr ⟨zinl_2 w h, List.all_eq_true.mp zgd_2 w h⟩
set_option maxRecDepth 100000 in
theorem zinl_3 : ∀ w ∈ u_ws RX3 TX3 5, w ∈ lw_tbl := zwl_of (cs := [(1, 228), (1, 230), (1, 232), (1, 234), (1, 236)]) (by decide +kernel)
set_option maxRecDepth 100000 in
theorem zgd_3 : (u_ws RX3 TX3 5).all goodWord = true := by decide +kernel
set_option maxRecDepth 100000 in
theorem zin_3 : ∀ w ∈ u_ws RX3 TX3 5, w ∈ zTG := fun w h => List.mem_filter.mpr ⟨zinl_3 w h, List.all_eq_true.mp zgd_3 w h⟩
set_option maxRecDepth 100000 in
theorem zinl_4 : ∀ w ∈ u_ws RX4 TX4 4, w ∈ lw_tbl := zwl_of (cs := [(1, 123), (1, 125), (1, 127), (1, 129)]) (by decide +kernel)
set_option maxRecDepth 100000 in
theorem zgd_4 : (u_ws RX4 TX4 4).all goodWord = true := by decide +kernel
set_option maxRecDepth 100000 in
theorem zin_4 : ∀ w ∈ u_ws RX4 TX4 4, w ∈ zTG := fun w h => List.mem_filter.mpr ⟨zinl_4 w h, List.all_eq_true.mp zgd_4 w h⟩
set_option maxRecDepth 100000 in
theorem zinl_5 : ∀ w ∈ u_ws RX5 TX5 6, w ∈ lw_tbl := zwl_of (cs := [(1, 189), (1, 191), (1, 193), (1, 195), (1, 197), (1, 199)]) (by decide +kernel)
set_option maxRecDepth 100000 in
theorem zgd_5 : (u_ws RX5 TX5 6).all goodWord = true := by decide +kernel
set_option maxRecDepth 100000 in
theorem zin_5 : ∀ w ∈ u_ws RX5 TX5 6, w ∈ zTG := fun w h => List.mem_filter.mpr ⟨zinl_5 w h, List.all_eq_true.mp zgd_5 w h⟩
