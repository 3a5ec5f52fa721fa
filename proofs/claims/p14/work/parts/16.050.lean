set_option maxRecDepth 100000 in
theorem zinl_6 : ∀ w ∈ u_ws RX6 TX6 7, w ∈ lw_tbl := zwl_of (cs := [(2, 39), (2, 41), (2, 43), (2, 45), (2, 47), (2, 49), (2, 51)]) (by decide +kernel)
set_option maxRecDepth 100000 in
theorem zgd_6 : (u_ws RX6 TX6 7).all goodWord = true := by decide +kernel
set_option maxRecDepth 100000 in
theorem zin_6 : ∀ w ∈ u_ws RX6 TX6 7, w ∈ zTG := fun w h => List.mem_filter.mpr ⟨zinl_6 w h, List.all_eq_true.mp zgd_6 w h⟩
set_option maxRecDepth 100000 in
theorem zinl_7 : ∀ w ∈ u_ws RX7 TX7 12, w ∈ lw_tbl := zwl_of (cs := [(1, 152), (1, 154), (1, 156), (1, 158), (1, 160), (1, 162), (1, 164), (1, 166), (1, 168), (1, 170), (1, 172), (1, 174)]) (by decide +kernel)
set_option maxRecDepth 100000 in
theorem zgd_7 : (u_ws RX7 TX7 12).all goodWord = true := by decide +kernel
set_option maxRecDepth 100000 in
theorem zin_7 : ∀ w ∈ u_ws RX7 TX7 12, w ∈ zTG := fun w h => List.mem_filter.mpr ⟨zinl_7 w h, List.all_eq_true.mp zgd_7 w h⟩
set_option maxRecDepth 100000 in
theorem zinl_8 : ∀ w ∈ u_ws RX8 TX8 4, w ∈ lw_tbl := zwl_of (cs := [(1, 49), (1, 51), (1, 53), (1, 55)]) (by decide +kernel)
set_option maxRecDepth 100000 in
theorem zgd_8 : (u_ws RX8 TX8 4).all goodWord = true := by decide +kernel
set_option maxRecDepth 100000 in
theorem zin_8 : ∀ w ∈ u_ws RX8 TX8 4, w ∈ zTG := fun w h => List.mem_filter.mpr ⟨zinl_8 w h, List.all_eq_true.mp zgd_8 w h⟩
set_option maxRecDepth 100000 in
theorem zinl_9 : ∀ w ∈ u_ws RX9 TX9 6, w ∈ lw_tbl := zwl_of (cs := [(2, 13), (2, 15), (2, 17), (2, 19), (2, 21), (2, 23)]) (by decide +kernel)
set_option maxRecDepth 100000 in
theorem zgd_9 : (u_ws RX9 TX9 6).all goodWord = true := by decide +kernel
set_option maxRecDepth 100000 in
theorem zin_9 : ∀ w ∈ u_ws RX9 TX9 6, w ∈ zTG := fun w h => List.mem_filter.mpr ⟨zinl_9 w h, List.all_eq_true.mp zgd_9 w h⟩
set_option maxRecDepth 100000 in
theorem zinl_10 : ∀ w ∈ u_ws RX10 TX10 12, w ∈ lw_tbl := zwl_of (cs := [(2, 113), (2, 115), (2, 117), (2, 119), (2, 121), (2, 123), (2, 125), (2, 127), (2, 129), (2, 131), (2, 133), (2, 135)]) (by decide +kernel)
set_option maxRecDepth 100000 in
theorem zgd_10 : (u_ws RX10 TX10 12).all goodWord = true := by decide +kernel
set_option maxRecDepth 100000 in
theorem zin_10 : ∀ w ∈ u_ws RX10 TX10 12, w ∈ zTG := fun w h => List.mem_filter.mpr ⟨zinl_10 w h, List.all_eq_true.mp zgd_10 w h⟩
