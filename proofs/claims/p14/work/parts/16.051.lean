set_option maxRecDepth 100000 in
theorem zinl_11 : ∀ w ∈ u_ws RX11 TX11 45, w ∈ lw_tbl := zwl_of (cs := [(6, 101), (6, 103), (6, 105), (6, 107), (6, 109), (6, 111), (6, 113), (6, 115), (6, 117), (6, 119), (6, 121), (6, 123), (6, 125), (6, 127), (6, 129), (6, 131), (6, 133), (6, 135), (6, 137), (6, 139), (6, 141), (6, 143), (6, 145), (6, 147), (6, 149), (6, 151), (6, 153), (6, 155), (6, 157), (6, 159), (6, 161), (6, 163), (6, 165), (6, 167), (6, 169), (6, 171), (6, 173), (6, 175), (6, 177), (6, 179), (6, 181), (6, 183), (6, 185), (6, 187), (6, 189)]) (by decide +kernel)
set_option maxRecDepth 100000 in
theorem zgd_11 : (u_ws RX11 TX11 45).all goodWord = true := by decide +kernel
set_option maxRecDepth 100000 in
theorem zin_11 : ∀ w ∈ u_ws RX11 TX11 45, w ∈ zTG := fun w h => List.mem_filter.mpr ⟨zinl_11 w h, List.all_eq_true.mp zgd_11 w h⟩
theorem zinst : ∀ (k : Nat) (q : vw_C), zcl[k]? = some q → ∃ n : Nat, Cond.instantiable q.1 n ∈ lw_tbl := by
  intro k q h
  match k, h with
  | 0, h => cases h; exact ⟨3, zch_sub 2 _ (List.mem_of_getElem? (i := 86) rfl)⟩
  | 1, h => cases h; exact ⟨8, zch_sub 2 _ (List.mem_of_getElem? (i := 55) rfl)⟩
  | 2, h => cases h; exact ⟨10, zch_sub 1 _ (List.mem_of_getElem? (i := 31) rfl)⟩
  | 3, h => cases h; exact ⟨5, zch_sub 1 _ (List.mem_of_getElem? (i := 204) rfl)⟩
  | 4, h => cases h; exact ⟨4, zch_sub 1 _ (List.mem_of_getElem? (i := 112) rfl)⟩
  | 5, h => cases h; exact ⟨6, zch_sub 1 _ (List.mem_of_getElem? (i := 178) rfl)⟩
  | 6, h => cases h; exact ⟨7, zch_sub 2 _ (List.mem_of_getElem? (i := 27) rfl)⟩
  | 7, h => cases h; exact ⟨12, zch_sub 1 _ (List.mem_of_getElem? (i := 133) rfl)⟩
  | 8, h => cases h; exact ⟨4, zch_sub 1 _ (List.mem_of_getElem? (i := 37) rfl)⟩
  | 9, h => cases h; exact ⟨6, zch_sub 2 _ (List.mem_of_getElem? (i := 0) rfl)⟩
  | 10, h => cases h; exact ⟨12, zch_sub 1 _ (List.mem_of_getElem? (i := 23) rfl)⟩
  | 11, h => cases h; exact ⟨45, zch_sub 6 _ (List.mem_of_getElem? (i := 50) rfl)⟩
  | i + 12, h => cases h
set_option maxRecDepth 100000 in
theorem zno_lawB : (zYL.take 311).all (fun y => decide (y.1.cls ≠ "SenateRollLaw")) = true := by decide +kernel
theorem zno_law {μ : Nat} {y : zYv} (h : zYL[μ]? = some y) (hμ : μ < 311) : y.1.cls ≠ "SenateRollLaw" := by
  have := List.all_eq_true.mp zno_lawB y (List.mem_of_getElem? (i := μ) (by rw [List.getElem?_take_of_lt hμ]; exact h))
  simpa using this
theorem zroom_ok : (zP 311).2.2.1 ≤ room_1.cells ∧ (zP 311).2.2.2 ≤ room_1.slots := ⟨by decide +kernel, by decide +kernel⟩
