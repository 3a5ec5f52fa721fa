/-! THE START; WHAT WAS LEFT TO BE SHOWN -/
def qlk : List (Nat × Nat × Int) → Nat → Nat → Int
  | [], _, _ => 0
  | e :: l, r, k => if r = e.1 then (if k = e.2.1 then e.2.2 else qlk l r k) else qlk l r k
theorem qml_lk {b : zM} {r : Nat} (hb : ∀ k, b r k = 0) (k : Nat) : ∀ l : List (Nat × Nat × Int), qml b l r k = qlk l r k
  | [] => hb k
  | e :: l => by
    have ih := qml_lk hb k l
    show zput (qml b l) e.1 e.2.1 e.2.2 r k = if r = e.1 then (if k = e.2.1 then e.2.2 else qlk l r k) else qlk l r k
    simp only [zput, ih]
theorem qlk_in {l : List (Nat × Nat × Int)} (h : ∀ e ∈ l, qin e.2.2) (r k : Nat) : qin (qlk l r k) := by
  induction l with
  | nil => exact (⟨by decide, by decide⟩ : qin 0)
  | cons e l ih =>
    have h1 := ih (fun e' he => h e' (List.mem_cons_of_mem _ he))
    have h2 := h e List.mem_cons_self
    show qin (if r = e.1 then (if k = e.2.1 then e.2.2 else qlk l r k) else qlk l r k)
    split
    · split
      · exact h2
      · exact h1
    · exact h1
theorem qlk_z {l : List (Nat × Nat × Int)} {r : Nat} (h : ∀ e ∈ l, e.1 ≠ r) (k : Nat) : qlk l r k = 0 := by
  induction l with
  | nil => rfl
  | cons e l ih =>
    have h2 := h e List.mem_cons_self
    show (if r = e.1 then (if k = e.2.1 then e.2.2 else qlk l r k) else qlk l r k) = 0
    rw [if_neg (fun h' => h2 h'.symm)]
    exact ih (fun e' he => h e' (List.mem_cons_of_mem _ he))
theorem qml_b {b : zM} {l : List (Nat × Nat × Int)} {r : Nat} (h : l.all (fun e => !Nat.beq e.1 r) = true) (k : Nat) : qml b l r k = b r k := by
  induction l with
  | nil => rfl
  | cons e l ih =>
    rw [List.all_cons, Bool.and_eq_true] at h
    show zput (qml b l) e.1 e.2.1 e.2.2 r k = b r k
    have h1 : r ≠ e.1 := fun h' => by
      have := h.1
      rw [← h', Nat.beq_refl] at this
      cases this
    rw [qput_ne h1]
    exact ih h.2
def qM0 (xs : Nat → Int32) : zM := qml (zxc xs) zl_85
theorem zxc_z (xs : Nat → Int32) (r k : Nat) (h : 8 ≤ r) : zxc xs r k = 0 := by
  obtain ⟨q, rfl⟩ : ∃ q, r = q + 8 := ⟨r - 8, by omega⟩
  rfl
theorem qM0_lk (xs : Nat → Int32) (r k : Nat) (h : 8 ≤ r) : qM0 xs r k = qlk zl_85 r k := qml_lk (fun k => zxc_z xs r k h) k zl_85
theorem qgetD_in {l : List Int} (h : ∀ x ∈ l, qin x) (j : Nat) : qin (l.getD j 0) := by
  rw [List.getD_eq_getElem?_getD]
  cases hj : l[j]? with
  | none => exact ⟨by decide, by decide⟩
  | some x => exact h x (List.mem_of_getElem? hj)
set_option maxRecDepth 100000 in
theorem qM0_rows : ∀ a ∈ qRTL, qlk zl_85 a.1 0 = a.2.1 ∧ qlk zl_85 a.1 1 = a.2.2 ∧ qlk zl_85 a.1 3 = 0 := by decide +kernel
set_option maxRecDepth 100000 in
theorem qM0_in : ∀ e ∈ zl_85, qin e.2.2 := by decide +kernel
set_option maxRecDepth 100000 in
theorem qM0_98 : ∀ e ∈ zl_85, e.1 ≤ 98 := by decide +kernel
set_option maxRecDepth 100000 in
theorem qM0_c : qlk zl_85 72 3 = 0 ∧ qlk zl_85 72 5 = 0 ∧ qlk zl_85 87 5 = 0 ∧ qlk zl_85 8 3 = 0 ∧ qlk zl_85 24 3 = 0 ∧ qlk zl_85 97 7 = 0 := by decide +kernel
set_option maxRecDepth 100000 in
theorem qM0_ci (xs : Nat → Int32) : qCI (qM0 xs) := by
  have hc := qM0_c
  refine ⟨fun r l c hm => ?_, ?_, ?_, ?_, fun r k hr hl => ?_, ?_⟩
  · have h8 := (qRTL_lc _ hm).2.1
    have := qM0_rows _ hm
    simp only at h8 this
    rw [qM0_lk xs r 0 h8, qM0_lk xs r 1 h8, qM0_lk xs r 3 h8]
    omega
  · rw [qM0_lk xs 72 3 (by decide), hc.1]; decide
  · rw [qM0_lk xs 72 5 (by decide), hc.2.1]; exact .inl rfl
  · rw [qM0_lk xs 87 5 (by decide), hc.2.2.1]; decide
  · by_cases h8 : 8 ≤ r
    · rw [qM0_lk xs r k h8]; exact qlk_in qM0_in r k
    · rcases (by omega : r = 0 ∨ r = 1 ∨ r = 2 ∨ r = 3 ∨ r = 4 ∨ r = 5 ∨ r = 6 ∨ r = 7) with rfl | rfl | rfl | rfl | rfl | rfl | rfl | rfl
      · rw [show qM0 xs 0 k = zxc xs 0 k from qml_b rfl k]; exact qb32 _
      · rw [show qM0 xs 1 k = zxc xs 1 k from qml_b rfl k]; exact qgetD_in (by decide) k
      · rw [show qM0 xs 2 k = zxc xs 2 k from qml_b rfl k]; exact qgetD_in (by decide) k
      · rw [show qM0 xs 3 k = zxc xs 3 k from qml_b rfl k]; exact qgetD_in (by decide) k
      · rw [show qM0 xs 4 k = zxc xs 4 k from qml_b rfl k]; exact (⟨by decide, by decide⟩ : qin 0)
      · rw [show qM0 xs 5 k = zxc xs 5 k from qml_b rfl k]; exact qgetD_in (by decide) k
      · rw [show qM0 xs 6 k = zxc xs 6 k from qml_b rfl k]; exact (⟨by decide, by decide⟩ : qin 0)
      · rw [show qM0 xs 7 k = zxc xs 7 k from qml_b rfl k]; exact qgetD_in (by decide) k
  · exact ⟨qml_b rfl 1, qml_b rfl 1⟩
theorem qOS_0 (j : Nat) : qOS j 0 := ⟨by omega, fun _ => by omega, fun _ => by omega, fun _ => by omega, fun _ => by omega, fun _ => by omega, fun _ => by omega, fun _ => by omega, fun c hc _ => by omega, fun u hu _ => by omega, fun m hm _ => by omega, fun a ha => ⟨fun _ => by omega, fun _ => by omega, fun _ => by omega, fun _ => by omega⟩, fun t ht _ => by omega, fun o ho _ => by omega⟩
set_option maxRecDepth 100000 in
theorem qM0_st (xs : Nat → Int32) (j : Nat) : (j = 7 ∧ qM0 xs 98 j = 30) ∨ (j = 8 ∧ qM0 xs 98 j = 20) ∨ (j ≠ 7 ∧ j ≠ 8 ∧ qM0 xs 98 j = 0) := by
  have e : qM0 xs = zput (zput (zput (qml (zxc xs) zl_82) 97 31 (-1)) 98 7 30) 98 8 20 := rfl
  rw [e]
  by_cases h8 : j = 8
  · subst h8; exact .inr (.inl ⟨rfl, qput_eq⟩)
  · by_cases h7 : j = 7
    · subst h7; exact .inl ⟨rfl, by rw [qput_nk (by decide), qput_eq]⟩
    · refine .inr (.inr ⟨h7, h8, ?_⟩)
      rw [qput_nk h8, qput_nk h7, qput_ne (by decide)]
      exact qml_z rfl rfl
set_option maxRecDepth 100000 in
theorem qM0_97 (xs : Nat → Int32) (k : Nat) : (k = 31 ∧ qM0 xs 97 k = -1) ∨ (k ≠ 31 ∧ qM0 xs 97 k = 0) := by
  have e : qM0 xs = zput (zput (zput (qml (zxc xs) zl_82) 97 31 (-1)) 98 7 30) 98 8 20 := rfl
  rw [e, qput_ne (by decide), qput_ne (by decide)]
  by_cases h : k = 31
  · subst h; exact .inl ⟨rfl, qput_eq⟩
  · refine .inr ⟨h, ?_⟩
    rw [qput_nk h]
    exact qml_z rfl rfl
theorem qM0_hi (xs : Nat → Int32) (r k : Nat) (h : 99 ≤ r) : qM0 xs r k = 0 := by
  rw [qM0_lk xs r k (by omega)]
  exact qlk_z (fun e he h' => by have := qM0_98 e he; omega) k
theorem qM0_mi (xs : Nat → Int32) : qMI (qM0 xs) := by
  have hz : ∀ f : Nat → Int, (∀ j, f j = 0) → qSt f := fun f hf => ⟨fun j => by rw [hf j]; exact qOS_0 j, fun a ha => by rw [hf 4] at ha; omega⟩
  refine ⟨⟨fun j => ?_, fun a ha => ?_⟩, hz _ (fun j => qM0_hi xs 99 j (by decide)), hz _ (fun j => qM0_hi xs 99 _ (by decide)), fun r k hr => ?_, ?_⟩
  · have h := qM0_st xs j
    exact ⟨by omega, fun _ => by omega, fun _ => by omega, fun _ => by omega, fun _ => by omega, fun _ => by omega, fun _ => by omega, fun _ => by omega, fun c hc _ => by omega, fun u hu _ => by omega, fun m hm _ => by omega, fun a ha => ⟨fun _ => by omega, fun _ => by omega, fun _ => by omega, fun _ => by omega⟩, fun t ht _ => by omega, fun o ho _ => by omega⟩
  · have h := qM0_st xs 4; omega
  · by_cases h97 : r = 97
    · subst h97
      have h := qM0_97 xs k
      exact ⟨fun _ => by omega, fun h => by omega, fun _ => ⟨fun h => by omega, fun h => by omega, fun h => by omega, fun h => by omega, fun h => by omega⟩, fun h => by omega, fun h => by omega⟩
    · by_cases h98 : r = 98
      · subst h98
        have h := qM0_st xs k
        exact qMC98 (by omega)
      · rw [qM0_hi xs r k (by omega)]
        exact ⟨fun _ => by omega, fun h => .inl rfl, fun h => by omega, fun h => by omega, fun h => by omega⟩
  · have h := qM0_97 xs 7
    exact ⟨by omega, fun j hj => by omega⟩
set_option maxRecDepth 100000 in
theorem qM0_h : (qlk zl_85 10 3 = 0 ∧ qlk zl_85 12 3 = 0 ∧ qlk zl_85 14 3 = 0 ∧ qlk zl_85 16 3 = 0 ∧ qlk zl_85 18 3 = 0 ∧ qlk zl_85 24 3 = 0) ∧ qlk zl_85 9 8 = 30 ∧ qlk zl_85 9 9 = 20 := by decide +kernel
set_option maxRecDepth 100000 in
theorem qM0_a : ∀ e ∈ zl_85, e.1 ≠ 11 ∧ e.1 ≠ 13 ∧ e.1 ≠ 15 ∧ e.1 ≠ 17 ∧ e.1 ≠ 19 ∧ e.1 ≠ 21 ∧ e.1 ≠ 25 := by decide +kernel
theorem qM0_hs (xs : Nat → Int32) : hHs (qM0 xs) 9 (qM0 xs 98) := by
  have f0 : ∀ j, j ≠ 7 → j ≠ 8 → qM0 xs 98 j = 0 := fun j h7 h8 => by have h := qM0_st xs j; omega
  have f7 : qM0 xs 98 7 = 30 := by have h := qM0_st xs 7; omega
  have f8 : qM0 xs 98 8 = 20 := by have h := qM0_st xs 8; omega
  obtain ⟨⟨u0, u1, u2, u3, u4, u6⟩, d8, d9⟩ := qM0_h
  have L := fun r k (h : 8 ≤ r) => qM0_lk xs r k h
  have z11 : ∀ j, qM0 xs 11 j = 0 := fun j => (L 11 j (by decide)).trans (qlk_z (fun e he => (qM0_a e he).1) j)
  have z13 : ∀ j, qM0 xs 13 j = 0 := fun j => (L 13 j (by decide)).trans (qlk_z (fun e he => (qM0_a e he).2.1) j)
  have z15 : ∀ j, qM0 xs 15 j = 0 := fun j => (L 15 j (by decide)).trans (qlk_z (fun e he => (qM0_a e he).2.2.1) j)
  have z17 : ∀ j, qM0 xs 17 j = 0 := fun j => (L 17 j (by decide)).trans (qlk_z (fun e he => (qM0_a e he).2.2.2.1) j)
  have z19 : ∀ j, qM0 xs 19 j = 0 := fun j => (L 19 j (by decide)).trans (qlk_z (fun e he => (qM0_a e he).2.2.2.2.1) j)
  have z21 : ∀ j, qM0 xs 21 j = 0 := fun j => (L 21 j (by decide)).trans (qlk_z (fun e he => (qM0_a e he).2.2.2.2.2.1) j)
  have z25 : ∀ j, qM0 xs 25 j = 0 := fun j => (L 25 j (by decide)).trans (qlk_z (fun e he => (qM0_a e he).2.2.2.2.2.2) j)
  refine ⟨⟨?_, fun j hj => ?_⟩, ⟨?_, fun i hi => ?_⟩, ⟨?_, fun j hj => ?_⟩, ⟨?_, fun j hj => ?_, fun i hi => ?_⟩, ⟨?_, fun i hi => ⟨fun k hk => ?_, fun _ => ?_, fun h3 => ?_, ?_⟩⟩, fun j hj => ?_, ⟨?_, fun j hj => ?_⟩, ⟨?_, ?_, ?_⟩⟩
  · exact (L 10 3 (by decide)).trans (u0.trans (f0 0 (by decide) (by decide)).symm)
  · exact (z11 j).trans (f0 _ (by omega) (by omega)).symm
  · exact (L 12 3 (by decide)).trans (u1.trans (f0 1 (by decide) (by decide)).symm)
  · exact (z13 _).trans (f0 _ (by omega) (by omega)).symm
  · exact (L 14 3 (by decide)).trans (u2.trans (f0 2 (by decide) (by decide)).symm)
  · exact (z15 j).trans (f0 _ (by omega) (by omega)).symm
  · exact (L 16 3 (by decide)).trans (u3.trans (f0 3 (by decide) (by decide)).symm)
  · exact (z17 j).trans (f0 _ (by omega) (by omega)).symm
  · rw [f0 _ (by omega) (by omega), f0 _ (by omega) (by omega)]; omega
  · exact (L 18 3 (by decide)).trans (u4.trans (f0 4 (by decide) (by decide)).symm)
  · exact (z19 _).trans (f0 _ (by omega) (by omega)).symm
  · exact (z19 _).trans (f0 _ (by omega) (by omega)).symm
  · rw [f0 _ (by omega) (by omega)] at h3; omega
  · rw [f0 _ (by omega) (by omega)]; omega
  · exact (z21 j).trans (f0 _ (by omega) (by omega)).symm
  · exact (L 24 3 (by decide)).trans (u6.trans (f0 6 (by decide) (by decide)).symm)
  · exact (z25 j).trans (f0 _ (by omega) (by omega)).symm
  · exact (L 9 8 (by decide)).trans (d8.trans f7.symm)
  · exact (L 9 9 (by decide)).trans (d9.trans f8.symm)
  · rw [f7]; omega
theorem qM0_j (xs : Nat → Int32) : qJ (qM0 xs) := by
  have hc := qM0_c
  have h2 := qM0_lk xs 8 3 (by decide)
  have h4 := qM0_hi xs 100 0 (by decide)
  have h5 := qM0_hi xs 100 1 (by decide)
  exact ⟨qM0_ci xs, qM0_mi xs, qM0_hs xs, fun h => absurd h4 h, fun h => absurd h5 h, by omega⟩
theorem zPure_holds : zPure := fun L xs hL => by
  have h := qc_law L xs (qR_G (qL_all hL (L + 9) 0 (qM0 xs) (by omega) (by omega) (qM0_j xs)))
  obtain ⟨f, r, w', h1, h2⟩ := h
  have h2 : r = some (.inl 1) := h2
  subst h2
  exact ⟨f, w', h1⟩
