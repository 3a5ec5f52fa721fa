/-! WHAT THE FUNCTIONS COME TO: TABLES AND THE MODEL'S ROW -/
def hup (f : Nat → Int) (k : Nat) (x : Int) : Nat → Int := fun j => if j = k then x else f j
theorem hup_eq {f : Nat → Int} {k : Nat} {x : Int} : hup f k x k = x := if_pos rfl
theorem hup_ne {f : Nat → Int} {k j : Nat} {x : Int} (h : j ≠ k) : hup f k x j = f j := if_neg h
def zrow (M : zM) (r s n : Nat) (v : Nat → Int) : zM := fun i j => if i = r then (if s ≤ j ∧ j < s + n then v (j - s) else M i j) else M i j
def hTb (M : zM) : Prop := (M 10 0 = 14 ∧ M 10 1 = 4) ∧ (M 12 0 = 20 ∧ M 12 1 = 3) ∧ (M 14 0 = 4 ∧ M 14 1 = 2) ∧ (M 16 0 = 40 ∧ M 16 1 = 5) ∧ (M 18 0 = 250 ∧ M 18 1 = 11) ∧ (M 20 0 = 8 ∧ M 20 1 = 81) ∧ (M 22 0 = 10 ∧ M 22 1 = 164) ∧ (M 24 0 = 12 ∧ M 24 1 = 2)
theorem hTb.t10 {M : zM} (h : hTb M) : M 10 0 = 14 ∧ M 10 1 = 4 := h.1
theorem hTb.t12 {M : zM} (h : hTb M) : M 12 0 = 20 ∧ M 12 1 = 3 := h.2.1
theorem hTb.t14 {M : zM} (h : hTb M) : M 14 0 = 4 ∧ M 14 1 = 2 := h.2.2.1
