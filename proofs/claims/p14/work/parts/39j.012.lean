def hc4 (u : Int) (g f : Nat → Int) : Prop := u = f 4 ∧ hAc g f
def hc5 (g f : Nat → Int) : Prop := hLn g f 3350 648
def hc6 (u : Int) (g f : Nat → Int) : Prop := u = f 6 ∧ hLn g f 5640 24
def hc7 (x y : Int) (f : Nat → Int) : Prop := x = f 7 ∧ y = f 8 ∧ 0 ≤ f 7 ∧ f 7 ≤ 1000
def hc8 (f : Nat → Int) : Prop := ∀ i : Nat, (i : Int) < f 4 → i < 250 → f (353 + 12 * i) < f 3 ∧ ((f (350 + 12 * i) = 0 ∨ f (350 + 12 * i) = 4) → f (354 + 12 * i) < f 1)
def hHs (M : zM) (b : Nat) (f : Nat → Int) : Prop := hc0 (M (b + 1) 3) (M (b + 2)) f ∧ hc1 (M (b + 3) 3) (M (b + 4)) f ∧ hc2 (M (b + 5) 3) (M (b + 6)) f ∧ hc3 (M (b + 7) 3) (M (b + 8)) f ∧ hc4 (M (b + 9) 3) (M (b + 10)) f ∧ hc5 (M (b + 12)) f ∧ hc6 (M (b + 15) 3) (M (b + 16)) f ∧ hc7 (M b 8) (M b 9) f ∧ hc8 f
