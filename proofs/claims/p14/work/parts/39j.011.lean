def hLn (g f : Nat → Int) (s N : Nat) : Prop := ∀ j, j < N → g j = f (s + j)
def hSt3 (g f : Nat → Int) : Prop := ∀ i, i < 20 → g (3 * i) = f (80 + 3 * i) ∧ g (3 * i + 2) = f (82 + 3 * i) ∧ (0 ≤ f (82 + 3 * i) ∧ f (82 + 3 * i) ≤ 16383)
def hMR (f : Nat → Int) : Prop := ∀ i, i < 40 → (0 ≤ f (151 + 5 * i) ∧ f (151 + 5 * i) ≤ 9999) ∧ (f (154 + 5 * i) = 0 ∨ f (154 + 5 * i) = 1) ∧ (0 ≤ f (153 + 5 * i) ∧ f (153 + 5 * i) ≤ 1023)
def hAc (g f : Nat → Int) : Prop := ∀ i, i < 250 → (∀ k, k < 8 → g (11 * i + k) = f (350 + 12 * i + k)) ∧ (f (350 + 12 * i) ≠ 3 → g (11 * i + 8) = f (358 + 12 * i)) ∧ (f (350 + 12 * i) = 3 → g (11 * i + 8) = f (359 + 12 * i) ∧ g (11 * i + 9) = f (360 + 12 * i) ∧ g (11 * i + 10) = f (361 + 12 * i)) ∧ (0 ≤ f (351 + 12 * i) ∧ f (351 + 12 * i) ≤ 9999) ∧ (-1 ≤ f (357 + 12 * i) ∧ f (357 + 12 * i) ≤ 100)
def hc0 (u : Int) (g f : Nat → Int) : Prop := u = f 0 ∧ hLn g f 20 56
def hc1 (u : Int) (g f : Nat → Int) : Prop := u = f 1 ∧ hSt3 g f
def hc2 (u : Int) (g f : Nat → Int) : Prop := u = f 2 ∧ hLn g f 140 8
def hc3 (u : Int) (g f : Nat → Int) : Prop := u = f 3 ∧ hLn g f 150 200 ∧ hMR f
