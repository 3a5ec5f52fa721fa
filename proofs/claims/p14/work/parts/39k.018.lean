section HK
variable {M : zM} {a b c d u x : Int} {v q : Nat → Int}
def hRel (v q : Nat → Int) : Prop := (∀ k, k < 8 → v k = q k) ∧ (q 0 ≠ 3 → v 8 = q 8) ∧ (q 0 = 3 → v 8 = q 9 ∧ v 9 = q 10 ∧ v 10 = q 11) ∧ (0 ≤ q 1 ∧ q 1 ≤ 9999) ∧ -1 ≤ q 7 ∧ q 7 ≤ 100
end HK
