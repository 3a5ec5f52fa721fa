section HK
variable {M : zM} {a b c d u x : Int} {v q : Nat → Int}
theorem hD0 : zput M 18 3 (u + 1) = hD M u (fun k => zput M 18 3 (u + 1) 19 (11 * u.toNat + k)) := zrow_id.symm
end HK
