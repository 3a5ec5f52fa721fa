def hD (M : zM) (u : Int) (v : Nat → Int) : zM := zrow (zput M 18 3 (u + 1)) 19 (11 * u.toNat) 11 v
