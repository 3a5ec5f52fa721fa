def hE (M : zM) (u : Int) (q : Nat → Int) : zM := zrow M 98 (350 + 12 * u.toNat) 12 q
