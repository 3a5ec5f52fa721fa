/-! WHETHER A MEETING STANDS -/
def qSeats (M : zM) (m : Int) : Int := M 98 (140 + 2 * qMt M m 0).toNat
def qQuor (M : zM) (m : Int) : Int := M 98 (140 + 2 * qMt M m 0 + 1).toNat
/-- 1: it stands -/
def qStN (M : zM) (m : Int) : Int := if qMt M m 4 = 0 ∧ zband (qMt M m 2) (qSeats M m) = qSeats M m ∧ qQuor M m ≤ (qpc 31 (zband (qMt M m 3) (qSeats M m)).toNat : Nat) then 1 else 0
theorem qStN_v {M : zM} {m : Int} (h : qMt M m 4 ≠ 0) : qStN M m = 0 := if_neg (fun h' => h h'.1)
theorem qStN_c {M : zM} {m : Int} (h : zband (qMt M m 2) (qSeats M m) ≠ qSeats M m) : qStN M m = 0 := if_neg (fun h' => h h'.2.1)
theorem qStN_q {M : zM} {m : Int} (h : (qpc 31 (zband (qMt M m 3) (qSeats M m)).toNat : Nat) < qQuor M m) : qStN M m = 0 := if_neg (fun h' => absurd h'.2.2 (by omega))
theorem qStN_1 {M : zM} {m : Int} (h1 : qMt M m 4 = 0) (h2 : zband (qMt M m 2) (qSeats M m) = qSeats M m) (h3 : qQuor M m ≤ (qpc 31 (zband (qMt M m 3) (qSeats M m)).toNat : Nat)) : qStN M m = 1 := if_pos ⟨h1, h2, h3⟩
theorem qStN_4 {M : zM} {m : Int} (h : qStN M m = 1) : qMt M m 4 = 0 := by
  unfold qStN at h
  split at h
  · rename_i h'; exact h'.1
  · omega
