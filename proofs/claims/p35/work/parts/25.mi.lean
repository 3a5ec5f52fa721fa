/-! THE MODEL'S INVARIANT; SMALL METHODS -/
/-- what lies in the row of all that is told, slot by slot -/
def qOS (j : Nat) (v : Int) : Prop := qin v ∧ (j = 0 → 0 ≤ v ∧ v ≤ 14) ∧ (j = 1 → 0 ≤ v ∧ v ≤ 20) ∧ (j = 2 → 0 ≤ v ∧ v ≤ 4) ∧ (j = 3 → 0 ≤ v ∧ v ≤ 40) ∧ (j = 4 → 0 ≤ v ∧ v ≤ 250) ∧ (j = 5 → 0 ≤ v ∧ v ≤ 10) ∧ (j = 6 → 0 ≤ v ∧ v ≤ 12) ∧ (∀ c : Nat, c < 14 → j = 21 + 4 * c → 0 ≤ v ∧ v ≤ 16383) ∧ (∀ u : Nat, u < 20 → j = 81 + 3 * u → -1 ≤ v ∧ v ≤ 9) ∧ (∀ m : Nat, m < 40 → j = 150 + 5 * m → 0 ≤ v ∧ v ≤ 3) ∧ (∀ a : Nat, a < 250 → (j = 353 + 12 * a → -1 ≤ v ∧ v ≤ 39) ∧ (j = 354 + 12 * a → -1 ≤ v ∧ v ≤ 19) ∧ (j = 355 + 12 * a → -1 ≤ v ∧ v ≤ 13) ∧ (j = 356 + 12 * a → -1 ≤ v ∧ v ≤ 249)) ∧ (∀ t : Nat, t < 8 → j = 3350 + 81 * t → 0 ≤ v ∧ v ≤ 80) ∧ (∀ o : Nat, o < 10 → (j = 4000 + 164 * o ∨ j = 4081 + 164 * o) → 0 ≤ v ∧ v ≤ 80)
/-- of acts that are there: what their sort asks for -/
def qRA (f : Nat → Int) : Prop := ∀ a : Nat, (a : Int) < f 4 → f (356 + 12 * a) < a ∧ (f (350 + 12 * a) = 5 → 0 ≤ f (356 + 12 * a)) ∧ (f (350 + 12 * a) = 1 → 0 ≤ f (356 + 12 * a)) ∧ (f (350 + 12 * a) = 2 → 0 ≤ f (356 + 12 * a)) ∧ (f (350 + 12 * a) = 0 → 0 ≤ f (355 + 12 * a)) ∧ (f (350 + 12 * a) = 4 → 0 ≤ f (355 + 12 * a)) ∧ (f (350 + 12 * a) = 0 → 0 ≤ f (354 + 12 * a)) ∧ (f (350 + 12 * a) = 4 → 0 ≤ f (354 + 12 * a)) ∧ (f (350 + 12 * a) = 6 → 0 ≤ f (354 + 12 * a)) ∧ (f (350 + 12 * a) = 3 → 1 ≤ f (360 + 12 * a))
def qSt (f : Nat → Int) : Prop := (∀ j, qOS j (f j)) ∧ qRA f
def qLJ (r k : Nat) : Bool := r == 108 || r == 109 || (r == 97 && (k == 22 || k == 23))
def qMC (r k : Nat) (x : Int) : Prop := (qLJ r k = false → qin x) ∧ (r = 100 ∨ r = 101 → x = 0 ∨ x = 1) ∧ (r = 97 → (k = 20 → x = 0 ∨ x = 1) ∧ (k = 30 → 0 ≤ x ∧ x ≤ 14) ∧ (k = 18 → 0 ≤ x ∧ x ≤ 14) ∧ (k = 34 → 0 ≤ x ∧ x ≤ 9) ∧ (k = 28 → 0 ≤ x ∧ x ≤ 16383)) ∧ (r = 115 → 0 ≤ x ∧ x ≤ 13) ∧ (r = 116 ∨ r = 117 → 0 ≤ x ∧ x ≤ 13)
/-- what a step of a text needs of values that lie there, and how many more lie there behind it -/
def qNd (x : Int) : Int := if x = 0 ∨ x = 1 then 0 else if x = 2 ∨ x = 3 ∨ x = 4 then 1 else if x = 14 then 3 else 2
def qEf (x : Int) : Int := if x = 0 ∨ x = 1 then 1 else if x = 2 ∨ x = 3 ∨ x = 4 then 0 else if x = 14 then -2 else -1
def qDp (f : Nat → Int) : Nat → Int
  | 0 => 0
  | k + 1 => qDp f k + qEf (f k)
/-- the steps never run under -/
def qTS (M : zM) : Prop := (0 ≤ M 97 7 ∧ M 97 7 ≤ 80) ∧ ∀ j : Nat, j < (M 97 7).toNat → qNd (M 105 j) ≤ qDp (M 105) j ∧ (M 105 j = 1 → 0 ≤ M 106 j ∧ M 106 j ≤ 7)
def qD (M : zM) : Int := qDp (M 105) (M 97 7).toNat
/-- what a sign that waits holds back -/
def qwt (x : Int) : Int := if (5 ≤ x ∧ x ≤ 13) ∨ x = 15 ∨ x = 16 then 1 else if x = 17 then 2 else 0
def qWs (f : Nat → Int) : Nat → Int
  | 0 => 0
  | k + 1 => qWs f k + qwt (f k)
def qWt (M : zM) : Int := qWs (M 107) (M 97 10).toNat
def qMI (M : zM) : Prop := qSt (M 98) ∧ qSt (M 99) ∧ qSt (fun j => M 99 (5664 + j)) ∧ (∀ r k, 97 ≤ r → qMC r k (M r k)) ∧ qTS M
/-- frames: the model's own fields one by one -/
def qCd (r k : Nat) : Nat := if r = 97 then 1000 + k else r
def qFm (g : List Nat) (M M' : zM) : Prop := ∀ i j, qCd i j ∉ g → M' i j = M i j
theorem qFm.rfl {g : List Nat} {M : zM} : qFm g M M := fun _ _ _ => Eq.refl _
theorem qFm.tr {g g' : List Nat} {M M1 M2 : zM} (h : qFm g M M1) (h' : qFm g' M1 M2) (hs : g' ⊆ g) : qFm g M M2 := fun i j hi => (h' i j (fun hx => hi (hs hx))).trans (h i j hi)
theorem qFm.put {g : List Nat} {M M1 : zM} {r k : Nat} {x : Int} (h : qFm g M M1) (hr : qCd r k ∈ g) : qFm g M (zput M1 r k x) := fun i j hi => by
  rcases qput_or M1 r k i j x with e | ⟨rfl, rfl, -⟩
  · rw [e]; exact h i j hi
  · exact absurd hr hi
theorem qFm.pa {g : List Nat} {M M1 : zM} {r k : Nat} {x : Int} (h : qFm g M M1) (h97 : r ≠ 97) (hr : r ∈ g) : qFm g M (zput M1 r k x) := h.put (by simp only [qCd, if_neg h97]; exact hr)
theorem qFm.ar {g : List Nat} {M M1 : zM} (h : qFm g M M1) (r j : Nat) (h97 : r ≠ 97) (hr : r ∉ g) : M1 r j = M r j := h r j (by simp only [qCd, if_neg h97]; exact hr)
theorem qFm.fn {g : List Nat} {M M1 : zM} (h : qFm g M M1) (r : Nat) (h97 : r ≠ 97) (hr : r ∉ g) : M1 r = M r := by funext j; exact h.ar r j h97 hr
/-- a method of the model is good: it returns, keeps the invariant, changes no cell or field but those of g -/
def qOkN (n d μ : Nat) (as : List zV) (mL : Nat) (g : List Nat) (M : zM) (R : Option zV → zM → Prop) : Prop :=
  zG n (0, 0) d μ (0, zini as mL, []) M (fun v M' => (qMI M' ∧ qFm g M M') ∧ R v M')
theorem qNd_ef (x : Int) : ((x = 0 ∨ x = 1) → qNd x = 0 ∧ qEf x = 1) ∧ ((x = 2 ∨ x = 3 ∨ x = 4) → qNd x = 1 ∧ qEf x = 0) ∧ (x = 14 → qNd x = 3 ∧ qEf x = -2) ∧ ((x ≠ 0 ∧ x ≠ 1 ∧ x ≠ 2 ∧ x ≠ 3 ∧ x ≠ 4 ∧ x ≠ 14) → qNd x = 2 ∧ qEf x = -1) := by
  unfold qNd qEf
  refine ⟨fun h => ⟨?_, ?_⟩, fun h => ⟨?_, ?_⟩, fun h => ⟨?_, ?_⟩, fun h => ⟨?_, ?_⟩⟩ <;> (repeat' split) <;> omega
theorem qEf_le (x : Int) : -2 ≤ qEf x ∧ qEf x ≤ 1 := by
  have := qNd_ef x; omega
theorem qDp_le (f : Nat → Int) : ∀ k : Nat, qDp f k ≤ k
  | 0 => by simp [qDp]
  | k + 1 => by
    have := qDp_le f k
    have := qEf_le (f k)
    show qDp f k + qEf (f k) ≤ _
    omega
theorem qwt_is (x : Int) : (((5 ≤ x ∧ x ≤ 13) ∨ x = 15 ∨ x = 16) → qwt x = 1) ∧ (x = 17 → qwt x = 2) ∧ ((x < 5 ∨ x = 14 ∨ 17 < x) → qwt x = 0) ∧ 0 ≤ qwt x := by
  unfold qwt
  refine ⟨fun h => if_pos h, fun h => ?_, fun h => ?_, ?_⟩
  · rw [if_neg (by omega), if_pos h]
  · rw [if_neg (by omega), if_neg (by omega)]
  · split
    · omega
    · split <;> omega
theorem qWs_nn (f : Nat → Int) : ∀ k : Nat, 0 ≤ qWs f k
  | 0 => Int.le_refl _
  | k + 1 => by
    have := qWs_nn f k
    have := qwt_is (f k)
    show 0 ≤ qWs f k + qwt (f k)
    omega
theorem qDp_congr {f g : Nat → Int} : ∀ k : Nat, (∀ j, j < k → f j = g j) → qDp f k = qDp g k
  | 0, _ => rfl
  | k + 1, h => by
    show qDp f k + qEf (f k) = qDp g k + qEf (g k)
    rw [qDp_congr k (fun j hj => h j (by omega)), h k (by omega)]
theorem qWs_congr {f g : Nat → Int} : ∀ k : Nat, (∀ j, j < k → f j = g j) → qWs f k = qWs g k
  | 0, _ => rfl
  | k + 1, h => by
    show qWs f k + qwt (f k) = qWs g k + qwt (g k)
    rw [qWs_congr k (fun j hj => h j (by omega)), h k (by omega)]
/-- the row of hours as a number -/
def qHv (M : zM) : Int := 1475789056 * M 117 0 + 105413504 * M 117 1 + 7529536 * M 117 2 + 537824 * M 117 3 + 38416 * M 117 4 + 2744 * M 117 5 + 196 * M 117 6 + 14 * M 117 7 + M 117 8
def qHp (k : Nat) : Int := 14 ^ (8 - k)
theorem qHv_put {M : zM} {r k : Nat} {x : Int} (h1 : r ≠ 117) (_h2 : qCd r k ≠ 1117) : qHv (zput M r k x) = qHv M := by
  unfold qHv
  have e : ∀ j, zput M r k x 117 j = M 117 j := fun j => qput_ne (fun e => h1 e.symm)
  simp only [e]
theorem qHv_pa {M : zM} {r k : Nat} {x : Int} (h1 : r ≠ 117) (_h2 : r ≠ 97) : qHv (zput M r k x) = qHv M := by
  unfold qHv
  have e : ∀ j, zput M r k x 117 j = M 117 j := fun j => qput_ne (fun e => h1 e.symm)
  simp only [e]
theorem qHv_fr {g : List Nat} {M M1 : zM} (h : qFm g M M1) (h1 : 117 ∉ g) (_h2 : 1117 ∉ g) : qHv M1 = qHv M := by
  unfold qHv; rw [h.fn 117 (by decide) h1]
theorem qHv_set {M : zM} {j x : Int} (hj : 0 ≤ j ∧ j ≤ 8) : qHv (zput M 117 j.toNat x) = qHv M + (x - M 117 j.toNat) * qHp j.toNat := by
  rcases (by omega : j = 0 ∨ j = 1 ∨ j = 2 ∨ j = 3 ∨ j = 4 ∨ j = 5 ∨ j = 6 ∨ j = 7 ∨ j = 8) with rfl | rfl | rfl | rfl | rfl | rfl | rfl | rfl | rfl <;> simp [qHv, qHp, zput] <;> omega
theorem qD_put {M : zM} {r k : Nat} {x : Int} (h1 : r ≠ 105) (h2 : qCd r k ≠ 1007) : qD (zput M r k x) = qD M := by
  unfold qD
  have e1 : zput M r k x 105 = M 105 := by funext j; exact qput_ne (fun e => h1 e.symm)
  have e2 : zput M r k x 97 7 = M 97 7 := by
    rcases qput_or M r k 97 7 x with e | ⟨rfl, rfl, -⟩
    · exact e
    · exact absurd rfl h2
  rw [e1, e2]
theorem qWt_put {M : zM} {r k : Nat} {x : Int} (h1 : r ≠ 107) (h2 : qCd r k ≠ 1010) : qWt (zput M r k x) = qWt M := by
  unfold qWt
  have e1 : zput M r k x 107 = M 107 := by funext j; exact qput_ne (fun e => h1 e.symm)
  have e2 : zput M r k x 97 10 = M 97 10 := by
    rcases qput_or M r k 97 10 x with e | ⟨rfl, rfl, -⟩
    · exact e
    · exact absurd rfl h2
  rw [e1, e2]
theorem qD_pa {M : zM} {r k : Nat} {x : Int} (h1 : r ≠ 105) (h2 : r ≠ 97) : qD (zput M r k x) = qD M := by
  unfold qD
  have e1 : zput M r k x 105 = M 105 := by funext j; exact qput_ne (fun e => h1 e.symm)
  rw [e1, qput_ne (fun e => h2 e.symm)]
theorem qWt_pa {M : zM} {r k : Nat} {x : Int} (h1 : r ≠ 107) (h2 : r ≠ 97) : qWt (zput M r k x) = qWt M := by
  unfold qWt
  have e1 : zput M r k x 107 = M 107 := by funext j; exact qput_ne (fun e => h1 e.symm)
  rw [e1, qput_ne (fun e => h2 e.symm)]
theorem qD_fr {g : List Nat} {M M1 : zM} (h : qFm g M M1) (h1 : 105 ∉ g) (h2 : 1007 ∉ g) : qD M1 = qD M := by
  unfold qD; rw [h.fn 105 (by decide) h1, h 97 7 h2]
theorem qWt_fr {g : List Nat} {M M1 : zM} (h : qFm g M M1) (h1 : 107 ∉ g) (h2 : 1010 ∉ g) : qWt M1 = qWt M := by
  unfold qWt; rw [h.fn 107 (by decide) h1, h 97 10 h2]
/-- one that waited is taken: what it held back -/
theorem qWt_pop {M M1 : zM} {x y : Int} (hM : M1 = zput M 97 10 x) (hx : x = M 97 10 - 1) (h0 : 0 ≤ x) (hy : y = M 107 x.toNat) : qWt M = qWt M1 + qwt y := by
  unfold qWt
  have e1 : M1 107 = M 107 := by rw [hM]; funext j; exact qput_ne (by decide)
  have e2 : M1 97 10 = x := by rw [hM]; exact qput_eq
  rw [e1, e2, hy, show (M 97 10).toNat = x.toNat + 1 by omega]
  rfl
/-- the last that waits becomes another -/
theorem qWt_top {M M1 : zM} {x y z : Int} (hM : M1 = zput M 107 x.toNat z) (hx : x = M 97 10 - 1) (h0 : 0 ≤ x) (hy : y = M 107 x.toNat) : qWt M1 = qWt M - qwt y + qwt z := by
  unfold qWt
  have e2 : M1 97 10 = M 97 10 := by rw [hM]; exact qput_ne (by decide)
  have e3 : ∀ j, j < x.toNat → M1 107 j = M 107 j := fun j hj => by rw [hM]; exact qput_nk (by omega)
  have e4 : M1 107 x.toNat = z := by rw [hM]; exact qput_eq
  rw [e2, show (M 97 10).toNat = x.toNat + 1 by omega]
  show qWs (M1 107) x.toNat + qwt (M1 107 x.toNat) = qWs (M 107) x.toNat + qwt (M 107 x.toNat) - qwt y + qwt z
  rw [qWs_congr x.toNat e3, e4, hy]
  omega
/-- what an act tells -/
def qA (M : zM) (a k : Int) : Int := M 98 (350 + 12 * a + k).toNat
section MI
variable {M : zM}
theorem qMI.sin (h : qMI M) (j : Nat) : qin (M 98 j) := (h.1.1 j).1
theorem qMI.iin (h : qMI M) (j : Nat) : qin (M 99 j) := (h.2.1.1 j).1
theorem qMI.cnt0 (h : qMI M) : 0 ≤ M 98 0 ∧ M 98 0 ≤ 14 := (h.1.1 0).2.1 rfl
theorem qMI.cnt1 (h : qMI M) : 0 ≤ M 98 1 ∧ M 98 1 ≤ 20 := (h.1.1 1).2.2.1 rfl
theorem qMI.cnt2 (h : qMI M) : 0 ≤ M 98 2 ∧ M 98 2 ≤ 4 := (h.1.1 2).2.2.2.1 rfl
theorem qMI.cnt3 (h : qMI M) : 0 ≤ M 98 3 ∧ M 98 3 ≤ 40 := (h.1.1 3).2.2.2.2.1 rfl
theorem qMI.cnt4 (h : qMI M) : 0 ≤ M 98 4 ∧ M 98 4 ≤ 250 := (h.1.1 4).2.2.2.2.2.1 rfl
theorem qMI.cnt5 (h : qMI M) : 0 ≤ M 98 5 ∧ M 98 5 ≤ 10 := (h.1.1 5).2.2.2.2.2.2.1 rfl
theorem qMI.cnt6 (h : qMI M) : 0 ≤ M 98 6 ∧ M 98 6 ≤ 12 := (h.1.1 6).2.2.2.2.2.2.2.1 rfl
theorem qMI.cnts (h : qMI M) (c : Nat) (hc : c ≤ 6) : 0 ≤ M 98 c ∧ M 98 c ≤ 250 := by
  have h0 := h.cnt0; have h1 := h.cnt1; have h2 := h.cnt2; have h3 := h.cnt3; have h4 := h.cnt4; have h5 := h.cnt5; have h6 := h.cnt6
  rcases (by omega : c = 0 ∨ c = 1 ∨ c = 2 ∨ c = 3 ∨ c = 4 ∨ c = 5 ∨ c = 6) with rfl | rfl | rfl | rfl | rfl | rfl | rfl <;> omega
theorem qMI.leans (h : qMI M) (c i : Int) (hc : 0 ≤ c ∧ c < 14) (hi : i = 20 + 4 * c + 1) : 0 ≤ M 98 i.toNat ∧ M 98 i.toNat ≤ 16383 := (h.1.1 _).2.2.2.2.2.2.2.2.1 c.toNat (by omega) (by omega)
theorem qMI.chosen (h : qMI M) (u i : Int) (hc : 0 ≤ u ∧ u < 20) (hi : i = 80 + 3 * u + 1) : -1 ≤ M 98 i.toNat ∧ M 98 i.toNat ≤ 9 := (h.1.1 _).2.2.2.2.2.2.2.2.2.1 u.toNat (by omega) (by omega)
theorem qMI.brd (h : qMI M) (m i : Int) (hc : 0 ≤ m ∧ m < 40) (hi : i = 150 + 5 * m) : 0 ≤ M 98 i.toNat ∧ M 98 i.toNat ≤ 3 := (h.1.1 _).2.2.2.2.2.2.2.2.2.2.1 m.toNat (by omega) (by omega)
theorem qMI.txt (h : qMI M) (t i : Int) (hc : 0 ≤ t ∧ t < 8) (hi : i = 3350 + 81 * t) : 0 ≤ M 98 i.toNat ∧ M 98 i.toNat ≤ 80 := (h.1.1 _).2.2.2.2.2.2.2.2.2.2.2.2.1 t.toNat (by omega) (by omega)
theorem qMI.ord (h : qMI M) (o i : Int) (hc : 0 ≤ o ∧ o < 10) (hi : i = 4000 + 164 * o ∨ i = 4081 + 164 * o) : 0 ≤ M 98 i.toNat ∧ M 98 i.toNat ≤ 80 := (h.1.1 _).2.2.2.2.2.2.2.2.2.2.2.2.2 o.toNat (by omega) (by omega)
theorem qMI.act (h : qMI M) (a : Int) (ha : 0 ≤ a ∧ a < 250) : (-1 ≤ qA M a 3 ∧ qA M a 3 ≤ 39) ∧ (-1 ≤ qA M a 4 ∧ qA M a 4 ≤ 19) ∧ (-1 ≤ qA M a 5 ∧ qA M a 5 ≤ 13) ∧ (-1 ≤ qA M a 6 ∧ qA M a 6 ≤ 249) := by
  have h1 := fun j => (h.1.1 j).2.2.2.2.2.2.2.2.2.2.2.1 a.toNat (by omega)
  exact ⟨(h1 _).1 (by omega), (h1 _).2.1 (by omega), (h1 _).2.2.1 (by omega), (h1 _).2.2.2 (by omega)⟩
theorem qMI.rel (h : qMI M) (a : Int) (ha : 0 ≤ a) (ha' : a < M 98 4) : qA M a 6 < a ∧ (qA M a 0 = 5 → 0 ≤ qA M a 6) ∧ (qA M a 0 = 1 → 0 ≤ qA M a 6) ∧ (qA M a 0 = 2 → 0 ≤ qA M a 6) ∧ (qA M a 0 = 0 → 0 ≤ qA M a 5) ∧ (qA M a 0 = 4 → 0 ≤ qA M a 5) ∧ (qA M a 0 = 0 → 0 ≤ qA M a 4) ∧ (qA M a 0 = 4 → 0 ≤ qA M a 4) ∧ (qA M a 0 = 6 → 0 ≤ qA M a 4) ∧ (qA M a 0 = 3 → 1 ≤ qA M a 10) := by
  have h1 := h.1.2 a.toNat (by omega)
  unfold qA
  rw [show (350 + 12 * a + 0).toNat = 350 + 12 * a.toNat by omega, show (350 + 12 * a + 6).toNat = 356 + 12 * a.toNat by omega, show (350 + 12 * a + 5).toNat = 355 + 12 * a.toNat by omega, show (350 + 12 * a + 4).toNat = 354 + 12 * a.toNat by omega, show (350 + 12 * a + 10).toNat = 360 + 12 * a.toNat by omega]
  refine ⟨by omega, h1.2⟩
theorem qMI.rg (h : qMI M) (r k : Nat) (hr : 97 ≤ r) (hl : qLJ r k = false) : qin (M r k) := (h.2.2.2.1 r k hr).1 hl
theorem qLJ_arr {r : Nat} (k : Nat) (h : r ≠ 97 ∧ r ≠ 108 ∧ r ≠ 109) : qLJ r k = false := by
  have h1 : (r == 97) = false := by simpa using h.1
  have h2 : (r == 108) = false := by simpa using h.2.1
  have h3 : (r == 109) = false := by simpa using h.2.2
  simp [qLJ, h1, h2, h3]
theorem qMI.ra (h : qMI M) (r k : Nat) (hr : 97 ≤ r) (hl : r ≠ 97 ∧ r ≠ 108 ∧ r ≠ 109) : qin (M r k) := h.rg r k hr (qLJ_arr k hl)
theorem qMI.bl100 (h : qMI M) (k : Nat) : M 100 k = 0 ∨ M 100 k = 1 := (h.2.2.2.1 100 k (by decide)).2.1 (by decide)
theorem qMI.bl101 (h : qMI M) (k : Nat) : M 101 k = 0 ∨ M 101 k = 1 := (h.2.2.2.1 101 k (by decide)).2.1 (by decide)
theorem qMI.f20 (h : qMI M) : M 97 20 = 0 ∨ M 97 20 = 1 := ((h.2.2.2.1 97 20 (by decide)).2.2.1 rfl).1 rfl
theorem qMI.f30 (h : qMI M) : 0 ≤ M 97 30 ∧ M 97 30 ≤ 14 := ((h.2.2.2.1 97 30 (by decide)).2.2.1 rfl).2.1 rfl
theorem qMI.f18 (h : qMI M) : 0 ≤ M 97 18 ∧ M 97 18 ≤ 14 := ((h.2.2.2.1 97 18 (by decide)).2.2.1 rfl).2.2.1 rfl
theorem qMI.f34 (h : qMI M) : 0 ≤ M 97 34 ∧ M 97 34 ≤ 9 := ((h.2.2.2.1 97 34 (by decide)).2.2.1 rfl).2.2.2.1 rfl
theorem qMI.f28 (h : qMI M) : 0 ≤ M 97 28 ∧ M 97 28 ≤ 16383 := ((h.2.2.2.1 97 28 (by decide)).2.2.1 rfl).2.2.2.2 rfl
theorem qMI.c115 (h : qMI M) (k : Nat) : 0 ≤ M 115 k ∧ M 115 k ≤ 13 := (h.2.2.2.1 115 k (by decide)).2.2.2.1 rfl
theorem qMI.c116 (h : qMI M) (k : Nat) : 0 ≤ M 116 k ∧ M 116 k ≤ 13 := (h.2.2.2.1 116 k (by decide)).2.2.2.2 (.inl rfl)
theorem qMI.c117 (h : qMI M) (k : Nat) : 0 ≤ M 117 k ∧ M 117 k ≤ 13 := (h.2.2.2.1 117 k (by decide)).2.2.2.2 (.inr rfl)
theorem qTS.put {r k : Nat} {x : Int} (h : qTS M) (h1 : r ≠ 105) (h2 : r ≠ 106) (h3 : qCd r k ≠ 1007) : qTS (zput M r k x) := by
  have e1 : zput M r k x 105 = M 105 := by funext j; exact qput_ne (fun e => h1 e.symm)
  have e3 : zput M r k x 106 = M 106 := by funext j; exact qput_ne (fun e => h2 e.symm)
  have e2 : zput M r k x 97 7 = M 97 7 := by
    rcases qput_or M r k 97 7 x with e | ⟨rfl, rfl, -⟩
    · exact e
    · exact absurd rfl h3
  unfold qTS
  rw [e1, e2, e3]; exact h
theorem qMI.put {r k : Nat} {x : Int} (h : qMI M) (h1 : r ≠ 98 ∧ r ≠ 99 ∧ 97 ≤ r ∧ r ≠ 105 ∧ r ≠ 106) (h2 : qCd r k ≠ 1007) (hx : qMC r k x) : qMI (zput M r k x) := by
  have e98 : zput M r k x 98 = M 98 := by funext j; exact qput_ne (fun e => h1.1 e.symm)
  have e99 : zput M r k x 99 = M 99 := by funext j; exact qput_ne (fun e => h1.2.1 e.symm)
  refine ⟨by rw [e98]; exact h.1, by rw [e99]; exact h.2.1, by rw [e99]; exact h.2.2.1, fun i j hi => ?_, h.2.2.2.2.put h1.2.2.2.1 h1.2.2.2.2 h2⟩
  rcases qput_or M r k i j x with e | ⟨rfl, rfl, e⟩
  · rw [e]; exact h.2.2.2.1 i j hi
  · rw [e]; exact hx
theorem qCd_a {r k : Nat} (h : r ≠ 97) (h' : r ≠ 1007) : qCd r k ≠ 1007 := by simp only [qCd, if_neg h]; exact h'
/-- no steps yet -/
theorem qMI.zero (h : qMI M) : qMI (zput M 97 7 0) := by
  have e98 : zput M 97 7 0 98 = M 98 := by funext j; exact qput_ne (by decide)
  have e99 : zput M 97 7 0 99 = M 99 := by funext j; exact qput_ne (by decide)
  refine ⟨by rw [e98]; exact h.1, by rw [e99]; exact h.2.1, by rw [e99]; exact h.2.2.1, fun i j hi => ?_, ?_⟩
  · rcases qput_or M 97 7 i j 0 with e | ⟨rfl, rfl, e⟩
    · rw [e]; exact h.2.2.2.1 i j hi
    · rw [e]; exact ⟨fun _ => by omega, fun h => by omega, fun _ => ⟨fun h => by omega, fun h => by omega, fun h => by omega, fun h => by omega, fun h => by omega⟩, fun h => by omega, fun h => by omega⟩
  · unfold qTS
    rw [qput_eq]
    exact ⟨by omega, fun j hj => absurd hj (by simp)⟩
theorem qMI.steps (h : qMI M) : 0 ≤ M 97 7 ∧ M 97 7 ≤ 80 := h.2.2.2.2.1
/-- a step that is there -/
theorem qMI.safe (h : qMI M) (i x : Int) (hi : 0 ≤ i ∧ i < M 97 7) (hx : x = M 105 i.toNat) : ((x = 0 ∨ x = 1) → qDp (M 105) (i + 1).toNat = qDp (M 105) i.toNat + 1 ∧ 0 ≤ qDp (M 105) i.toNat) ∧ ((x = 2 ∨ x = 3 ∨ x = 4) → qDp (M 105) (i + 1).toNat = qDp (M 105) i.toNat ∧ 1 ≤ qDp (M 105) i.toNat) ∧ (x = 14 → qDp (M 105) (i + 1).toNat = qDp (M 105) i.toNat - 2 ∧ 3 ≤ qDp (M 105) i.toNat) ∧ ((x ≠ 0 ∧ x ≠ 1 ∧ x ≠ 2 ∧ x ≠ 3 ∧ x ≠ 4 ∧ x ≠ 14) → qDp (M 105) (i + 1).toNat = qDp (M 105) i.toNat - 1 ∧ 2 ≤ qDp (M 105) i.toNat) ∧ qDp (M 105) i.toNat ≤ i ∧ (x = 1 → 0 ≤ M 106 i.toNat ∧ M 106 i.toNat ≤ 7) := by
  have h1 := h.2.2.2.2.2 i.toNat (by omega)
  have h2 := qDp_le (M 105) i.toNat
  have h3 := qNd_ef x
  have e : qDp (M 105) (i + 1).toNat = qDp (M 105) i.toNat + qEf (M 105 i.toNat) := by
    rw [show (i + 1).toNat = i.toNat + 1 by omega]; rfl
  rw [← hx] at h1 e
  refine ⟨fun hh => ?_, fun hh => ?_, fun hh => ?_, fun hh => ?_, by omega, h1.2⟩ <;> omega
theorem qSt.put {f : Nat → Int} {j : Nat} {x : Int} (h : qSt f) (hx : qOS j x) (hr : qRA (fun i => if i = j then x else f i)) : qSt (fun i => if i = j then x else f i) := by
  refine ⟨fun i => ?_, hr⟩
  by_cases e : i = j
  · subst e; simp only [if_pos]; exact hx
  · simp only [if_neg e]; exact h.1 i
theorem qMC98 {k : Nat} {x : Int} (h : qin x) : qMC 98 k x := ⟨fun _ => h, fun h => by omega, fun h => by omega, fun h => by omega, fun h => by omega⟩
theorem qMI.put98 {j : Nat} {x : Int} (h : qMI M) (hx : qOS j x) (hr : qRA (zput M 98 j x 98)) : qMI (zput M 98 j x) := by
  have e98 : zput M 98 j x 98 = fun i => if i = j then x else M 98 i := by funext i; simp [zput]
  have e99 : zput M 98 j x 99 = M 99 := by funext j; exact qput_ne (by decide)
  rw [e98] at hr
  refine ⟨by rw [e98]; exact h.1.put hx hr, by rw [e99]; exact h.2.1, by rw [e99]; exact h.2.2.1, fun r k hk => ?_, h.2.2.2.2.put (by decide) (by decide) (qCd_a (by decide) (by decide))⟩
  rcases qput_or M 98 j r k x with e | ⟨rfl, rfl, e⟩
  · rw [e]; exact h.2.2.2.1 r k hk
  · rw [e]; exact qMC98 hx.1
/-- slots that no act's sort speaks of -/
theorem qRA.put {f : Nat → Int} {j : Nat} {x : Int} (h : qRA f) (h4 : j ≠ 4) (hj : j < 350 ∨ 3350 ≤ j ∨ f 4 ≤ ((j - 350) / 12 : Nat)) (hf : f 4 ≤ 250) : qRA (fun i => if i = j then x else f i) := by
  intro a ha
  simp only at ha ⊢
  rw [if_neg (Ne.symm h4)] at ha
  rw [if_neg (by omega), if_neg (by omega), if_neg (by omega), if_neg (by omega), if_neg (by omega)]
  exact h a ha
theorem qMI.put98' {j : Nat} {x : Int} (h : qMI M) (hx : qOS j x) (h4 : j ≠ 4) (hj : j < 350 ∨ 3350 ≤ j ∨ M 98 4 ≤ ((j - 350) / 12 : Nat)) : qMI (zput M 98 j x) := by
  refine h.put98 hx ?_
  have e98 : zput M 98 j x 98 = fun i => if i = j then x else M 98 i := by funext i; simp [zput]
  rw [e98]
  exact h.1.2.put h4 hj h.cnt4.2
end MI
section QM
variable {n : Nat} {ct : Nat × Nat} {d μ : Nat} {Q : Option zV → zM → Prop} {M : zM} {code : List zE} {mL : Nat} {B : Nat × Nat} {pc : Nat} {L st : List zV}
theorem zG_putj {n' r ci k idx : Nat} {x : Int} {z : Int} {ts : List Nat} {fts : List zFT} (hd : 0 < d) (hm : zP μ = (code, mL, B)) (he : zat code pc = some (pc, .putfield idx, n', (ci, k, z, ts))) (h8 : 8 ≤ r) (hr : (zSH n)[r]? = some (.inr (ci, fts))) (hf : fts[k]? = some (.inr 1)) (K : zG n ct d μ (n', L, st) (zput M r k x) Q) : zG n ct d μ (pc, L, .inr (.inl x) :: .inr (.inr (some r)) :: st) M Q := by
  refine zG_one hd hm he ?_ K
  show zpf ci k n' L (.inr (.inl x) :: .inr (.inr (some r)) :: st) (zSH n, M, ct.1, ct.2) = _
  simp only [zpf, hr]
  rw [if_neg (by omega), if_pos trivial]
  simp only [hf]; rfl
theorem qx_in (hd : 1 ≤ d) (_hC : qMI M) (a : Int) (_ha : qin a) (b : Int) (_hb : qin b) (c : Int) (_hc : qin c) : qOkP n d 180 [.inl a, .inl b, .inl c] 3 M (qRi (fun x => 0 ≤ x ∧ x ≤ 1 ∧ (x = 1 ↔ b ≤ a ∧ a ≤ c))) := by
  have hz := zp_180
  have hd0 : 0 < d := by omega
  show zG n (0, 0) d 180 (0, [.inl a, .inl b, .inl c], []) M _
  have j14 : ¬ (b ≤ a ∧ a ≤ c) → zG n (0, 0) d 180 (14, [.inl a, .inl b, .inl c], []) M (fun v M' => M' = M ∧ qRi (fun x => 0 ≤ x ∧ x ≤ 1 ∧ (x = 1 ↔ b ≤ a ∧ a ≤ c)) v) := by
    intro hn
    refine zG_blk (c' := (15, [.inl a, .inl b, .inl c], [.inl 0])) 1 hd0 hz rfl ?_
    exact zG_zret hd0 hz rfl (by omega) ⟨rfl, _, rfl, by omega⟩
  refine zG_blk (c' := (2, [.inl a, .inl b, .inl c], [.inl b, .inl a])) 2 hd0 hz rfl ?_
  refine zG_icmp_lt hd0 hz rfl (fun hb2 => j14 (by omega)) (fun hb2 => ?_)
  refine zG_blk (c' := (7, [.inl a, .inl b, .inl c], [.inl c, .inl a])) 2 hd0 hz rfl ?_
  refine zG_icmp_gt hd0 hz rfl (fun hb2 => j14 (by omega)) (fun hb2 => ?_)
  refine zG_blk (c' := (15, [.inl a, .inl b, .inl c], [.inl 1])) 2 hd0 hz rfl ?_
  exact zG_zret hd0 hz rfl (by omega) ⟨rfl, _, rfl, by omega⟩
theorem qx_is (hd : 2 ≤ d) (hC : qMI M) (c : Nat) (hc : c ≤ 6) (i : Int) (hi : qin i) : qOkP n d 182 [zR 97, .inl c, .inl i] 3 M (qRi (fun x => 0 ≤ x ∧ x ≤ 1 ∧ (x = 1 ↔ 0 ≤ i ∧ i < M 98 c))) := by
  have hz := zp_182
  have hd0 : 0 < d := by omega
  have h1 := hC.cnts c hc
  show zG n (0, 0) d 182 (0, [zR 97, .inl c, .inl i], []) M _
  refine zG_blk (c' := (7, [zR 97, .inl c, .inl i], [.inl c, zR 98, .inl 0, .inl i])) 5 hd0 hz rfl ?_
  refine zG_iald hd0 hz rfl rfl (.inl rfl) (by omega) ?_
  show zG n (0, 0) d 182 (8, [zR 97, .inl c, .inl i], [.inl (M 98 c), .inl 0, .inl i]) M _
  refine zG_blk (c' := (10, [zR 97, .inl c, .inl i], [.inl (M 98 c - 1), .inl 0, .inl i])) 2 hd0 hz (by rw [show M 98 c - 1 = w32 (M 98 c - 1) from (w32_id (by omega)).symm]; rfl) ?_
  refine zG_call hd0 hz zp_180 rfl rfl (Nat.le_of_ble_eq_true rfl) ⟨Nat.le_refl _, Nat.le_refl _⟩ (qx_in (by omega) hC i hi 0 (by omega) _ (by omega)) (fun vr Mr hr => ?_)
  obtain ⟨rfl, x, rfl, hx⟩ := hr
  exact zG_zret hd0 hz rfl (by omega) ⟨rfl, _, rfl, by omega⟩
theorem qx_one (hd : 1 ≤ d) (hC : qMI M) (c : Nat) (hc : c ≤ 6) : zG n (0, 0) d 183 (0, zini [zR 97, .inl c] 2, []) M (fun v M' => M' = zput M 98 c (M 98 c + 1) ∧ v = some (.inl (M 98 c))) := by
  have hz := zp_183
  have hd0 : 0 < d := by omega
  have h1 := hC.cnts c hc
  show zG n (0, 0) d 183 (0, [zR 97, .inl c], []) M _
  refine zG_blk (c' := (6, [zR 97, .inl c], [.inl c, zR 98, .inl c, zR 98])) 4 hd0 hz rfl ?_
  refine zG_iald hd0 hz rfl rfl (.inl rfl) (by omega) ?_
  show zG n (0, 0) d 183 (7, [zR 97, .inl c], [.inl (M 98 c), .inl c, zR 98]) M _
  refine zG_blk (c' := (9, [zR 97, .inl c], [.inl (M 98 c + 1), .inl c, zR 98])) 2 hd0 hz (by rw [show M 98 c + 1 = w32 (M 98 c + 1) from (w32_id (by omega)).symm]; rfl) ?_
  refine zG_iast hd0 hz rfl rfl (by omega) ?_
  show zG n (0, 0) d 183 (10, [zR 97, .inl c], []) (zput M 98 c (M 98 c + 1)) _
  refine zG_blk (c' := (15, [zR 97, .inl c], [.inl c, zR 98])) 3 hd0 hz rfl ?_
  refine zG_iald hd0 hz rfl rfl (.inl rfl) (by omega) ?_
  show zG n (0, 0) d 183 (16, [zR 97, .inl c], [.inl (zput M 98 c (M 98 c + 1) 98 c)]) (zput M 98 c (M 98 c + 1)) _
  rw [qput_eq]
  refine zG_blk (c' := (18, [zR 97, .inl c], [.inl (M 98 c)])) 2 hd0 hz (by
    have e : w32 (M 98 c + 1 - 1) = M 98 c := by rw [w32_id (by omega)]; omega
    rw [show (.inl (M 98 c) : zV) = .inl (w32 (M 98 c + 1 - 1)) from by rw [e]]; rfl) ?_
  exact zG_ret hd0 hz rfl rfl ⟨rfl, rfl⟩
theorem qx_act (hd : 1 ≤ d) (hC : qMI M) (a : Int) (ha : 0 ≤ a ∧ a < 250) (k : Int) (hk : 0 ≤ k ∧ k < 12) : qOkP n d 194 [zR 97, .inl a, .inl k] 3 M (qRi (fun x => qin x ∧ x = qA M a k ∧ (k = 3 → -1 ≤ x ∧ x ≤ 39) ∧ (k = 4 → -1 ≤ x ∧ x ≤ 19) ∧ (k = 5 → -1 ≤ x ∧ x ≤ 13) ∧ (k = 6 → -1 ≤ x ∧ x ≤ 249))) := by
  have hz := zp_194
  have hd0 : 0 < d := by omega
  have h1 := hC.act a ha
  show zG n (0, 0) d 194 (0, [zR 97, .inl a, .inl k], []) M _
  refine zG_blk (c' := (14, [zR 97, .inl a, .inl k], [.inl (350 + 12 * a + k), zR 98])) 9 hd0 hz (by
    have e : w32 (w32 (350 + w32 (12 * a)) + k) = 350 + 12 * a + k := by rw [w32_id (x := 12 * a) (by omega), w32_id (x := 350 + 12 * a) (by omega), w32_id (by omega)]
    rw [← e]; rfl) ?_
  refine zG_iald hd0 hz rfl rfl (.inl rfl) (by omega) ?_
  show zG n (0, 0) d 194 (15, [zR 97, .inl a, .inl k], [.inl (qA M a k)]) M _
  refine zG_ret hd0 hz rfl rfl ⟨rfl, _, rfl, hC.sin _, rfl, ?_, ?_, ?_, ?_⟩
  · rintro rfl; exact h1.1
  · rintro rfl; exact h1.2.1
  · rintro rfl; exact h1.2.2.1
  · rintro rfl; exact h1.2.2.2
theorem qx_act0 (hd : 1 ≤ d) (hC : qMI M) (a : Int) (ha : 0 ≤ a ∧ a < 250) (k : Int) (hk : 0 ≤ k ∧ k < 12) : qOkP n d 194 [zR 97, .inl a, .inl k] 3 M (qRi (fun x => qin x ∧ x = qA M a k)) :=
  (qx_act hd hC a ha k hk).mono (fun _ _ h => ⟨h.1, let ⟨x, h1, h2⟩ := h.2; ⟨x, h1, h2.1, h2.2.1⟩⟩)
theorem qx_act3 (hd : 1 ≤ d) (hC : qMI M) (a : Int) (ha : 0 ≤ a ∧ a < 250) : qOkP n d 194 [zR 97, .inl a, .inl 3] 3 M (qRi (fun x => (-1 ≤ x ∧ x ≤ 39) ∧ x = qA M a 3)) :=
  (qx_act hd hC a ha 3 (by omega)).mono (fun _ _ h => ⟨h.1, let ⟨x, h1, h2⟩ := h.2; ⟨x, h1, h2.2.2.1 rfl, h2.2.1⟩⟩)
theorem qx_act4 (hd : 1 ≤ d) (hC : qMI M) (a : Int) (ha : 0 ≤ a ∧ a < 250) : qOkP n d 194 [zR 97, .inl a, .inl 4] 3 M (qRi (fun x => (-1 ≤ x ∧ x ≤ 19) ∧ x = qA M a 4)) :=
  (qx_act hd hC a ha 4 (by omega)).mono (fun _ _ h => ⟨h.1, let ⟨x, h1, h2⟩ := h.2; ⟨x, h1, h2.2.2.2.1 rfl, h2.2.1⟩⟩)
theorem qx_act5 (hd : 1 ≤ d) (hC : qMI M) (a : Int) (ha : 0 ≤ a ∧ a < 250) : qOkP n d 194 [zR 97, .inl a, .inl 5] 3 M (qRi (fun x => (-1 ≤ x ∧ x ≤ 13) ∧ x = qA M a 5)) :=
  (qx_act hd hC a ha 5 (by omega)).mono (fun _ _ h => ⟨h.1, let ⟨x, h1, h2⟩ := h.2; ⟨x, h1, h2.2.2.2.2.1 rfl, h2.2.1⟩⟩)
theorem qx_act6 (hd : 1 ≤ d) (hC : qMI M) (a : Int) (ha : 0 ≤ a ∧ a < 250) : qOkP n d 194 [zR 97, .inl a, .inl 6] 3 M (qRi (fun x => (-1 ≤ x ∧ x ≤ 249) ∧ x = qA M a 6)) :=
  (qx_act hd hC a ha 6 (by omega)).mono (fun _ _ h => ⟨h.1, let ⟨x, h1, h2⟩ := h.2; ⟨x, h1, h2.2.2.2.2.2 rfl, h2.2.1⟩⟩)
theorem qx_puts (hd : 1 ≤ d) (h4 : 0 ≤ M 98 4 ∧ M 98 4 < 250) (k : Int) (hk : 0 ≤ k ∧ k < 12) (x : Int) : zG n (0, 0) d 195 (0, zini [zR 97, .inl k, .inl x] 3, []) M (fun v M' => M' = zput M 98 (350 + 12 * M 98 4 + k).toNat x ∧ v = none) := by
  have hz := zp_195
  have hd0 : 0 < d := by omega
  show zG n (0, 0) d 195 (0, [zR 97, .inl k, .inl x], []) M _
  refine zG_blk (c' := (14, [zR 97, .inl k, .inl x], [.inl 4, zR 98, .inl 12, .inl 350, zR 98])) 7 hd0 hz rfl ?_
  refine zG_iald hd0 hz rfl rfl (.inl rfl) (by omega) ?_
  show zG n (0, 0) d 195 (15, [zR 97, .inl k, .inl x], [.inl (M 98 4), .inl 12, .inl 350, zR 98]) M _
  refine zG_blk (c' := (20, [zR 97, .inl k, .inl x], [.inl x, .inl (350 + 12 * M 98 4 + k), zR 98])) 5 hd0 hz (by
    have e : w32 (w32 (350 + w32 (12 * M 98 4)) + k) = 350 + 12 * M 98 4 + k := by rw [w32_id (x := 12 * M 98 4) (by omega), w32_id (x := 350 + 12 * M 98 4) (by omega), w32_id (by omega)]
    rw [← e]; rfl) ?_
  refine zG_iast hd0 hz rfl rfl (by omega) ?_
  exact zG_ret hd0 hz rfl rfl ⟨rfl, rfl⟩
theorem qx_isFull (hd : 1 ≤ d) (hC : qMI M) : qOkP n d 197 [zR 97] 1 M (qRi (fun x => 0 ≤ x ∧ x ≤ 1 ∧ (x = 1 ↔ M 98 4 = 250))) := by
  have hz := zp_197
  have hd0 : 0 < d := by omega
  show zG n (0, 0) d 197 (0, [zR 97], []) M _
  refine zG_blk (c' := (5, [zR 97], [.inl 4, zR 98])) 3 hd0 hz rfl ?_
  refine zG_iald hd0 hz rfl rfl (.inl rfl) (by omega) ?_
  show zG n (0, 0) d 197 (6, [zR 97], [.inl (M 98 4)]) M _
  refine zG_blk (c' := (9, [zR 97], [.inl 250, .inl (M 98 4)])) 1 hd0 hz rfl ?_
  refine zG_icmp_ne hd0 hz rfl (fun hb => ?_) (fun hb => ?_)
  · refine zG_blk (c' := (17, [zR 97], [.inl 0])) 1 hd0 hz rfl ?_
    exact zG_zret hd0 hz rfl (by omega) ⟨rfl, _, rfl, by omega⟩
  · refine zG_blk (c' := (17, [zR 97], [.inl 1])) 2 hd0 hz rfl ?_
    exact zG_zret hd0 hz rfl (by omega) ⟨rfl, _, rfl, by omega⟩
/-- of a meeting -/
def qMt (M : zM) (m k : Int) : Int := M 98 (150 + 5 * m + k).toNat
theorem qx_dayOf (hd : 1 ≤ d) (hC : qMI M) (m : Int) (hm : 0 ≤ m ∧ m < 40) : qOkP n d 199 [zR 97, .inl m] 2 M (qRi (fun x => qin x ∧ x = qMt M m 1)) := by
  have hz := zp_199
  have hd0 : 0 < d := by omega
  show zG n (0, 0) d 199 (0, [zR 97, .inl m], []) M _
  refine zG_blk (c' := (13, [zR 97, .inl m], [.inl (150 + 5 * m + 1), zR 98])) 9 hd0 hz (by
    have e : w32 (w32 (150 + w32 (5 * m)) + 1) = 150 + 5 * m + 1 := by rw [w32_id (x := 5 * m) (by omega), w32_id (x := 150 + 5 * m) (by omega), w32_id (by omega)]
    rw [← e]; rfl) ?_
  refine zG_iald hd0 hz rfl rfl (.inl rfl) (by omega) ?_
  exact zG_ret hd0 hz rfl rfl ⟨rfl, _, rfl, hC.sin _, rfl⟩
end QM
section QB
theorem qnat_of {a : Int} (ha : 0 ≤ a ∧ a ≤ 2147483647) : (BitVec.ofInt 32 a).toNat = a.toNat := by rw [BitVec.toNat_ofInt]; omega
theorem qlt_pow {a : Int} (ha : 0 ≤ a ∧ a ≤ 2147483647) : a.toNat < 2 ^ 31 := by omega
theorem qband_N (a b : Int) (ha : 0 ≤ a ∧ a ≤ 2147483647) (hb : 0 ≤ b ∧ b ≤ 2147483647) : zband a b = ((a.toNat &&& b.toNat : Nat) : Int) := by
  unfold zband
  rw [← Int32.toInt_toBitVec]
  have e : (Int32.ofInt a &&& Int32.ofInt b).toBitVec = BitVec.ofInt 32 a &&& BitVec.ofInt 32 b := rfl
  have hn : (BitVec.ofInt 32 a &&& BitVec.ofInt 32 b).toNat = a.toNat &&& b.toNat := by rw [BitVec.toNat_and, qnat_of ha, qnat_of hb]
  have hle : a.toNat &&& b.toNat ≤ a.toNat := Nat.and_le_left
  rw [e, BitVec.toInt_eq_toNat_of_lt (by omega), hn]
theorem qbor_N (a b : Int) (ha : 0 ≤ a ∧ a ≤ 2147483647) (hb : 0 ≤ b ∧ b ≤ 2147483647) : zbor a b = ((a.toNat ||| b.toNat : Nat) : Int) := by
  unfold zbor
  rw [← Int32.toInt_toBitVec]
  have e : (Int32.ofInt a ||| Int32.ofInt b).toBitVec = BitVec.ofInt 32 a ||| BitVec.ofInt 32 b := rfl
  have hn : (BitVec.ofInt 32 a ||| BitVec.ofInt 32 b).toNat = a.toNat ||| b.toNat := by rw [BitVec.toNat_or, qnat_of ha, qnat_of hb]
  have hle : a.toNat ||| b.toNat < 2 ^ 31 := Nat.or_lt_two_pow (qlt_pow ha) (qlt_pow hb)
  rw [e, BitVec.toInt_eq_toNat_of_lt (by omega), hn]
theorem qbxor_N (a b : Int) (ha : 0 ≤ a ∧ a ≤ 2147483647) (hb : 0 ≤ b ∧ b ≤ 2147483647) : zbxor a b = ((a.toNat ^^^ b.toNat : Nat) : Int) := by
  unfold zbxor
  rw [← Int32.toInt_toBitVec]
  have e : (Int32.ofInt a ^^^ Int32.ofInt b).toBitVec = BitVec.ofInt 32 a ^^^ BitVec.ofInt 32 b := rfl
  have hn : (BitVec.ofInt 32 a ^^^ BitVec.ofInt 32 b).toNat = a.toNat ^^^ b.toNat := by rw [BitVec.toNat_xor, qnat_of ha, qnat_of hb]
  have hle : a.toNat ^^^ b.toNat < 2 ^ 31 := Nat.xor_lt_two_pow (qlt_pow ha) (qlt_pow hb)
  rw [e, BitVec.toInt_eq_toNat_of_lt (by omega), hn]
theorem qk31 {k : Int} (hk : 0 ≤ k ∧ k ≤ 31) : ((Int32.ofInt k &&& 31).toBitVec.smod 32).toNat = k.toNat := by
  have key : ∀ j : Nat, j < 32 → ((Int32.ofInt (j : Int) &&& 31).toBitVec.smod 32).toNat = j := by decide +kernel
  have := key k.toNat (by omega)
  rwa [Int.toNat_of_nonneg hk.1] at this
theorem qbshr_N (a k : Int) (ha : 0 ≤ a ∧ a ≤ 2147483647) (hk : 0 ≤ k ∧ k ≤ 31) : zbshr a k = ((a.toNat / 2 ^ k.toNat : Nat) : Int) := by
  unfold zbshr
  rw [← Int32.toInt_toBitVec, Int32.toBitVec_shiftRight]
  have hA : (Int32.ofInt a).toBitVec.toNat = a.toNat := qnat_of ha
  have hm : (Int32.ofInt a).toBitVec.msb = false := by
    rw [BitVec.msb_eq_false_iff_two_mul_lt, hA]; omega
  simp only [BitVec.sshiftRight']
  rw [BitVec.sshiftRight_eq_of_msb_false hm, qk31 hk]
  have hn : ((Int32.ofInt a).toBitVec >>> k.toNat).toNat = a.toNat / 2 ^ k.toNat := by rw [BitVec.toNat_ushiftRight, hA, Nat.shiftRight_eq_div_pow]
  have hle : a.toNat / 2 ^ k.toNat ≤ a.toNat := Nat.div_le_self _ _
  rw [BitVec.toInt_eq_toNat_of_lt (by omega), hn]
theorem qbshl_N (a k : Int) (ha : 0 ≤ a) (hk : 0 ≤ k ∧ k ≤ 31) (h : a.toNat * 2 ^ k.toNat < 2 ^ 31) : zbshl a k = ((a.toNat * 2 ^ k.toNat : Nat) : Int) := by
  have hp : 0 < 2 ^ k.toNat := Nat.two_pow_pos _
  have ha' : a.toNat ≤ a.toNat * 2 ^ k.toNat := Nat.le_mul_of_pos_right _ hp
  unfold zbshl
  rw [← Int32.toInt_toBitVec, Int32.toBitVec_shiftLeft]
  have hA : (Int32.ofInt a).toBitVec.toNat = a.toNat := qnat_of (by omega)
  have hn : ((Int32.ofInt a).toBitVec <<< k.toNat).toNat = a.toNat * 2 ^ k.toNat := by
    rw [BitVec.toNat_shiftLeft, hA, Nat.shiftLeft_eq, Nat.mod_eq_of_lt (by omega)]
  have e : (Int32.ofInt a).toBitVec <<< ((Int32.ofInt k &&& 31).toBitVec.smod 32) = (Int32.ofInt a).toBitVec <<< k.toNat := by
    rw [← qk31 hk]; rfl
  rw [e, BitVec.toInt_eq_toNat_of_lt (by omega), hn]
/-- how many of the lowest bits are set -/
def qpc : Nat → Nat → Nat
  | 0, _ => 0
  | k + 1, v => v % 2 + qpc k (v / 2)
theorem qpc_big : ∀ (k v : Nat), v < 2 ^ k → qpc (k + 1) v = qpc k v
  | 0, v, h => by
    have : v = 0 := by simpa using h
    subst this; rfl
  | k + 1, v, h => by
    show v % 2 + qpc (k + 1) (v / 2) = v % 2 + qpc k (v / 2)
    rw [qpc_big k (v / 2) (by rw [Nat.pow_succ] at h; omega)]
theorem qpc_le : ∀ (k v : Nat), qpc k v ≤ k
  | 0, _ => Nat.le_refl _
  | k + 1, v => by
    have := qpc_le k (v / 2)
    show v % 2 + qpc k (v / 2) ≤ k + 1
    omega
theorem qpc_next : ∀ (k v : Nat), qpc (k + 1) v = qpc k v + v / 2 ^ k % 2
  | 0, v => by show v % 2 + 0 = 0 + v / 2 ^ 0 % 2; simp
  | k + 1, v => by
    show v % 2 + qpc (k + 1) (v / 2) = v % 2 + qpc k (v / 2) + _
    rw [qpc_next k (v / 2), Nat.div_div_eq_div_mul, Nat.pow_succ, Nat.mul_comm 2 (2 ^ k)]
    omega
theorem qpc_mono {j k v : Nat} (h : j ≤ k) : qpc j v ≤ qpc k v := by
  induction h with
  | refl => exact Nat.le_refl _
  | step _ ih => rw [qpc_next]; omega
theorem qand1 (a : Int) (ha : 0 ≤ a ∧ a ≤ 2147483647) : zband a 1 = a % 2 := by
  rw [qband_N a 1 ha (by omega), show (1 : Int).toNat = 2 ^ 1 - 1 from rfl, Nat.and_two_pow_sub_one_eq_mod]; omega
theorem qshr1 (a : Int) (ha : 0 ≤ a ∧ a ≤ 2147483647) : zbshr a 1 = a / 2 := by
  rw [qbshr_N a 1 ha (by omega)]; show ((a.toNat / 2 ^ 1 : Nat) : Int) = _; omega
/-- a bit of a number that is not negative -/
theorem qbit (a k : Int) (ha : 0 ≤ a ∧ a ≤ 2147483647) (hk : 0 ≤ k ∧ k ≤ 31) : zband (zbshr a k) 1 = ((a.toNat / 2 ^ k.toNat % 2 : Nat) : Int) := by
  have h := qbshr_N a k ha hk
  have hle : a.toNat / 2 ^ k.toNat ≤ a.toNat := Nat.div_le_self _ _
  obtain ⟨z, hz⟩ : ∃ z : Nat, z = a.toNat / 2 ^ k.toNat := ⟨_, rfl⟩
  rw [← hz] at h hle ⊢
  rw [h, qand1 _ (by omega)]; omega
end QB
section QS
variable {n d : Nat} {M : zM}
theorem qx_sizeOf (hd : 1 ≤ d) (_hC : qMI M) (v : Int) (hv : qin v) : qOkP n d 186 [.inl v] 3 M (qRi (fun x => 0 ≤ x ∧ x ≤ 31 ∧ x = (qpc 31 v.toNat : Nat))) := by
  have hz := zp_186
  have hd0 : 0 < d := by omega
  show zG n (0, 0) d 186 (0, [.inl v, zN, zN], []) M _
  refine zG_blk (c' := (4, [.inl v, .inl 0, .inl v], [])) 4 hd0 hz rfl ?_
  have lp : ∀ (N : Nat) (m w : Int), w.toNat < N → qin w → 0 ≤ m → m + (qpc 31 w.toNat : Nat) = (qpc 31 v.toNat : Nat) → zG n (0, 0) d 186 (4, [.inl v, .inl m, .inl w], []) M (fun r M' => M' = M ∧ qRi (fun x => 0 ≤ x ∧ x ≤ 31 ∧ x = (qpc 31 v.toNat : Nat)) r) := by
    intro N
    induction N with
    | zero => intro m w hN; exact absurd hN (Nat.not_lt_zero _)
    | succ N ih =>
      intro m w hN hw hm he
      have hle := qpc_le 31 v.toNat
      refine zG_blk (c' := (5, [.inl v, .inl m, .inl w], [.inl w])) 1 hd0 hz rfl ?_
      refine zG_if_le hd0 hz rfl (fun hb => ?_) (fun hb => ?_)
      · have e0 : w.toNat = 0 := by omega
        rw [e0] at he
        have e1 : qpc 31 0 = 0 := by decide
        rw [e1] at he
        refine zG_blk (c' := (22, [.inl v, .inl m, .inl w], [.inl m])) 1 hd0 hz rfl ?_
        exact zG_ret hd0 hz rfl rfl ⟨rfl, _, rfl, by omega⟩
      · have e1 : qpc 31 w.toNat = w.toNat % 2 + qpc 31 (w.toNat / 2) := by
          show w.toNat % 2 + qpc 30 (w.toNat / 2) = _
          rw [qpc_big 30 (w.toNat / 2) (by omega)]
        have e2 := qand1 w (by omega)
        have e3 := qshr1 w (by omega)
        rw [e1] at he
        refine zG_blk (c' := (4, [.inl v, .inl (m + w % 2), .inl (w / 2)], [])) 11 hd0 hz (by
          have e4 : w32 (m + zband w 1) = m + w % 2 := by rw [e2]; exact w32_id (by omega)
          rw [← e4, ← e3]; rfl) ?_
        refine ih (m + w % 2) (w / 2) (by omega) (by omega) (by omega) ?_
        rw [show (w / 2).toNat = w.toNat / 2 by omega]
        omega
  exact lp (v.toNat + 1) 0 v (by omega) hv (by omega) (by omega)
end QS
