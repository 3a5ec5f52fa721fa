/-! A SLOT'S PROMISE BY ITS FAMILY -/
section OS
variable {j : Nat} {x : Int}
theorem qOS_cs (h : 20 ≤ j ∧ j < 80) (hq : qin x) (hc : ∀ c : Nat, c < 14 → j = 21 + 4 * c → 0 ≤ x ∧ x ≤ 16383) : qOS j x :=
  ⟨hq, fun _ => by omega, fun _ => by omega, fun _ => by omega, fun _ => by omega, fun _ => by omega, fun _ => by omega, fun _ => by omega, hc, fun _ _ _ => by omega, fun _ _ _ => by omega, fun _ _ => ⟨fun _ => by omega, fun _ => by omega, fun _ => by omega, fun _ => by omega⟩, fun _ _ _ => by omega, fun _ _ _ => by omega⟩
theorem qOS_st (h : 80 ≤ j ∧ j < 140) (hq : qin x) (hs : ∀ u : Nat, u < 20 → j = 81 + 3 * u → -1 ≤ x ∧ x ≤ 9) : qOS j x :=
  ⟨hq, fun _ => by omega, fun _ => by omega, fun _ => by omega, fun _ => by omega, fun _ => by omega, fun _ => by omega, fun _ => by omega, fun _ _ _ => by omega, hs, fun _ _ _ => by omega, fun _ _ => ⟨fun _ => by omega, fun _ => by omega, fun _ => by omega, fun _ => by omega⟩, fun _ _ _ => by omega, fun _ _ _ => by omega⟩
theorem qOS_bd (h : 140 ≤ j ∧ j < 150) (hq : qin x) : qOS j x :=
  ⟨hq, fun _ => by omega, fun _ => by omega, fun _ => by omega, fun _ => by omega, fun _ => by omega, fun _ => by omega, fun _ => by omega, fun _ _ _ => by omega, fun _ _ _ => by omega, fun _ _ _ => by omega, fun _ _ => ⟨fun _ => by omega, fun _ => by omega, fun _ => by omega, fun _ => by omega⟩, fun _ _ _ => by omega, fun _ _ _ => by omega⟩
theorem qOS_mt (h : 150 ≤ j ∧ j < 350) (hq : qin x) (hm : ∀ m : Nat, m < 40 → j = 150 + 5 * m → 0 ≤ x ∧ x ≤ 3) : qOS j x :=
  ⟨hq, fun _ => by omega, fun _ => by omega, fun _ => by omega, fun _ => by omega, fun _ => by omega, fun _ => by omega, fun _ => by omega, fun _ _ _ => by omega, fun _ _ _ => by omega, hm, fun _ _ => ⟨fun _ => by omega, fun _ => by omega, fun _ => by omega, fun _ => by omega⟩, fun _ _ _ => by omega, fun _ _ _ => by omega⟩
theorem qOS_tx (h : 3350 ≤ j ∧ j < 4000) (hq : qin x) (ht : ∀ t : Nat, t < 8 → j = 3350 + 81 * t → 0 ≤ x ∧ x ≤ 80) : qOS j x :=
  ⟨hq, fun _ => by omega, fun _ => by omega, fun _ => by omega, fun _ => by omega, fun _ => by omega, fun _ => by omega, fun _ => by omega, fun _ _ _ => by omega, fun _ _ _ => by omega, fun _ _ _ => by omega, fun _ _ => ⟨fun _ => by omega, fun _ => by omega, fun _ => by omega, fun _ => by omega⟩, ht, fun _ _ _ => by omega⟩
theorem qOS_or (h : 4000 ≤ j) (hq : qin x) (ho : ∀ o : Nat, o < 10 → (j = 4000 + 164 * o ∨ j = 4081 + 164 * o) → 0 ≤ x ∧ x ≤ 80) : qOS j x :=
  ⟨hq, fun _ => by omega, fun _ => by omega, fun _ => by omega, fun _ => by omega, fun _ => by omega, fun _ => by omega, fun _ => by omega, fun _ _ _ => by omega, fun _ _ _ => by omega, fun _ _ _ => by omega, fun _ _ => ⟨fun _ => by omega, fun _ => by omega, fun _ => by omega, fun _ => by omega⟩, fun _ _ _ => by omega, ho⟩
theorem qOS_hi (h : 5640 ≤ j) (hq : qin x) : qOS j x := qOS_or (by omega) hq (fun _ _ _ => by omega)
end OS
section OK
variable {M M' : zM} {s k0 : Int}
theorem qA_keep (h : ∀ j : Nat, (j : Int) ≠ 350 + 12 * s + k0 → M' 98 j = M 98 j) (hs : 0 ≤ s) (k : Int) (hk : 0 ≤ k) (hn : k ≠ k0) : qA M' s k = qA M s k := by unfold qA; exact h _ (by omega)
theorem qN_keep (h : ∀ j : Nat, (j : Int) ≠ 350 + 12 * s + k0 → M' 98 j = M 98 j) (hs : 0 ≤ s) (c : Nat) (hc : c < 350) (hk : 0 ≤ k0) : M' 98 c = M 98 c := h c (by omega)
theorem qB_keep (h : ∀ j : Nat, ((j : Int) < 350 + 12 * s ∨ 362 + 12 * s ≤ j) → M' 98 j = M 98 j) (hs : 0 ≤ s) (c : Nat) (hc : c < 350) : M' 98 c = M 98 c := h c (Or.inl (by omega))
theorem qPv {k x : Int} (h : k ≠ 3 ∧ k ≠ 4 ∧ k ≠ 5 ∧ k ≠ 6) : (k = 3 → -1 ≤ x ∧ x ≤ 39) ∧ (k = 4 → -1 ≤ x ∧ x ≤ 19) ∧ (k = 5 → -1 ≤ x ∧ x ≤ 13) ∧ (k = 6 → -1 ≤ x ∧ x ≤ 249) := ⟨fun e => absurd e h.1, fun e => absurd e h.2.1, fun e => absurd e h.2.2.1, fun e => absurd e h.2.2.2⟩
end OK
