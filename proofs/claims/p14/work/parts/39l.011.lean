section HL
variable {M : zM}
theorem hSt_fr {X Y : zM} (h : hHs M 9 (M 98)) (c1 : X = M ∨ ∃ (k : Nat) (v : Int), k % 3 = 1 ∧ X = zput M 13 k v) (c2 : Y = X ∨ ∃ (k : Nat) (v : Int), (80 ≤ k ∧ k < 140 ∧ (k - 80) % 3 = 1) ∧ Y = zput X 98 k v) : hHs Y 9 (Y 98) := by
  have k1 : M 12 3 = M 98 1 := h.2.1.1
  have hX : ∀ r, r ≠ 13 → X r = M r := fun r hr => by
    rcases c1 with c1 | ⟨k, v, -, c1⟩
    · rw [c1]
    · rw [c1]; exact zput_oth hr
  have hS : ∀ j, j % 3 ≠ 1 → X 13 j = M 13 j := fun j hj => by
    rcases c1 with c1 | ⟨k, v, hk, c1⟩
    · rw [c1]
    · rw [c1]; exact qput_nk (by intro e; subst e; exact hj hk)
  have eR : ∀ r, r ≠ 13 → r ≠ 98 → Y r = M r := fun r h1 h2 => by
    rcases c2 with c2 | ⟨k, v, -, c2⟩
    · rw [c2]; exact hX r h1
    · rw [c2]; exact (zput_oth h2).trans (hX r h1)
  have eS : ∀ j, j % 3 ≠ 1 → Y 13 j = M 13 j := fun j hj => by
    rcases c2 with c2 | ⟨k, v, -, c2⟩
    · rw [c2]; exact hS j hj
    · rw [c2]; exact (congrFun (zput_oth (by decide)) j).trans (hS j hj)
  have eF : ∀ j, ¬ (80 ≤ j ∧ j < 140 ∧ (j - 80) % 3 = 1) → Y 98 j = M 98 j := fun j hj => by
    rcases c2 with c2 | ⟨k, v, hk, c2⟩
    · rw [c2]; exact congrFun (hX 98 (by decide)) j
    · rw [c2, qput_nk (by intro e; subst e; exact hj hk)]; exact congrFun (hX 98 (by decide)) j
  refine hHs.t1 h (eR _ (by decide) (by decide)) (eR _ (by decide) (by decide)) (eR _ (by decide) (by decide)) (eR _ (by decide) (by decide)) (eR _ (by decide) (by decide)) (eR _ (by decide) (by decide)) (eR _ (by decide) (by decide)) (eR _ (by decide) (by decide)) (eR _ (by decide) (by decide)) (eR _ (by decide) (by decide)) (eR _ (by decide) (by decide)) (eR _ (by decide) (by decide)) (fun j h1 h2 => eF j (by omega)) ⟨?_, fun i hi => ?_⟩ (by rw [eF 1 (by omega)]; exact Int.le_refl _)
  · rw [show Y (9 + 3) 3 = M 12 3 from congrFun (eR 12 (by decide) (by decide)) 3, eF 1 (by omega)]; exact k1
  · have q := h.2.1.2 i hi
    rw [show Y (9 + 4) (3 * i) = M 13 (3 * i) from eS _ (by omega), show Y (9 + 4) (3 * i + 2) = M 13 (3 * i + 2) from eS _ (by omega), eF (80 + 3 * i) (by omega), eF (82 + 3 * i) (by omega)]
    exact q
end HL
