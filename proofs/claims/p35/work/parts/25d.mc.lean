/-! A CELL'S PROMISE BY ITS ARRAY OR FIELD -/
section MC
variable {r k : Nat} {x : Int}
theorem qMC_97 (hk : (k == 20 || k == 30 || k == 18 || k == 34 || k == 28) = false) (hq : qLJ 97 k = false → qin x) : qMC 97 k x := by
  simp only [Bool.or_eq_false_iff, beq_eq_false_iff_ne, ne_eq] at hk
  obtain ⟨⟨⟨⟨a, b⟩, c⟩, d⟩, e⟩ := hk
  exact ⟨hq, fun h => absurd h (by decide), fun _ => ⟨fun h => absurd h a, fun h => absurd h b, fun h => absurd h c, fun h => absurd h d, fun h => absurd h e⟩, fun h => absurd h (by decide), fun h => absurd h (by decide)⟩
theorem qMC_ar (hr : (r == 97 || r == 100 || r == 101 || r == 115 || r == 116 || r == 117) = false) (hq : qLJ r k = false → qin x) : qMC r k x := by
  simp only [Bool.or_eq_false_iff, beq_eq_false_iff_ne, ne_eq] at hr
  obtain ⟨⟨⟨⟨⟨a, b⟩, c⟩, d⟩, e⟩, f⟩ := hr
  exact ⟨hq, fun h => h.elim (fun h => absurd h b) (fun h => absurd h c), fun h => absurd h a, fun h => absurd h d, fun h => h.elim (fun h => absurd h e) (fun h => absurd h f)⟩
theorem qMC_108 : qMC 108 k x := qMC_ar (by decide) (fun h => absurd h (Bool.noConfusion ∘ Eq.trans (Eq.symm (rfl : qLJ 108 k = true))))
theorem qMC_109 : qMC 109 k x := qMC_ar (by decide) (fun h => absurd h (Bool.noConfusion ∘ Eq.trans (Eq.symm (rfl : qLJ 109 k = true))))
end MC
