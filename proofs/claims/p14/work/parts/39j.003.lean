section HQ
variable {M : zM} {a b c : Int}
theorem hq_169 : hf_169 M a b c = 0 ↔ ¬ (b ≤ a ∧ a ≤ c) := by unfold hf_169; (repeat' split) <;> constructor <;> intro h <;> first | omega | rfl
theorem hq_180 : hf_180 M a b c = 0 ↔ ¬ (b ≤ a ∧ a ≤ c) := by unfold hf_180; (repeat' split) <;> constructor <;> intro h <;> first | omega | rfl
theorem hq_has {r : Nat} : hR_has M r a = 0 ↔ ¬ (0 ≤ a ∧ a < M r 3) := by unfold hR_has; (repeat' split) <;> constructor <;> intro h <;> first | omega | rfl
theorem hq_170 : hf_170 M a = 0 ↔ ¬ (0 ≤ a ∧ a ≤ 9999) := hq_169
theorem hq_171 : hf_171 M a = 0 ↔ ¬ (0 ≤ a ∧ a ≤ 100) := hq_169
theorem hq_172 : hf_172 M a = 0 ↔ ¬ (0 ≤ a ∧ a ≤ 4) := hq_169
theorem hq_173 : hf_173 M a = 0 ↔ ¬ (0 ≤ a ∧ a ≤ 7) := hq_169
theorem hq_174 : hf_174_8 M a = 0 ↔ ¬ (0 ≤ a ∧ a < M 12 3) := hq_has
end HQ
