/-! THE CONSTRUCTORS' ROUNDS, WALKING ON (21e) -/
theorem qR_w {d μ : Nat} {Q : Option zV → zW → Prop} {code : List zE} {mL : Nat} {B : Nat × Nat} {w w' : zW} (k : Nat) {c c' : zC} (hd : 0 < d) (hm : zP μ = (code, mL, B)) (h : zwm (zwl code B k [] c w) = some (c', w')) (K : qR d μ c' w' Q) : qR d μ c w Q := by
  obtain ⟨e, ho⟩ := zwm_ex h
  exact qR_blk k hd hm (zwl_ok (zris_of hm) k [] c _ e c' _ ⟨code, (List.append_nil code).symm⟩ ho).1 K
