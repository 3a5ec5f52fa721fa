theorem qm_264_97 {n d : Nat} {M : zM} (hd : 1 ≤ d) (hC : qMI M)  (a1 : Int) (ha1 : 1 ≤ a1 ∧ a1 ≤ 4) : qOkP n d 264 [.inr (.inr (some 97)), .inl a1] 2 M (fun v => ∃ x : Int, v = some (.inl x) ∧ (0 ≤ x ∧ x ≤ 14)) := by
  have hz := zp_264
  have hd0 : 0 < d := by omega
  show zG n (0, 0) d 264 (0, [.inr (.inr (some 97)), .inl a1], []) M _
  have r1 := hC.f30
  refine zG_blk (c' := (5, [.inr (.inr (some 97)), .inl a1], [.inl a1, .inl (M 97 30)])) 3 hd0 hz (by rfl) ?_
  have j16 : ∀ (v2 : Int) , 0 ≤ v2 ∧ v2 ≤ 14 → zG n (0, 0) d 264 (16, [.inr (.inr (some 97)), .inl a1], [.inl v2]) M (fun v M' => M' = M ∧ ∃ x : Int, v = some (.inl x) ∧ (0 ≤ x ∧ x ≤ 14)) := by
    intro v2 hv2
    exact zG_ret hd0 hz rfl rfl ⟨rfl, _, rfl, by omega⟩
  refine zG_icmp_ge hd0 hz rfl (fun hb3 => ?_) (fun hb3 => ?_)
  · refine zG_blk (c' := (16, [.inr (.inr (some 97)), .inl a1], [.inl a1])) 1 hd0 hz (by rfl) ?_
    exact j16 a1 (by first | with_reducible exact ha1 | omega)
  · refine zG_blk (c' := (16, [.inr (.inr (some 97)), .inl a1], [.inl (M 97 30)])) 3 hd0 hz (by rfl) ?_
    exact j16 (M 97 30) (by omega)
