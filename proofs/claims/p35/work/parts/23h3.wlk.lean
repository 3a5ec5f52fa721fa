/-! WHAT A RUN THAT ENDS ANSWERS: ROUNDS WITH WHAT ENDS THEM (21e) -/
theorem zat_at : ∀ (l : List zE) (pc : Nat) (e : zE), zat l pc = some e → e.1 = pc
  | [], _, _, h => by cases h
  | x :: l, pc, e, h => by
    have h' : (match Nat.beq x.1 pc with | true => some x | false => zat l pc) = some e := h
    cases hb : Nat.beq x.1 pc with
    | true => rw [hb] at h'; cases h'; exact Nat.eq_of_beq_eq_true hb
    | false => rw [hb] at h'; exact zat_at l pc e h'
section HW
variable {n : Nat} {ct : Nat × Nat} {μ : Nat} {Q : Option zV → zM → Prop} {M : zM} {code : List zE} {mL : Nat} {B : Nat × Nat}
theorem zH_w (k : Nat) {c c' : zC} {M' : zM} (hm : zP μ = (code, mL, B)) (h : zwm (zwl code B k [] c (zSH n, M, ct.1, ct.2)) = some (c', (zSH n, M', ct.1, ct.2))) (K : zH n ct μ c' M' Q) : zH n ct μ c M Q := by
  obtain ⟨e, ho⟩ := zwm_ex h
  exact zH_blk k hm (zwl_ok (zris_of hm) k [] c _ e c' _ ⟨code, (List.append_nil code).symm⟩ ho).1 K
theorem zH_wg (k : Nat) {c c' : zC} {e : zE} (hm : zP μ = (code, mL, B)) (h : zwl code B k [] c (zSH n, M, 0, 0) = some (e, c', (zSH n, M, 0, 0))) (K : zat code c'.1 = some e → zH n (0, 0) μ c' M Q) : zH n (0, 0) μ c M Q := by
  have h1 := zwl_ok (zris_of hm) k [] c _ e c' _ ⟨code, (List.append_nil code).symm⟩ h
  exact zH_blk (ct := (0, 0)) k hm h1.1 (K h1.2)
theorem zH_wE (k : Nat) {c c1 : zC} {y : Nat} {as : List zV} {code' : List zE} {mL' : Nat} {r0 : Option zV} {X : zM} (hm : zP μ = (code, mL, B)) (hm' : zP y = (code', mL', (0, 0))) (hc : zH n (0, 0) y (0, zini as mL', []) M (fun r M' => r = r0 ∧ M' = X)) (h : zwc B mL' (zwl code B k [] c (zSH n, M, 0, 0)) = some (y, as, c1, (zSH n, M, 0, 0))) (K : zH n (0, 0) μ (c1.1, c1.2.1, r0.toList ++ c1.2.2) X Q) : zH n (0, 0) μ c M Q := by
  obtain ⟨e, ⟨pc, L, st⟩, ho, hz, hb⟩ := zwc_ex h
  exact zH_wg k hm ho (fun he => zH_callE (ct := (0, 0)) hm hm' he hz hc K)
theorem zH_wB (k : Nat) {c c1 : zC} {y : Nat} {as : List zV} {code' : List zE} {mL' : Nat} {v0 : Int} {X : zM} (hm : zP μ = (code, mL, B)) (hm' : zP y = (code', mL', (0, 0))) (hc : zH n (0, 0) y (0, zini as mL', []) M (fun r M' => r = some (.inl v0) ∧ M' = X)) (h : zwc B mL' (zwl code B k [] c (zSH n, M, 0, 0)) = some (y, as, c1, (zSH n, M, 0, 0))) (K : ∀ (x : Int) (X' : zM), x = v0 → X' = X → zH n (0, 0) μ (c1.1, c1.2.1, .inl x :: c1.2.2) X' Q) : zH n (0, 0) μ c M Q := by
  obtain ⟨e, ⟨pc, L, st⟩, ho, hz, hb⟩ := zwc_ex h
  exact zH_wg k hm ho (fun he => zH_callB (ct := (0, 0)) hm hm' he hz hc K)
theorem zH_wW (k : Nat) {c c1 : zC} {y : Nat} {as : List zV} {code' : List zE} {mL' : Nat} {r0 : Option zV} {X : zM} (hm : zP μ = (code, mL, B)) (hm' : zP y = (code', mL', (0, 0))) (hc : zH n (0, 0) y (0, zini as mL', []) M (fun r M' => r = r0 ∧ M' = X)) (h : zwc B mL' (zwl code B k [] c (zSH n, M, 0, 0)) = some (y, as, c1, (zSH n, M, 0, 0))) (K : ∀ (X' : zM), X' = X → zH n (0, 0) μ (c1.1, c1.2.1, r0.toList ++ c1.2.2) X' Q) : zH n (0, 0) μ c M Q := by
  obtain ⟨e, ⟨pc, L, st⟩, ho, hz, hb⟩ := zwc_ex h
  exact zH_wg k hm ho (fun he => zH_callW (ct := (0, 0)) hm hm' he hz hc K)
theorem zH_wC (k : Nat) {c c1 : zC} {y : Nat} {as : List zV} {code' : List zE} {mL' : Nat} {Q1 : Option zV → zM → Prop} (hm : zP μ = (code, mL, B)) (hm' : zP y = (code', mL', (0, 0))) (hc : zH n (0, 0) y (0, zini as mL', []) M Q1) (h : zwc B mL' (zwl code B k [] c (zSH n, M, 0, 0)) = some (y, as, c1, (zSH n, M, 0, 0))) (K : ∀ r M1, Q1 r M1 → zH n (0, 0) μ (c1.1, c1.2.1, r.toList ++ c1.2.2) M1 Q) : zH n (0, 0) μ c M Q := by
  obtain ⟨e, ⟨pc, L, st⟩, ho, hz, hb⟩ := zwc_ex h
  exact zH_wg k hm ho (fun he => zH_call (ct := (0, 0)) hm hm' he hz hc K)
theorem zH_wr (k : Nat) {c : zC} {r : Option zV} (hm : zP μ = (code, mL, B)) (h : zwr B (zwl code B k [] c (zSH n, M, 0, 0)) = some (r, (zSH n, M, 0, 0))) (hq : Q r M) : zH n (0, 0) μ c M Q := by
  obtain ⟨e, ⟨pc, L, st⟩, ho, hz⟩ := zwr_ex h
  exact zH_wg k hm ho (fun he => zH_ret (ct := (0, 0)) hm he hz hq)
theorem zH_wi_eq (k : Nat) {c : zC} {pc n' t : Nat} {L st : List zV} {x y : Int} (hm : zP μ = (code, mL, B)) (h : zwi (zwl code B k [] c (zSH n, M, 0, 0)) = some (.eq, n', t, (pc, L, .inl y :: .inl x :: st), (zSH n, M, 0, 0))) (Kt : x = y → zH n (0, 0) μ (t, L, st) M Q) (Kf : ¬ (x = y) → zH n (0, 0) μ (n', L, st) M Q) : zH n (0, 0) μ c M Q := by
  obtain ⟨p, off, ⟨b, z, ts⟩, ho⟩ := zwi_ex h
  refine zH_wg k hm ho (fun he => ?_)
  have hp : p = pc := zat_at _ _ _ he
  subst hp
  exact zH_icmp_eq hm he Kt Kf
theorem zH_wf_eq (k : Nat) {c : zC} {pc n' t : Nat} {L st : List zV} {x : Int} (hm : zP μ = (code, mL, B)) (h : zwf (zwl code B k [] c (zSH n, M, 0, 0)) = some (.eq, n', t, (pc, L, .inl x :: st), (zSH n, M, 0, 0))) (Kt : x = 0 → zH n (0, 0) μ (t, L, st) M Q) (Kf : ¬ (x = 0) → zH n (0, 0) μ (n', L, st) M Q) : zH n (0, 0) μ c M Q := by
  obtain ⟨p, off, ⟨b, z, ts⟩, ho⟩ := zwf_ex h
  refine zH_wg k hm ho (fun he => ?_)
  have hp : p = pc := zat_at _ _ _ he
  subst hp
  exact zH_if_eq hm he Kt Kf
theorem zH_wi_ne (k : Nat) {c : zC} {pc n' t : Nat} {L st : List zV} {x y : Int} (hm : zP μ = (code, mL, B)) (h : zwi (zwl code B k [] c (zSH n, M, 0, 0)) = some (.ne, n', t, (pc, L, .inl y :: .inl x :: st), (zSH n, M, 0, 0))) (Kt : ¬ x = y → zH n (0, 0) μ (t, L, st) M Q) (Kf : ¬ (¬ x = y) → zH n (0, 0) μ (n', L, st) M Q) : zH n (0, 0) μ c M Q := by
  obtain ⟨p, off, ⟨b, z, ts⟩, ho⟩ := zwi_ex h
  refine zH_wg k hm ho (fun he => ?_)
  have hp : p = pc := zat_at _ _ _ he
  subst hp
  exact zH_icmp_ne hm he Kt Kf
theorem zH_wf_ne (k : Nat) {c : zC} {pc n' t : Nat} {L st : List zV} {x : Int} (hm : zP μ = (code, mL, B)) (h : zwf (zwl code B k [] c (zSH n, M, 0, 0)) = some (.ne, n', t, (pc, L, .inl x :: st), (zSH n, M, 0, 0))) (Kt : ¬ x = 0 → zH n (0, 0) μ (t, L, st) M Q) (Kf : ¬ (¬ x = 0) → zH n (0, 0) μ (n', L, st) M Q) : zH n (0, 0) μ c M Q := by
  obtain ⟨p, off, ⟨b, z, ts⟩, ho⟩ := zwf_ex h
  refine zH_wg k hm ho (fun he => ?_)
  have hp : p = pc := zat_at _ _ _ he
  subst hp
  exact zH_if_ne hm he Kt Kf
theorem zH_wi_lt (k : Nat) {c : zC} {pc n' t : Nat} {L st : List zV} {x y : Int} (hm : zP μ = (code, mL, B)) (h : zwi (zwl code B k [] c (zSH n, M, 0, 0)) = some (.lt, n', t, (pc, L, .inl y :: .inl x :: st), (zSH n, M, 0, 0))) (Kt : x < y → zH n (0, 0) μ (t, L, st) M Q) (Kf : ¬ (x < y) → zH n (0, 0) μ (n', L, st) M Q) : zH n (0, 0) μ c M Q := by
  obtain ⟨p, off, ⟨b, z, ts⟩, ho⟩ := zwi_ex h
  refine zH_wg k hm ho (fun he => ?_)
  have hp : p = pc := zat_at _ _ _ he
  subst hp
  exact zH_icmp_lt hm he Kt Kf
theorem zH_wf_lt (k : Nat) {c : zC} {pc n' t : Nat} {L st : List zV} {x : Int} (hm : zP μ = (code, mL, B)) (h : zwf (zwl code B k [] c (zSH n, M, 0, 0)) = some (.lt, n', t, (pc, L, .inl x :: st), (zSH n, M, 0, 0))) (Kt : x < 0 → zH n (0, 0) μ (t, L, st) M Q) (Kf : ¬ (x < 0) → zH n (0, 0) μ (n', L, st) M Q) : zH n (0, 0) μ c M Q := by
  obtain ⟨p, off, ⟨b, z, ts⟩, ho⟩ := zwf_ex h
  refine zH_wg k hm ho (fun he => ?_)
  have hp : p = pc := zat_at _ _ _ he
  subst hp
  exact zH_if_lt hm he Kt Kf
theorem zH_wi_ge (k : Nat) {c : zC} {pc n' t : Nat} {L st : List zV} {x y : Int} (hm : zP μ = (code, mL, B)) (h : zwi (zwl code B k [] c (zSH n, M, 0, 0)) = some (.ge, n', t, (pc, L, .inl y :: .inl x :: st), (zSH n, M, 0, 0))) (Kt : y ≤ x → zH n (0, 0) μ (t, L, st) M Q) (Kf : ¬ (y ≤ x) → zH n (0, 0) μ (n', L, st) M Q) : zH n (0, 0) μ c M Q := by
  obtain ⟨p, off, ⟨b, z, ts⟩, ho⟩ := zwi_ex h
  refine zH_wg k hm ho (fun he => ?_)
  have hp : p = pc := zat_at _ _ _ he
  subst hp
  exact zH_icmp_ge hm he Kt Kf
theorem zH_wf_ge (k : Nat) {c : zC} {pc n' t : Nat} {L st : List zV} {x : Int} (hm : zP μ = (code, mL, B)) (h : zwf (zwl code B k [] c (zSH n, M, 0, 0)) = some (.ge, n', t, (pc, L, .inl x :: st), (zSH n, M, 0, 0))) (Kt : 0 ≤ x → zH n (0, 0) μ (t, L, st) M Q) (Kf : ¬ (0 ≤ x) → zH n (0, 0) μ (n', L, st) M Q) : zH n (0, 0) μ c M Q := by
  obtain ⟨p, off, ⟨b, z, ts⟩, ho⟩ := zwf_ex h
  refine zH_wg k hm ho (fun he => ?_)
  have hp : p = pc := zat_at _ _ _ he
  subst hp
  exact zH_if_ge hm he Kt Kf
theorem zH_wi_gt (k : Nat) {c : zC} {pc n' t : Nat} {L st : List zV} {x y : Int} (hm : zP μ = (code, mL, B)) (h : zwi (zwl code B k [] c (zSH n, M, 0, 0)) = some (.gt, n', t, (pc, L, .inl y :: .inl x :: st), (zSH n, M, 0, 0))) (Kt : y < x → zH n (0, 0) μ (t, L, st) M Q) (Kf : ¬ (y < x) → zH n (0, 0) μ (n', L, st) M Q) : zH n (0, 0) μ c M Q := by
  obtain ⟨p, off, ⟨b, z, ts⟩, ho⟩ := zwi_ex h
  refine zH_wg k hm ho (fun he => ?_)
  have hp : p = pc := zat_at _ _ _ he
  subst hp
  exact zH_icmp_gt hm he Kt Kf
theorem zH_wf_gt (k : Nat) {c : zC} {pc n' t : Nat} {L st : List zV} {x : Int} (hm : zP μ = (code, mL, B)) (h : zwf (zwl code B k [] c (zSH n, M, 0, 0)) = some (.gt, n', t, (pc, L, .inl x :: st), (zSH n, M, 0, 0))) (Kt : 0 < x → zH n (0, 0) μ (t, L, st) M Q) (Kf : ¬ (0 < x) → zH n (0, 0) μ (n', L, st) M Q) : zH n (0, 0) μ c M Q := by
  obtain ⟨p, off, ⟨b, z, ts⟩, ho⟩ := zwf_ex h
  refine zH_wg k hm ho (fun he => ?_)
  have hp : p = pc := zat_at _ _ _ he
  subst hp
  exact zH_if_gt hm he Kt Kf
theorem zH_wi_le (k : Nat) {c : zC} {pc n' t : Nat} {L st : List zV} {x y : Int} (hm : zP μ = (code, mL, B)) (h : zwi (zwl code B k [] c (zSH n, M, 0, 0)) = some (.le, n', t, (pc, L, .inl y :: .inl x :: st), (zSH n, M, 0, 0))) (Kt : x ≤ y → zH n (0, 0) μ (t, L, st) M Q) (Kf : ¬ (x ≤ y) → zH n (0, 0) μ (n', L, st) M Q) : zH n (0, 0) μ c M Q := by
  obtain ⟨p, off, ⟨b, z, ts⟩, ho⟩ := zwi_ex h
  refine zH_wg k hm ho (fun he => ?_)
  have hp : p = pc := zat_at _ _ _ he
  subst hp
  exact zH_icmp_le hm he Kt Kf
theorem zH_wf_le (k : Nat) {c : zC} {pc n' t : Nat} {L st : List zV} {x : Int} (hm : zP μ = (code, mL, B)) (h : zwf (zwl code B k [] c (zSH n, M, 0, 0)) = some (.le, n', t, (pc, L, .inl x :: st), (zSH n, M, 0, 0))) (Kt : x ≤ 0 → zH n (0, 0) μ (t, L, st) M Q) (Kf : ¬ (x ≤ 0) → zH n (0, 0) μ (n', L, st) M Q) : zH n (0, 0) μ c M Q := by
  obtain ⟨p, off, ⟨b, z, ts⟩, ho⟩ := zwf_ex h
  refine zH_wg k hm ho (fun he => ?_)
  have hp : p = pc := zat_at _ _ _ he
  subst hp
  exact zH_if_le hm he Kt Kf
end HW
