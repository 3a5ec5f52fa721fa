/-! THE TWO CONSTRUCTORS: RULES -/
/-- the same contents, written down -/
def qml (b : zM) : List (Nat × Nat × Int) → zM
  | [] => b
  | e :: l => zput (qml b l) e.1 e.2.1 e.2.2
theorem qml_z {b : zM} {l : List (Nat × Nat × Int)} {r j : Nat} (h : l.all (fun e => !Nat.beq e.1 r) = true) (hb : b r j = 0) : qml b l r j = 0 := by
  induction l with
  | nil => exact hb
  | cons e l ih =>
    rw [List.all_cons, Bool.and_eq_true] at h
    show zput (qml b l) e.1 e.2.1 e.2.2 r j = 0
    have h1 : r ≠ e.1 := fun h' => by
      have := h.1
      rw [← h', Nat.beq_refl] at this
      cases this
    rw [qput_ne h1]
    exact ih h.2
def qR (d μ : Nat) (c : zC) (w : zW) (Q : Option zV → zW → Prop) : Prop := ∃ (f : Nat) (r : Option zV) (w' : zW), zrun zP f d μ c w = some (r, w') ∧ Q r w'
section QRR
variable {d μ : Nat} {Q : Option zV → zW → Prop} {code : List zE} {mL : Nat} {B : Nat × Nat} {pc : Nat} {L st : List zV} {w : zW}
theorem qR_blk (k : Nat) {c c' : zC} {w' : zW} (hd : 0 < d) (hm : zP μ = (code, mL, B)) (h : zsteps code B k c w = some (c', w')) (K : qR d μ c' w' Q) : qR d μ c w Q := by
  obtain ⟨f, r, w1, h1, h2⟩ := K
  refine ⟨f + k, r, w1, ?_, h2⟩
  have hd1 : (d != 0) = true := by simp; omega
  have key : ∀ (k : Nat) (c : zC) (w : zW), zsteps code B k c w = some (c', w') → zrun zP (f + k) d μ c w = some (r, w1) := by
    intro k
    induction k with
    | zero => intro c w h; cases h; exact h1
    | succ k ih =>
      intro c w h
      unfold zsteps at h
      split at h
      · cases h
      · rename_i e he
        split at h
        · rename_i c2 w2 hz
          show zrun zP ((f + k) + 1) d μ c w = _
          rw [zrun_succ]
          rw [hm]
          simp only [he, hd1, hz]
          exact ih c2 w2 h
        · cases h
  exact key k c _ h
theorem qR_z {e : zE} {c' : zC} {S S' : List zSh} {M : zM} {r a b a' b' : Nat} (hd : 0 < d) (hm : zP μ = (code, mL, B)) (he : zat code pc = some e) (hz : zst true B e L st (S, M, a, b) = some (.inl (c', (S', zzero M r, a', b')))) (h0 : ∀ j, M r j = 0) (K : qR d μ c' (S', M, a', b') Q) : qR d μ (pc, L, st) (S, M, a, b) Q := by
  have hM : zzero M r = M := by
    funext i j
    simp only [zzero]
    split
    · rename_i h; subst h; exact (h0 j).symm
    · rfl
  rw [hM] at hz
  refine qR_blk 1 hd hm ?_ K
  show (match zat code pc with
    | none => none
    | some e => match zst true B e L st (S, M, a, b) with
      | some (.inl (c', w')) => zsteps code B 0 c' w'
      | _ => none) = _
  rw [he]
  simp only [hz]
  rfl
theorem qR_ret {e : zE} {r : Option zV} (hd : 0 < d) (hm : zP μ = (code, mL, B)) (he : zat code pc = some e) (hz : zst true B e L st w = some (.inr (.inl r))) (hq : Q r w) : qR d μ (pc, L, st) w Q := by
  refine ⟨1, r, w, ?_, hq⟩
  have hd1 : (d != 0) = true := by simp; omega
  rw [zrun_succ]
  rw [hm]
  simp only [he, hd1, hz]
theorem qR_call {e : zE} {y : Nat} {as : List zV} {c1 : zC} {code' : List zE} {mL' : Nat} {S : List zSh} {M : zM} {a b B1 B2 b1 b2 : Nat} {Q1 : Option zV → zW → Prop} (hd : 0 < d) (hm : zP μ = (code, mL, (B1, B2))) (hm' : zP y = (code', mL', (b1, b2))) (he : zat code pc = some e) (hz : zst true (B1, B2) e L st (S, M, a, b) = some (.inr (.inr (y, as, c1)))) (has : zsum as ≤ mL') (hb : a + b1 ≤ B1 ∧ b + b2 ≤ B2) (hc : qR (d - 1) y (0, zini as mL', []) (S, M, 0, 0) Q1) (K : ∀ r w1, Q1 r w1 → qR d μ (c1.1, c1.2.1, r.toList ++ c1.2.2) (w1.1, w1.2.1, a + b1, b + b2) Q) : qR d μ (pc, L, st) (S, M, a, b) Q := by
  obtain ⟨f, r, w1, h1, h2⟩ := hc
  obtain ⟨g, r', w2, h3, h4⟩ := K r w1 h2
  refine ⟨(f + g) + 1, r', w2, ?_, h4⟩
  have hd1 : (d != 0) = true := by simp; omega
  have e1 := zrun_more zP f g h1
  have e2 := zrun_more zP g f h3
  rw [Nat.add_comm g f] at e2
  rw [zrun_succ]
  rw [hm]
  simp only [he, hd1, hz]
  rw [hm']
  rw [if_pos ⟨has, hb.1, hb.2⟩]
  simp only [e1]
  exact e2
theorem qR_G {n : Nat} {ct : Nat × Nat} {c : zC} {M : zM} {R : Option zV → Prop} (h : zG n ct d μ c M (fun v _ => R v)) : qR d μ c (zSH n, M, ct.1, ct.2) (fun v _ => R v) := by
  obtain ⟨f, r, M', h1, h2⟩ := h
  exact ⟨f, r, _, h1, h2⟩
end QRR
