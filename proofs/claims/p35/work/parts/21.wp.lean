/-! RULES OVER THE SIMPLE MACHINE'S RUNS, THE CELLS AS THEY ARE BEHIND THE CONSTRUCTORS -/
def zsteps (code : List zE) (B : Nat × Nat) : Nat → zC → zW → Option (zC × zW)
  | 0, c, w => some (c, w)
  | k + 1, c, w => match zat code c.1 with
    | none => none
    | some e => match zst true B e c.2.1 c.2.2 w with
      | some (.inl (c', w')) => zsteps code B k c' w'
      | _ => none
def zG (n : Nat) (ct : Nat × Nat) (d μ : Nat) (c : zC) (M : zM) (Q : Option zV → zM → Prop) : Prop :=
  ∃ (f : Nat) (r : Option zV) (M' : zM), zrun zP f d μ c (zSH n, M, ct.1, ct.2) = some (r, (zSH n, M', ct.1, ct.2)) ∧ Q r M'
theorem zrun_succ (P : Nat → zMd) (f d μ : Nat) (c : zC) (w : zW) : zrun P (f + 1) d μ c w = (match zat (P μ).1 c.1 with
    | none => none
    | some e =>
      match zst (d != 0) (P μ).2.2 e c.2.1 c.2.2 w with
      | none => none
      | some (.inl (c', w')) => zrun P f d μ c' w'
      | some (.inr (.inl v)) => some (v, w)
      | some (.inr (.inr (y, as, c'))) =>
        if zsum as ≤ (P y).2.1 ∧ w.2.2.1 + (P y).2.2.1 ≤ (P μ).2.2.1 ∧ w.2.2.2 + (P y).2.2.2 ≤ (P μ).2.2.2 then
          match zrun P f (d - 1) y (0, zini as (P y).2.1, []) (w.1, w.2.1, 0, 0) with
          | none => none
          | some (v, w') => zrun P f d μ (c'.1, c'.2.1, v.toList ++ c'.2.2) (w'.1, w'.2.1, w.2.2.1 + (P y).2.2.1, w.2.2.2 + (P y).2.2.2)
        else none) := rfl
theorem zrun_more (P : Nat → zMd) : ∀ (f : Nat) {d μ : Nat} {c : zC} {w : zW} {q : Option zV × zW} (g : Nat), zrun P f d μ c w = some q → zrun P (f + g) d μ c w = some q := by
  intro f
  induction f with
  | zero => intro d μ c w q g h; cases h
  | succ f ih =>
    intro d μ c w q g h
    rw [Nat.add_right_comm]
    rw [zrun_succ] at h ⊢
    cases he : zat (P μ).1 c.1 with
    | none => rw [he] at h; cases h
    | some e =>
      rw [he] at h
      dsimp only at h ⊢
      cases hz : zst (d != 0) (P μ).2.2 e c.2.1 c.2.2 w with
      | none => rw [hz] at h; cases h
      | some o =>
        rw [hz] at h
        rcases o with ⟨c', w'⟩ | v | ⟨y, as, c'⟩
        · exact ih g h
        · exact h
        · dsimp only at h ⊢
          by_cases hr : zsum as ≤ (P y).2.1 ∧ w.2.2.1 + (P y).2.2.1 ≤ (P μ).2.2.1 ∧ w.2.2.2 + (P y).2.2.2 ≤ (P μ).2.2.2
          · rw [if_pos hr] at h ⊢
            cases hc : zrun P f (d - 1) y (0, zini as (P y).2.1, []) (w.1, w.2.1, 0, 0) with
            | none => rw [hc] at h; cases h
            | some q1 =>
              rw [hc] at h
              rw [ih g hc]
              exact ih g h
          · rw [if_neg hr] at h; cases h
section ZG
variable {n : Nat} {ct : Nat × Nat} {d μ : Nat} {Q : Option zV → zM → Prop} {M : zM} {code : List zE} {mL : Nat} {B : Nat × Nat} {pc : Nat} {L st : List zV}
theorem zG.mono {c : zC} {Q' : Option zV → zM → Prop} (h : zG n ct d μ c M Q) (hq : ∀ r M', Q r M' → Q' r M') : zG n ct d μ c M Q' := by
  obtain ⟨f, r, M', h1, h2⟩ := h
  exact ⟨f, r, M', h1, hq r M' h2⟩
theorem zG_one {e : zE} {c' : zC} {M' : zM} {c : zC} (hd : 0 < d) (hm : zP μ = (code, mL, B)) (he : zat code c.1 = some e) (hz : zst true B e c.2.1 c.2.2 (zSH n, M, ct.1, ct.2) = some (.inl (c', (zSH n, M', ct.1, ct.2)))) (K : zG n ct d μ c' M' Q) : zG n ct d μ c M Q := by
  obtain ⟨f, r, M1, h1, h2⟩ := K
  refine ⟨f + 1, r, M1, ?_, h2⟩
  have hd1 : (d != 0) = true := by simp; omega
  rw [zrun_succ]
  rw [hm]
  simp only [he, hd1, hz]
  exact h1
theorem zG_blk (k : Nat) {c c' : zC} {M' : zM} (hd : 0 < d) (hm : zP μ = (code, mL, B)) (h : zsteps code B k c (zSH n, M, ct.1, ct.2) = some (c', (zSH n, M', ct.1, ct.2))) (K : zG n ct d μ c' M' Q) : zG n ct d μ c M Q := by
  obtain ⟨f, r, M1, h1, h2⟩ := K
  refine ⟨f + k, r, M1, ?_, h2⟩
  have hd1 : (d != 0) = true := by simp; omega
  have key : ∀ (k : Nat) (c : zC) (w : zW), zsteps code B k c w = some (c', (zSH n, M', ct.1, ct.2)) → zrun zP (f + k) d μ c w = some (r, (zSH n, M1, ct.1, ct.2)) := by
    intro k
    induction k with
    | zero => intro c w h; cases h; exact h1
    | succ k ih =>
      intro c w h
      unfold zsteps at h
      split at h
      · cases h
      · rename_i e he
        split at h
        · rename_i c2 w2 hz
          show zrun zP ((f + k) + 1) d μ c w = _
          rw [zrun_succ]
          rw [hm]
          simp only [he, hd1, hz]
          exact ih c2 w2 h
        · cases h
  exact key k c _ h
theorem zG_ret {e : zE} {r : Option zV} (hd : 0 < d) (hm : zP μ = (code, mL, B)) (he : zat code pc = some e) (hz : zst true B e L st (zSH n, M, ct.1, ct.2) = some (.inr (.inl r))) (hq : Q r M) : zG n ct d μ (pc, L, st) M Q := by
  refine ⟨1, r, M, ?_, hq⟩
  have hd1 : (d != 0) = true := by simp; omega
  rw [zrun_succ]
  rw [hm]
  simp only [he, hd1, hz]
theorem zG_call {e : zE} {y : Nat} {as : List zV} {c1 : zC} {code' : List zE} {mL' : Nat} {Q1 : Option zV → zM → Prop} (hd : 0 < d) (hm : zP μ = (code, mL, B)) (hm' : zP y = (code', mL', (0, 0))) (he : zat code pc = some e) (hz : zst true B e L st (zSH n, M, ct.1, ct.2) = some (.inr (.inr (y, as, c1)))) (has : zsum as ≤ mL') (hb : ct.1 ≤ B.1 ∧ ct.2 ≤ B.2) (hc : zG n (0, 0) (d - 1) y (0, zini as mL', []) M Q1) (K : ∀ r M1, Q1 r M1 → zG n ct d μ (c1.1, c1.2.1, r.toList ++ c1.2.2) M1 Q) : zG n ct d μ (pc, L, st) M Q := by
  obtain ⟨f, r, M1, h1, h2⟩ := hc
  obtain ⟨g, r', M2, h3, h4⟩ := K r M1 h2
  refine ⟨(f + g) + 1, r', M2, ?_, h4⟩
  have hd1 : (d != 0) = true := by simp; omega
  have e1 := zrun_more zP f g h1
  have e2 := zrun_more zP g f h3
  rw [Nat.add_comm g f] at e2
  rw [zrun_succ]
  rw [hm]
  simp only [he, hd1, hz]
  rw [hm']
  rw [if_pos ⟨has, hb.1, hb.2⟩]
  simp only [e1]
  exact e2
theorem zG_icmp_eq {n' t b : Nat} {z off x y : Int} {ts : List Nat} (hd : 0 < d) (hm : zP μ = (code, mL, B)) (he : zat code pc = some (pc, .if_icmp .eq off, n', (t, b, z, ts))) (Kt : x = y → zG n ct d μ (t, L, st) M Q) (Kf : ¬ x = y → zG n ct d μ (n', L, st) M Q) : zG n ct d μ (pc, L, .inl y :: .inl x :: st) M Q := by
  by_cases h : zcmp .eq x y = true
  · have h' : x = y := by simpa [zcmp] using h
    exact zG_one hd hm he (show zjmp (zcmp .eq x y) n' t L st _ = _ by rw [h]; rfl) (Kt h')
  · have h' : ¬ x = y := by simp [zcmp] at h; omega
    have h2 : zcmp .eq x y = false := by simpa using h
    exact zG_one hd hm he (show zjmp (zcmp .eq x y) n' t L st _ = _ by rw [h2]; rfl) (Kf h')
theorem zG_if_eq {n' t b : Nat} {z off x : Int} {ts : List Nat} (hd : 0 < d) (hm : zP μ = (code, mL, B)) (he : zat code pc = some (pc, .ifCond .eq off, n', (t, b, z, ts))) (Kt : x = 0 → zG n ct d μ (t, L, st) M Q) (Kf : ¬ x = 0 → zG n ct d μ (n', L, st) M Q) : zG n ct d μ (pc, L, .inl x :: st) M Q := by
  by_cases h : zcmp .eq x 0 = true
  · have h' : x = 0 := by simpa [zcmp] using h
    exact zG_one hd hm he (show zjmp (zcmp .eq x 0) n' t L st _ = _ by rw [h]; rfl) (Kt h')
  · have h' : ¬ x = 0 := by simp [zcmp] at h; omega
    have h2 : zcmp .eq x 0 = false := by simpa using h
    exact zG_one hd hm he (show zjmp (zcmp .eq x 0) n' t L st _ = _ by rw [h2]; rfl) (Kf h')
theorem zG_icmp_ne {n' t b : Nat} {z off x y : Int} {ts : List Nat} (hd : 0 < d) (hm : zP μ = (code, mL, B)) (he : zat code pc = some (pc, .if_icmp .ne off, n', (t, b, z, ts))) (Kt : ¬ x = y → zG n ct d μ (t, L, st) M Q) (Kf : x = y → zG n ct d μ (n', L, st) M Q) : zG n ct d μ (pc, L, .inl y :: .inl x :: st) M Q := by
  by_cases h : zcmp .ne x y = true
  · have h' : ¬ x = y := by simpa [zcmp] using h
    exact zG_one hd hm he (show zjmp (zcmp .ne x y) n' t L st _ = _ by rw [h]; rfl) (Kt h')
  · have h' : x = y := by simp [zcmp] at h; omega
    have h2 : zcmp .ne x y = false := by simpa using h
    exact zG_one hd hm he (show zjmp (zcmp .ne x y) n' t L st _ = _ by rw [h2]; rfl) (Kf h')
theorem zG_if_ne {n' t b : Nat} {z off x : Int} {ts : List Nat} (hd : 0 < d) (hm : zP μ = (code, mL, B)) (he : zat code pc = some (pc, .ifCond .ne off, n', (t, b, z, ts))) (Kt : ¬ x = 0 → zG n ct d μ (t, L, st) M Q) (Kf : x = 0 → zG n ct d μ (n', L, st) M Q) : zG n ct d μ (pc, L, .inl x :: st) M Q := by
  by_cases h : zcmp .ne x 0 = true
  · have h' : ¬ x = 0 := by simpa [zcmp] using h
    exact zG_one hd hm he (show zjmp (zcmp .ne x 0) n' t L st _ = _ by rw [h]; rfl) (Kt h')
  · have h' : x = 0 := by simp [zcmp] at h; omega
    have h2 : zcmp .ne x 0 = false := by simpa using h
    exact zG_one hd hm he (show zjmp (zcmp .ne x 0) n' t L st _ = _ by rw [h2]; rfl) (Kf h')
theorem zG_icmp_lt {n' t b : Nat} {z off x y : Int} {ts : List Nat} (hd : 0 < d) (hm : zP μ = (code, mL, B)) (he : zat code pc = some (pc, .if_icmp .lt off, n', (t, b, z, ts))) (Kt : x < y → zG n ct d μ (t, L, st) M Q) (Kf : y ≤ x → zG n ct d μ (n', L, st) M Q) : zG n ct d μ (pc, L, .inl y :: .inl x :: st) M Q := by
  by_cases h : zcmp .lt x y = true
  · have h' : x < y := by simpa [zcmp] using h
    exact zG_one hd hm he (show zjmp (zcmp .lt x y) n' t L st _ = _ by rw [h]; rfl) (Kt h')
  · have h' : y ≤ x := by simp [zcmp] at h; omega
    have h2 : zcmp .lt x y = false := by simpa using h
    exact zG_one hd hm he (show zjmp (zcmp .lt x y) n' t L st _ = _ by rw [h2]; rfl) (Kf h')
theorem zG_if_lt {n' t b : Nat} {z off x : Int} {ts : List Nat} (hd : 0 < d) (hm : zP μ = (code, mL, B)) (he : zat code pc = some (pc, .ifCond .lt off, n', (t, b, z, ts))) (Kt : x < 0 → zG n ct d μ (t, L, st) M Q) (Kf : 0 ≤ x → zG n ct d μ (n', L, st) M Q) : zG n ct d μ (pc, L, .inl x :: st) M Q := by
  by_cases h : zcmp .lt x 0 = true
  · have h' : x < 0 := by simpa [zcmp] using h
    exact zG_one hd hm he (show zjmp (zcmp .lt x 0) n' t L st _ = _ by rw [h]; rfl) (Kt h')
  · have h' : 0 ≤ x := by simp [zcmp] at h; omega
    have h2 : zcmp .lt x 0 = false := by simpa using h
    exact zG_one hd hm he (show zjmp (zcmp .lt x 0) n' t L st _ = _ by rw [h2]; rfl) (Kf h')
theorem zG_icmp_ge {n' t b : Nat} {z off x y : Int} {ts : List Nat} (hd : 0 < d) (hm : zP μ = (code, mL, B)) (he : zat code pc = some (pc, .if_icmp .ge off, n', (t, b, z, ts))) (Kt : y ≤ x → zG n ct d μ (t, L, st) M Q) (Kf : x < y → zG n ct d μ (n', L, st) M Q) : zG n ct d μ (pc, L, .inl y :: .inl x :: st) M Q := by
  by_cases h : zcmp .ge x y = true
  · have h' : y ≤ x := by simpa [zcmp] using h
    exact zG_one hd hm he (show zjmp (zcmp .ge x y) n' t L st _ = _ by rw [h]; rfl) (Kt h')
  · have h' : x < y := by simp [zcmp] at h; omega
    have h2 : zcmp .ge x y = false := by simpa using h
    exact zG_one hd hm he (show zjmp (zcmp .ge x y) n' t L st _ = _ by rw [h2]; rfl) (Kf h')
theorem zG_if_ge {n' t b : Nat} {z off x : Int} {ts : List Nat} (hd : 0 < d) (hm : zP μ = (code, mL, B)) (he : zat code pc = some (pc, .ifCond .ge off, n', (t, b, z, ts))) (Kt : 0 ≤ x → zG n ct d μ (t, L, st) M Q) (Kf : x < 0 → zG n ct d μ (n', L, st) M Q) : zG n ct d μ (pc, L, .inl x :: st) M Q := by
  by_cases h : zcmp .ge x 0 = true
  · have h' : 0 ≤ x := by simpa [zcmp] using h
    exact zG_one hd hm he (show zjmp (zcmp .ge x 0) n' t L st _ = _ by rw [h]; rfl) (Kt h')
  · have h' : x < 0 := by simp [zcmp] at h; omega
    have h2 : zcmp .ge x 0 = false := by simpa using h
    exact zG_one hd hm he (show zjmp (zcmp .ge x 0) n' t L st _ = _ by rw [h2]; rfl) (Kf h')
theorem zG_icmp_gt {n' t b : Nat} {z off x y : Int} {ts : List Nat} (hd : 0 < d) (hm : zP μ = (code, mL, B)) (he : zat code pc = some (pc, .if_icmp .gt off, n', (t, b, z, ts))) (Kt : y < x → zG n ct d μ (t, L, st) M Q) (Kf : x ≤ y → zG n ct d μ (n', L, st) M Q) : zG n ct d μ (pc, L, .inl y :: .inl x :: st) M Q := by
  by_cases h : zcmp .gt x y = true
  · have h' : y < x := by simpa [zcmp] using h
    exact zG_one hd hm he (show zjmp (zcmp .gt x y) n' t L st _ = _ by rw [h]; rfl) (Kt h')
  · have h' : x ≤ y := by simp [zcmp] at h; omega
    have h2 : zcmp .gt x y = false := by simpa using h
    exact zG_one hd hm he (show zjmp (zcmp .gt x y) n' t L st _ = _ by rw [h2]; rfl) (Kf h')
theorem zG_if_gt {n' t b : Nat} {z off x : Int} {ts : List Nat} (hd : 0 < d) (hm : zP μ = (code, mL, B)) (he : zat code pc = some (pc, .ifCond .gt off, n', (t, b, z, ts))) (Kt : 0 < x → zG n ct d μ (t, L, st) M Q) (Kf : x ≤ 0 → zG n ct d μ (n', L, st) M Q) : zG n ct d μ (pc, L, .inl x :: st) M Q := by
  by_cases h : zcmp .gt x 0 = true
  · have h' : 0 < x := by simpa [zcmp] using h
    exact zG_one hd hm he (show zjmp (zcmp .gt x 0) n' t L st _ = _ by rw [h]; rfl) (Kt h')
  · have h' : x ≤ 0 := by simp [zcmp] at h; omega
    have h2 : zcmp .gt x 0 = false := by simpa using h
    exact zG_one hd hm he (show zjmp (zcmp .gt x 0) n' t L st _ = _ by rw [h2]; rfl) (Kf h')
theorem zG_icmp_le {n' t b : Nat} {z off x y : Int} {ts : List Nat} (hd : 0 < d) (hm : zP μ = (code, mL, B)) (he : zat code pc = some (pc, .if_icmp .le off, n', (t, b, z, ts))) (Kt : x ≤ y → zG n ct d μ (t, L, st) M Q) (Kf : y < x → zG n ct d μ (n', L, st) M Q) : zG n ct d μ (pc, L, .inl y :: .inl x :: st) M Q := by
  by_cases h : zcmp .le x y = true
  · have h' : x ≤ y := by simpa [zcmp] using h
    exact zG_one hd hm he (show zjmp (zcmp .le x y) n' t L st _ = _ by rw [h]; rfl) (Kt h')
  · have h' : y < x := by simp [zcmp] at h; omega
    have h2 : zcmp .le x y = false := by simpa using h
    exact zG_one hd hm he (show zjmp (zcmp .le x y) n' t L st _ = _ by rw [h2]; rfl) (Kf h')
theorem zG_if_le {n' t b : Nat} {z off x : Int} {ts : List Nat} (hd : 0 < d) (hm : zP μ = (code, mL, B)) (he : zat code pc = some (pc, .ifCond .le off, n', (t, b, z, ts))) (Kt : x ≤ 0 → zG n ct d μ (t, L, st) M Q) (Kf : 0 < x → zG n ct d μ (n', L, st) M Q) : zG n ct d μ (pc, L, .inl x :: st) M Q := by
  by_cases h : zcmp .le x 0 = true
  · have h' : x ≤ 0 := by simpa [zcmp] using h
    exact zG_one hd hm he (show zjmp (zcmp .le x 0) n' t L st _ = _ by rw [h]; rfl) (Kt h')
  · have h' : 0 < x := by simp [zcmp] at h; omega
    have h2 : zcmp .le x 0 = false := by simpa using h
    exact zG_one hd hm he (show zjmp (zcmp .le x 0) n' t L st _ = _ by rw [h2]; rfl) (Kf h')
theorem zG_iald {n' r k t : Nat} {x : zX} {i : Int} (hd : 0 < d) (hm : zP μ = (code, mL, B)) (he : zat code pc = some (pc, .iaload, n', x)) (hr : (zSH n)[r]? = some (.inl (t, k))) (ht : t = 0 ∨ t = 10) (hi : 0 ≤ i ∧ i < k) (K : zG n ct d μ (n', L, .inl (M r i.toNat) :: st) M Q) : zG n ct d μ (pc, L, .inl i :: .inr (.inr (some r)) :: st) M Q := by
  refine zG_one hd hm he ?_ K
  show zar 0 10 n' L (.inl i :: .inr (.inr (some r)) :: st) (zSH n, M, ct.1, ct.2) = _
  simp only [zar, hr]
  rw [if_pos ht, if_pos hi]
  rfl
theorem zG_lald {n' r k t : Nat} {x : zX} {i : Int} (hd : 0 < d) (hm : zP μ = (code, mL, B)) (he : zat code pc = some (pc, .laload, n', x)) (hr : (zSH n)[r]? = some (.inl (t, k))) (ht : t = 1 ∨ t = 1) (hi : 0 ≤ i ∧ i < k) (K : zG n ct d μ (n', L, .inr (.inl (M r i.toNat)) :: st) M Q) : zG n ct d μ (pc, L, .inl i :: .inr (.inr (some r)) :: st) M Q := by
  refine zG_one hd hm he ?_ K
  show zar 1 1 n' L (.inl i :: .inr (.inr (some r)) :: st) (zSH n, M, ct.1, ct.2) = _
  simp only [zar, hr]
  rw [if_pos ht, if_pos hi]
  rfl
theorem zG_bald {n' r k t : Nat} {x : zX} {i : Int} (hd : 0 < d) (hm : zP μ = (code, mL, B)) (he : zat code pc = some (pc, .baload, n', x)) (hr : (zSH n)[r]? = some (.inl (t, k))) (ht : t = 2 ∨ t = 14) (hi : 0 ≤ i ∧ i < k) (K : zG n ct d μ (n', L, .inl (M r i.toNat) :: st) M Q) : zG n ct d μ (pc, L, .inl i :: .inr (.inr (some r)) :: st) M Q := by
  refine zG_one hd hm he ?_ K
  show zar 2 14 n' L (.inl i :: .inr (.inr (some r)) :: st) (zSH n, M, ct.1, ct.2) = _
  simp only [zar, hr]
  rw [if_pos ht, if_pos hi]
  rfl
theorem zG_iast {n' r k : Nat} {x9 : zX} {i x : Int} (hd : 0 < d) (hm : zP μ = (code, mL, B)) (he : zat code pc = some (pc, .iastore, n', x9)) (hr : (zSH n)[r]? = some (.inl (0, k))) (hi : 0 ≤ i ∧ i < k) (K : zG n ct d μ (n', L, st) (zput M r i.toNat x) Q) : zG n ct d μ (pc, L, .inl x :: .inl i :: .inr (.inr (some r)) :: st) M Q := by
  refine zG_one hd hm he ?_ K
  show zas 0 n' L (.inl x :: .inl i :: .inr (.inr (some r)) :: st) (zSH n, M, ct.1, ct.2) = _
  simp only [zas, hr]
  rw [if_pos trivial, if_pos hi]
  rfl
theorem zG_last {n' r k : Nat} {x9 : zX} {i x : Int} (hd : 0 < d) (hm : zP μ = (code, mL, B)) (he : zat code pc = some (pc, .lastore, n', x9)) (hr : (zSH n)[r]? = some (.inl (1, k))) (hi : 0 ≤ i ∧ i < k) (K : zG n ct d μ (n', L, st) (zput M r i.toNat x) Q) : zG n ct d μ (pc, L, .inr (.inl x) :: .inl i :: .inr (.inr (some r)) :: st) M Q := by
  refine zG_one hd hm he ?_ K
  show zas 1 n' L (.inr (.inl x) :: .inl i :: .inr (.inr (some r)) :: st) (zSH n, M, ct.1, ct.2) = _
  simp only [zas, hr]
  rw [if_pos trivial, if_pos hi]
  rfl
theorem zG_bast {n' r k : Nat} {x9 : zX} {i x : Int} (hx : x = 0 ∨ x = 1) (hd : 0 < d) (hm : zP μ = (code, mL, B)) (he : zat code pc = some (pc, .bastore, n', x9)) (hr : (zSH n)[r]? = some (.inl (2, k))) (hi : 0 ≤ i ∧ i < k) (K : zG n ct d μ (n', L, st) (zput M r i.toNat x) Q) : zG n ct d μ (pc, L, .inl x :: .inl i :: .inr (.inr (some r)) :: st) M Q := by
  refine zG_one hd hm he ?_ K
  show zas 2 n' L (.inl x :: .inl i :: .inr (.inr (some r)) :: st) (zSH n, M, ct.1, ct.2) = _
  simp only [zas, hr]
  rw [if_pos trivial, if_pos hi]
  rw [if_pos hx]; rfl
theorem zG_idiv {n' : Nat} {x9 : zX} {x y : Int} (hd : 0 < d) (hm : zP μ = (code, mL, B)) (he : zat code pc = some (pc, .idiv, n', x9)) (hy : ¬ y = 0) (K : zG n ct d μ (n', L, .inl (w32 (x.tdiv y)) :: st) M Q) : zG n ct d μ (pc, L, .inl y :: .inl x :: st) M Q := by
  refine zG_one hd hm he ?_ K
  show zi2d (fun a b => w32 (a.tdiv b)) n' L (.inl y :: .inl x :: st) (zSH n, M, ct.1, ct.2) = _
  simp only [zi2d]
  rw [if_neg hy]
  rfl
theorem zG_irem {n' : Nat} {x9 : zX} {x y : Int} (hd : 0 < d) (hm : zP μ = (code, mL, B)) (he : zat code pc = some (pc, .irem, n', x9)) (hy : ¬ y = 0) (K : zG n ct d μ (n', L, .inl (x.tmod y) :: st) M Q) : zG n ct d μ (pc, L, .inl y :: .inl x :: st) M Q := by
  refine zG_one hd hm he ?_ K
  show zi2d (fun a b => a.tmod b) n' L (.inl y :: .inl x :: st) (zSH n, M, ct.1, ct.2) = _
  simp only [zi2d]
  rw [if_neg hy]
  rfl
theorem zG_ldiv {n' : Nat} {x9 : zX} {x y : Int} (hd : 0 < d) (hm : zP μ = (code, mL, B)) (he : zat code pc = some (pc, .ldiv, n', x9)) (hy : ¬ y = 0) (K : zG n ct d μ (n', L, .inr (.inl (w64 (x.tdiv y))) :: st) M Q) : zG n ct d μ (pc, L, .inr (.inl y) :: .inr (.inl x) :: st) M Q := by
  refine zG_one hd hm he ?_ K
  show zl2d (fun a b => w64 (a.tdiv b)) n' L (.inr (.inl y) :: .inr (.inl x) :: st) (zSH n, M, ct.1, ct.2) = _
  simp only [zl2d]
  rw [if_neg hy]
  rfl
theorem zG_lrem {n' : Nat} {x9 : zX} {x y : Int} (hd : 0 < d) (hm : zP μ = (code, mL, B)) (he : zat code pc = some (pc, .lrem, n', x9)) (hy : ¬ y = 0) (K : zG n ct d μ (n', L, .inr (.inl (x.tmod y)) :: st) M Q) : zG n ct d μ (pc, L, .inr (.inl y) :: .inr (.inl x) :: st) M Q := by
  refine zG_one hd hm he ?_ K
  show zl2d (fun a b => a.tmod b) n' L (.inr (.inl y) :: .inr (.inl x) :: st) (zSH n, M, ct.1, ct.2) = _
  simp only [zl2d]
  rw [if_neg hy]
  rfl
theorem zG_getf {n' r ci k idx : Nat} {z : Int} {ts : List Nat} {fts : List zFT} {ft : zFT} {v : zV} (hd : 0 < d) (hm : zP μ = (code, mL, B)) (he : zat code pc = some (pc, .getfield idx, n', (ci, k, z, ts))) (hr : (zSH n)[r]? = some (.inr (ci, fts))) (hf : fts[k]? = some ft) (hv : zFV ft (M r k) = some v) (K : zG n ct d μ (n', L, v :: st) M Q) : zG n ct d μ (pc, L, .inr (.inr (some r)) :: st) M Q := by
  refine zG_one hd hm he ?_ K
  show zget ci k n' L (.inr (.inr (some r)) :: st) (zSH n, M, ct.1, ct.2) = _
  simp only [zget, hr, hf]
  rw [if_pos trivial]
  rcases ft with (_ | q) | t
  · cases hv
  · cases hv; rfl
  · simp only [zFV] at hv ⊢
    split at hv
    · rename_i h; cases hv; rw [if_pos h]; rfl
    · rename_i h; cases hv; rw [if_neg h]; rfl
theorem zG_putf {n' r ci k idx t : Nat} {x : Int} {z : Int} {ts : List Nat} {fts : List zFT} (ht : t = 0 ∨ (t = 2 ∧ (x = 0 ∨ x = 1))) (hd : 0 < d) (hm : zP μ = (code, mL, B)) (he : zat code pc = some (pc, .putfield idx, n', (ci, k, z, ts))) (h8 : 8 ≤ r) (hr : (zSH n)[r]? = some (.inr (ci, fts))) (hf : fts[k]? = some (.inr t)) (K : zG n ct d μ (n', L, st) (zput M r k x) Q) : zG n ct d μ (pc, L, .inl x :: .inr (.inr (some r)) :: st) M Q := by
  refine zG_one hd hm he ?_ K
  show zpf ci k n' L (.inl x :: .inr (.inr (some r)) :: st) (zSH n, M, ct.1, ct.2) = _
  simp only [zpf, hr]
  rw [if_neg (by omega), if_pos trivial]
  rcases ht with rfl | ⟨rfl, hx⟩
  · simp only [hf]; rfl
  · simp only [hf]; rw [if_pos hx]; rfl
theorem zG_sw {n' t b : Nat} {z df lo hi y : Int} {offs : Array Int} {ts : List Nat} (hd : 0 < d) (hm : zP μ = (code, mL, B)) (he : zat code pc = some (pc, .tableswitch df lo hi offs, n', (t, b, z, ts))) (K : zG n ct d μ (zts lo y t ts, L, st) M Q) : zG n ct d μ (pc, L, .inl y :: st) M Q := zG_one hd hm he rfl K
theorem zG_zret {n' b : Nat} {z y : Int} {ts : List Nat} (hd : 0 < d) (hm : zP μ = (code, mL, B)) (he : zat code pc = some (pc, .ireturn, n', (2, b, z, ts))) (hy : y = 0 ∨ y = 1) (hq : Q (some (.inl y)) M) : zG n ct d μ (pc, L, [.inl y]) M Q := by
  refine zG_ret hd hm he ?_ hq
  show (if y = 0 ∨ y = 1 then some (.inr (.inl (some (.inl y)))) else none : zO) = _
  rw [if_pos hy]
theorem w32_id {x : Int} (h : -2147483648 ≤ x ∧ x ≤ 2147483647) : w32 x = x := by unfold w32; omega
theorem w32_in (x : Int) : -2147483648 ≤ w32 x ∧ w32 x ≤ 2147483647 := by unfold w32; omega
end ZG
