/-! WHAT A RUN THAT ENDS ANSWERS: RULES WITHOUT PREMISES -/
def zH (n : Nat) (ct : Nat × Nat) (μ : Nat) (c : zC) (M : zM) (Q : Option zV → zM → Prop) : Prop :=
  ∀ (f d : Nat) (r : Option zV) (w : zW), zrun zP f d μ c (zSH n, M, ct.1, ct.2) = some (r, w) → (w.1 = zSH n ∧ w.2.2 = ct) ∧ Q r w.2.1
theorem zst_true {b : Bool} {B : Nat × Nat} {e : zE} {L st : List zV} {w : zW} {o : (zC × zW) ⊕ (Option zV ⊕ (Nat × List zV × zC))} (h : zst b B e L st w = some o) : zst true B e L st w = some o := by
  cases b
  · obtain ⟨p, i, n, x⟩ := e
    cases i <;> first | exact h | exact absurd h (by simp [zst, zinv])
  · exact h
theorem zrun_deep (P : Nat → zMd) : ∀ (f : Nat) {d d' μ : Nat} {c : zC} {w : zW} {q : Option zV × zW}, d ≤ d' → zrun P f d μ c w = some q → zrun P f d' μ c w = some q := by
  intro f
  induction f with
  | zero => intro d d' μ c w q hd h; cases h
  | succ f ih =>
    intro d d' μ c w q hd h
    rw [zrun_succ] at h ⊢
    cases he : zat (P μ).1 c.1 with
    | none => rw [he] at h; cases h
    | some e =>
      rw [he] at h
      dsimp only at h ⊢
      cases hz : zst (d != 0) (P μ).2.2 e c.2.1 c.2.2 w with
      | none => rw [hz] at h; cases h
      | some o =>
        rw [hz] at h
        have hz2 : zst (d' != 0) (P μ).2.2 e c.2.1 c.2.2 w = some o := by
          cases hb : (d' != 0) with
          | true => exact zst_true hz
          | false =>
            have h0 : d' = 0 := by simpa using hb
            have h1 : d = 0 := by omega
            subst h1
            exact hz
        rw [hz2]
        rcases o with ⟨c', w'⟩ | v | ⟨y, as, c'⟩
        · exact ih hd h
        · exact h
        · dsimp only at h ⊢
          by_cases hr : zsum as ≤ (P y).2.1 ∧ w.2.2.1 + (P y).2.2.1 ≤ (P μ).2.2.1 ∧ w.2.2.2 + (P y).2.2.2 ≤ (P μ).2.2.2
          · rw [if_pos hr] at h ⊢
            cases hc : zrun P f (d - 1) y (0, zini as (P y).2.1, []) (w.1, w.2.1, 0, 0) with
            | none => rw [hc] at h; cases h
            | some q1 =>
              rw [hc] at h
              rw [ih (show d - 1 ≤ d' - 1 by omega) hc]
              exact ih hd h
          · rw [if_neg hr] at h; cases h
section ZH
variable {n : Nat} {ct : Nat × Nat} {μ : Nat} {Q : Option zV → zM → Prop} {M : zM} {code : List zE} {mL : Nat} {B : Nat × Nat} {pc : Nat} {L st : List zV}
theorem zG.andH {d : Nat} {c : zC} {Q' : Option zV → zM → Prop} (h : zG n ct d μ c M Q) (h' : zH n ct μ c M Q') : zG n ct d μ c M (fun r M' => Q r M' ∧ Q' r M') := by
  obtain ⟨f, r, M', h1, h2⟩ := h
  exact ⟨f, r, M', h1, h2, (h' f d r _ h1).2⟩
theorem zG.toH {d : Nat} {c : zC} (h : zG n ct d μ c M Q) : zH n ct μ c M Q := by
  obtain ⟨f, r, M', h1, h2⟩ := h
  intro g e r' w' hg
  have a1 := zrun_more zP f g (zrun_deep zP f (Nat.le_max_left d e) h1)
  have a2 := zrun_more zP g f (zrun_deep zP g (Nat.le_max_right d e) hg)
  rw [Nat.add_comm g f, a1] at a2
  cases a2
  exact ⟨⟨rfl, rfl⟩, h2⟩
theorem zH.mono {c : zC} {Q' : Option zV → zM → Prop} (h : zH n ct μ c M Q) (hq : ∀ r M', Q r M' → Q' r M') : zH n ct μ c M Q' := fun f d r w e => ⟨(h f d r w e).1, hq _ _ (h f d r w e).2⟩
theorem zH_gen {e : zE} {c : zC} (hm : zP μ = (code, mL, B)) (he : zat code c.1 = some e) (K : ∀ o, zst true B e c.2.1 c.2.2 (zSH n, M, ct.1, ct.2) = some o → ∃ c' M', o = .inl (c', (zSH n, M', ct.1, ct.2)) ∧ zH n ct μ c' M' Q) : zH n ct μ c M Q := by
  intro f d r w h
  cases f with
  | zero => cases h
  | succ f =>
    rw [zrun_succ, hm] at h
    simp only [he] at h
    cases hs : zst (d != 0) B e c.2.1 c.2.2 (zSH n, M, ct.1, ct.2) with
    | none => rw [hs] at h; cases h
    | some o =>
      rw [hs] at h
      obtain ⟨c', M', rfl, hk⟩ := K o (zst_true hs)
      exact hk f d r w h
theorem zH_one {e : zE} {c c' : zC} {M' : zM} (hm : zP μ = (code, mL, B)) (he : zat code c.1 = some e) (hz : zst true B e c.2.1 c.2.2 (zSH n, M, ct.1, ct.2) = some (.inl (c', (zSH n, M', ct.1, ct.2)))) (K : zH n ct μ c' M' Q) : zH n ct μ c M Q :=
  zH_gen hm he (fun o ho => by rw [hz] at ho; cases ho; exact ⟨c', M', rfl, K⟩)
theorem zH_blk (k : Nat) {c c' : zC} {M' : zM} (hm : zP μ = (code, mL, B)) (h : zsteps code B k c (zSH n, M, ct.1, ct.2) = some (c', (zSH n, M', ct.1, ct.2))) (K : zH n ct μ c' M' Q) : zH n ct μ c M Q := by
  intro f d r w hr
  have key : ∀ (k f : Nat) (c : zC) (w0 : zW), zsteps code B k c w0 = some (c', (zSH n, M', ct.1, ct.2)) → zrun zP f d μ c w0 = some (r, w) → ∃ g, zrun zP g d μ c' (zSH n, M', ct.1, ct.2) = some (r, w) := by
    intro k
    induction k with
    | zero => intro f c w0 h hr; cases h; exact ⟨f, hr⟩
    | succ k ih =>
      intro f c w0 h hr
      unfold zsteps at h
      split at h
      · cases h
      · rename_i e he
        split at h
        · rename_i c2 w2 hz
          cases f with
          | zero => cases hr
          | succ f =>
            rw [zrun_succ, hm] at hr
            simp only [he] at hr
            cases hs : zst (d != 0) B e c.2.1 c.2.2 w0 with
            | none => rw [hs] at hr; cases hr
            | some o =>
              rw [hs] at hr
              have h5 := zst_true hs
              rw [hz] at h5
              cases h5
              exact ih f c2 w2 h hr
        · cases h
  obtain ⟨g, hg⟩ := key k f c _ h hr
  exact K g d r w hg
theorem zH_ret {e : zE} {r : Option zV} (hm : zP μ = (code, mL, B)) (he : zat code pc = some e) (hz : zst true B e L st (zSH n, M, ct.1, ct.2) = some (.inr (.inl r))) (hq : Q r M) : zH n ct μ (pc, L, st) M Q := by
  intro f d r' w h
  cases f with
  | zero => cases h
  | succ f =>
    rw [zrun_succ, hm] at h
    simp only [he] at h
    cases hs : zst (d != 0) B e L st (zSH n, M, ct.1, ct.2) with
    | none => rw [hs] at h; cases h
    | some o =>
      rw [hs] at h
      have h5 := zst_true hs
      rw [hz] at h5
      cases h5
      cases h
      exact ⟨⟨rfl, rfl⟩, hq⟩
theorem zH_zret {n' b : Nat} {z y : Int} {ts : List Nat} (hm : zP μ = (code, mL, B)) (he : zat code pc = some (pc, .ireturn, n', (2, b, z, ts))) (hq : Q (some (.inl y)) M) : zH n ct μ (pc, L, [.inl y]) M Q := by
  by_cases hy : y = 0 ∨ y = 1
  · refine zH_ret hm he ?_ hq
    show (if y = 0 ∨ y = 1 then some (.inr (.inl (some (.inl y)))) else none : zO) = _
    rw [if_pos hy]
  · intro f d r' w h
    cases f with
    | zero => cases h
    | succ f =>
      rw [zrun_succ, hm] at h
      simp only [he] at h
      cases hs : zst (d != 0) B (pc, .ireturn, n', (2, b, z, ts)) L [.inl y] (zSH n, M, ct.1, ct.2) with
      | none => rw [hs] at h; cases h
      | some o =>
        have h5 : (if y = 0 ∨ y = 1 then some (.inr (.inl (some (.inl y)))) else none : zO) = some o := zst_true hs
        rw [if_neg hy] at h5
        cases h5
theorem zH_call {e : zE} {y : Nat} {as : List zV} {c1 : zC} {code' : List zE} {mL' : Nat} {Q1 : Option zV → zM → Prop} (hm : zP μ = (code, mL, B)) (hm' : zP y = (code', mL', (0, 0))) (he : zat code pc = some e) (hz : zst true B e L st (zSH n, M, ct.1, ct.2) = some (.inr (.inr (y, as, c1)))) (hc : zH n (0, 0) y (0, zini as mL', []) M Q1) (K : ∀ r M1, Q1 r M1 → zH n ct μ (c1.1, c1.2.1, r.toList ++ c1.2.2) M1 Q) : zH n ct μ (pc, L, st) M Q := by
  intro f d r w h
  cases f with
  | zero => cases h
  | succ f =>
    rw [zrun_succ, hm] at h
    simp only [he] at h
    cases hs : zst (d != 0) B e L st (zSH n, M, ct.1, ct.2) with
    | none => rw [hs] at h; cases h
    | some o =>
      rw [hs] at h
      have h5 := zst_true hs
      rw [hz] at h5
      cases h5
      dsimp only at h
      rw [hm'] at h
      split at h
      · rename_i hb
        cases hq : zrun zP f (d - 1) y (0, zini as mL', []) (zSH n, M, 0, 0) with
        | none => simp only [hq] at h; cases h
        | some q =>
          simp only [hq] at h
          obtain ⟨v, w'⟩ := q
          obtain ⟨⟨e1, e2⟩, h1⟩ := hc f (d - 1) v w' hq
          obtain ⟨S', M', p', q'⟩ := w'
          dsimp only at e1 e2 h1 h
          subst e1
          exact K v M' h1 f d r w h
      · cases h
theorem zH_callE {e : zE} {y : Nat} {as : List zV} {c1 : zC} {code' : List zE} {mL' : Nat} {r0 : Option zV} {X : zM} (hm : zP μ = (code, mL, B)) (hm' : zP y = (code', mL', (0, 0))) (he : zat code pc = some e) (hz : zst true B e L st (zSH n, M, ct.1, ct.2) = some (.inr (.inr (y, as, c1)))) (hc : zH n (0, 0) y (0, zini as mL', []) M (fun r M' => r = r0 ∧ M' = X)) (K : zH n ct μ (c1.1, c1.2.1, r0.toList ++ c1.2.2) X Q) : zH n ct μ (pc, L, st) M Q :=
  zH_call hm hm' he hz hc (fun r M1 h => by obtain ⟨h1, h2⟩ := h; rw [h1, h2]; exact K)
theorem zH_callB {e : zE} {y : Nat} {as : List zV} {c1 : zC} {code' : List zE} {mL' : Nat} {v0 : Int} {X : zM} (hm : zP μ = (code, mL, B)) (hm' : zP y = (code', mL', (0, 0))) (he : zat code pc = some e) (hz : zst true B e L st (zSH n, M, ct.1, ct.2) = some (.inr (.inr (y, as, c1)))) (hc : zH n (0, 0) y (0, zini as mL', []) M (fun r M' => r = some (.inl v0) ∧ M' = X)) (K : ∀ (x : Int) (X' : zM), x = v0 → X' = X → zH n ct μ (c1.1, c1.2.1, .inl x :: c1.2.2) X' Q) : zH n ct μ (pc, L, st) M Q :=
  zH_call hm hm' he hz hc (fun r M1 h => by obtain ⟨h1, h2⟩ := h; rw [h1, h2]; exact K _ _ rfl rfl)
theorem zH_callW {e : zE} {y : Nat} {as : List zV} {c1 : zC} {code' : List zE} {mL' : Nat} {r0 : Option zV} {X : zM} (hm : zP μ = (code, mL, B)) (hm' : zP y = (code', mL', (0, 0))) (he : zat code pc = some e) (hz : zst true B e L st (zSH n, M, ct.1, ct.2) = some (.inr (.inr (y, as, c1)))) (hc : zH n (0, 0) y (0, zini as mL', []) M (fun r M' => r = r0 ∧ M' = X)) (K : ∀ (X' : zM), X' = X → zH n ct μ (c1.1, c1.2.1, r0.toList ++ c1.2.2) X' Q) : zH n ct μ (pc, L, st) M Q :=
  zH_call hm hm' he hz hc (fun r M1 h => by obtain ⟨h1, h2⟩ := h; rw [h1, h2]; exact K _ rfl)
theorem hfinB {F : Int × zM} {t : Int} {X : zM} (h : F = (t, X)) : (some (.inl t) : Option zV) = some (.inl F.1) ∧ X = F.2 := by subst h; exact ⟨rfl, rfl⟩
theorem hfinBj {F : Int × zM} {t : Int} {X : zM} (h : F = (t, X)) : (some (.inr (.inl t)) : Option zV) = some (.inr (.inl F.1)) ∧ X = F.2 := by subst h; exact ⟨rfl, rfl⟩
theorem hfinP {F t : Int} {X : zM} (h : F = t) : (some (.inl t) : Option zV) = some (.inl F) ∧ X = X := by subst h; exact ⟨rfl, rfl⟩
theorem hfinPj {F t : Int} {X : zM} (h : F = t) : (some (.inr (.inl t)) : Option zV) = some (.inr (.inl F)) ∧ X = X := by subst h; exact ⟨rfl, rfl⟩
theorem zH_icmp_eq {n' t b : Nat} {z off x y : Int} {ts : List Nat} (hm : zP μ = (code, mL, B)) (he : zat code pc = some (pc, .if_icmp .eq off, n', (t, b, z, ts))) (Kt : x = y → zH n ct μ (t, L, st) M Q) (Kf : ¬ (x = y) → zH n ct μ (n', L, st) M Q) : zH n ct μ (pc, L, .inl y :: .inl x :: st) M Q := by
  by_cases h : x = y
  · exact zH_one hm he (show zjmp (zcmp .eq x y) n' t L st _ = _ by rw [show zcmp .eq x y = true from decide_eq_true h]; rfl) (Kt h)
  · exact zH_one hm he (show zjmp (zcmp .eq x y) n' t L st _ = _ by rw [show zcmp .eq x y = false from decide_eq_false h]; rfl) (Kf h)
theorem zH_if_eq {n' t b : Nat} {z off x : Int} {ts : List Nat} (hm : zP μ = (code, mL, B)) (he : zat code pc = some (pc, .ifCond .eq off, n', (t, b, z, ts))) (Kt : x = 0 → zH n ct μ (t, L, st) M Q) (Kf : ¬ (x = 0) → zH n ct μ (n', L, st) M Q) : zH n ct μ (pc, L, .inl x :: st) M Q := by
  by_cases h : x = 0
  · exact zH_one hm he (show zjmp (zcmp .eq x 0) n' t L st _ = _ by rw [show zcmp .eq x 0 = true from decide_eq_true h]; rfl) (Kt h)
  · exact zH_one hm he (show zjmp (zcmp .eq x 0) n' t L st _ = _ by rw [show zcmp .eq x 0 = false from decide_eq_false h]; rfl) (Kf h)
theorem zH_icmp_ne {n' t b : Nat} {z off x y : Int} {ts : List Nat} (hm : zP μ = (code, mL, B)) (he : zat code pc = some (pc, .if_icmp .ne off, n', (t, b, z, ts))) (Kt : ¬ x = y → zH n ct μ (t, L, st) M Q) (Kf : ¬ (¬ x = y) → zH n ct μ (n', L, st) M Q) : zH n ct μ (pc, L, .inl y :: .inl x :: st) M Q := by
  by_cases h : ¬ x = y
  · exact zH_one hm he (show zjmp (zcmp .ne x y) n' t L st _ = _ by rw [show zcmp .ne x y = true from decide_eq_true h]; rfl) (Kt h)
  · exact zH_one hm he (show zjmp (zcmp .ne x y) n' t L st _ = _ by rw [show zcmp .ne x y = false from decide_eq_false h]; rfl) (Kf h)
theorem zH_if_ne {n' t b : Nat} {z off x : Int} {ts : List Nat} (hm : zP μ = (code, mL, B)) (he : zat code pc = some (pc, .ifCond .ne off, n', (t, b, z, ts))) (Kt : ¬ x = 0 → zH n ct μ (t, L, st) M Q) (Kf : ¬ (¬ x = 0) → zH n ct μ (n', L, st) M Q) : zH n ct μ (pc, L, .inl x :: st) M Q := by
  by_cases h : ¬ x = 0
  · exact zH_one hm he (show zjmp (zcmp .ne x 0) n' t L st _ = _ by rw [show zcmp .ne x 0 = true from decide_eq_true h]; rfl) (Kt h)
  · exact zH_one hm he (show zjmp (zcmp .ne x 0) n' t L st _ = _ by rw [show zcmp .ne x 0 = false from decide_eq_false h]; rfl) (Kf h)
theorem zH_icmp_lt {n' t b : Nat} {z off x y : Int} {ts : List Nat} (hm : zP μ = (code, mL, B)) (he : zat code pc = some (pc, .if_icmp .lt off, n', (t, b, z, ts))) (Kt : x < y → zH n ct μ (t, L, st) M Q) (Kf : ¬ (x < y) → zH n ct μ (n', L, st) M Q) : zH n ct μ (pc, L, .inl y :: .inl x :: st) M Q := by
  by_cases h : x < y
  · exact zH_one hm he (show zjmp (zcmp .lt x y) n' t L st _ = _ by rw [show zcmp .lt x y = true from decide_eq_true h]; rfl) (Kt h)
  · exact zH_one hm he (show zjmp (zcmp .lt x y) n' t L st _ = _ by rw [show zcmp .lt x y = false from decide_eq_false h]; rfl) (Kf h)
theorem zH_if_lt {n' t b : Nat} {z off x : Int} {ts : List Nat} (hm : zP μ = (code, mL, B)) (he : zat code pc = some (pc, .ifCond .lt off, n', (t, b, z, ts))) (Kt : x < 0 → zH n ct μ (t, L, st) M Q) (Kf : ¬ (x < 0) → zH n ct μ (n', L, st) M Q) : zH n ct μ (pc, L, .inl x :: st) M Q := by
  by_cases h : x < 0
  · exact zH_one hm he (show zjmp (zcmp .lt x 0) n' t L st _ = _ by rw [show zcmp .lt x 0 = true from decide_eq_true h]; rfl) (Kt h)
  · exact zH_one hm he (show zjmp (zcmp .lt x 0) n' t L st _ = _ by rw [show zcmp .lt x 0 = false from decide_eq_false h]; rfl) (Kf h)
theorem zH_icmp_ge {n' t b : Nat} {z off x y : Int} {ts : List Nat} (hm : zP μ = (code, mL, B)) (he : zat code pc = some (pc, .if_icmp .ge off, n', (t, b, z, ts))) (Kt : y ≤ x → zH n ct μ (t, L, st) M Q) (Kf : ¬ (y ≤ x) → zH n ct μ (n', L, st) M Q) : zH n ct μ (pc, L, .inl y :: .inl x :: st) M Q := by
  by_cases h : y ≤ x
  · exact zH_one hm he (show zjmp (zcmp .ge x y) n' t L st _ = _ by rw [show zcmp .ge x y = true from decide_eq_true h]; rfl) (Kt h)
  · exact zH_one hm he (show zjmp (zcmp .ge x y) n' t L st _ = _ by rw [show zcmp .ge x y = false from decide_eq_false h]; rfl) (Kf h)
theorem zH_if_ge {n' t b : Nat} {z off x : Int} {ts : List Nat} (hm : zP μ = (code, mL, B)) (he : zat code pc = some (pc, .ifCond .ge off, n', (t, b, z, ts))) (Kt : 0 ≤ x → zH n ct μ (t, L, st) M Q) (Kf : ¬ (0 ≤ x) → zH n ct μ (n', L, st) M Q) : zH n ct μ (pc, L, .inl x :: st) M Q := by
  by_cases h : 0 ≤ x
  · exact zH_one hm he (show zjmp (zcmp .ge x 0) n' t L st _ = _ by rw [show zcmp .ge x 0 = true from decide_eq_true h]; rfl) (Kt h)
  · exact zH_one hm he (show zjmp (zcmp .ge x 0) n' t L st _ = _ by rw [show zcmp .ge x 0 = false from decide_eq_false h]; rfl) (Kf h)
theorem zH_icmp_gt {n' t b : Nat} {z off x y : Int} {ts : List Nat} (hm : zP μ = (code, mL, B)) (he : zat code pc = some (pc, .if_icmp .gt off, n', (t, b, z, ts))) (Kt : y < x → zH n ct μ (t, L, st) M Q) (Kf : ¬ (y < x) → zH n ct μ (n', L, st) M Q) : zH n ct μ (pc, L, .inl y :: .inl x :: st) M Q := by
  by_cases h : y < x
  · exact zH_one hm he (show zjmp (zcmp .gt x y) n' t L st _ = _ by rw [show zcmp .gt x y = true from decide_eq_true h]; rfl) (Kt h)
  · exact zH_one hm he (show zjmp (zcmp .gt x y) n' t L st _ = _ by rw [show zcmp .gt x y = false from decide_eq_false h]; rfl) (Kf h)
theorem zH_if_gt {n' t b : Nat} {z off x : Int} {ts : List Nat} (hm : zP μ = (code, mL, B)) (he : zat code pc = some (pc, .ifCond .gt off, n', (t, b, z, ts))) (Kt : 0 < x → zH n ct μ (t, L, st) M Q) (Kf : ¬ (0 < x) → zH n ct μ (n', L, st) M Q) : zH n ct μ (pc, L, .inl x :: st) M Q := by
  by_cases h : 0 < x
  · exact zH_one hm he (show zjmp (zcmp .gt x 0) n' t L st _ = _ by rw [show zcmp .gt x 0 = true from decide_eq_true h]; rfl) (Kt h)
  · exact zH_one hm he (show zjmp (zcmp .gt x 0) n' t L st _ = _ by rw [show zcmp .gt x 0 = false from decide_eq_false h]; rfl) (Kf h)
theorem zH_icmp_le {n' t b : Nat} {z off x y : Int} {ts : List Nat} (hm : zP μ = (code, mL, B)) (he : zat code pc = some (pc, .if_icmp .le off, n', (t, b, z, ts))) (Kt : x ≤ y → zH n ct μ (t, L, st) M Q) (Kf : ¬ (x ≤ y) → zH n ct μ (n', L, st) M Q) : zH n ct μ (pc, L, .inl y :: .inl x :: st) M Q := by
  by_cases h : x ≤ y
  · exact zH_one hm he (show zjmp (zcmp .le x y) n' t L st _ = _ by rw [show zcmp .le x y = true from decide_eq_true h]; rfl) (Kt h)
  · exact zH_one hm he (show zjmp (zcmp .le x y) n' t L st _ = _ by rw [show zcmp .le x y = false from decide_eq_false h]; rfl) (Kf h)
theorem zH_if_le {n' t b : Nat} {z off x : Int} {ts : List Nat} (hm : zP μ = (code, mL, B)) (he : zat code pc = some (pc, .ifCond .le off, n', (t, b, z, ts))) (Kt : x ≤ 0 → zH n ct μ (t, L, st) M Q) (Kf : ¬ (x ≤ 0) → zH n ct μ (n', L, st) M Q) : zH n ct μ (pc, L, .inl x :: st) M Q := by
  by_cases h : x ≤ 0
  · exact zH_one hm he (show zjmp (zcmp .le x 0) n' t L st _ = _ by rw [show zcmp .le x 0 = true from decide_eq_true h]; rfl) (Kt h)
  · exact zH_one hm he (show zjmp (zcmp .le x 0) n' t L st _ = _ by rw [show zcmp .le x 0 = false from decide_eq_false h]; rfl) (Kf h)
theorem zH_iald {n' r k t : Nat} {x : zX} {i : Int} (hm : zP μ = (code, mL, B)) (he : zat code pc = some (pc, .iaload, n', x)) (hr : (zSH n)[r]? = some (.inl (t, k))) (ht : t = 0 ∨ t = 10) (K : 0 ≤ i ∧ i < k → zH n ct μ (n', L, .inl (M r i.toNat) :: st) M Q) : zH n ct μ (pc, L, .inl i :: .inr (.inr (some r)) :: st) M Q := by
  refine zH_gen hm he (fun o ho => ?_)
  have ho : zar 0 10 n' L (.inl i :: .inr (.inr (some r)) :: st) (zSH n, M, ct.1, ct.2) = some o := ho
  simp only [zar, hr] at ho
  rw [if_pos ht] at ho
  by_cases hi : 0 ≤ i ∧ i < k
  · rw [if_pos hi] at ho
    cases ho
    exact ⟨_, _, rfl, K hi⟩
  · rw [if_neg hi] at ho
    cases ho
theorem zH_lald {n' r k t : Nat} {x : zX} {i : Int} (hm : zP μ = (code, mL, B)) (he : zat code pc = some (pc, .laload, n', x)) (hr : (zSH n)[r]? = some (.inl (t, k))) (ht : t = 1 ∨ t = 1) (K : 0 ≤ i ∧ i < k → zH n ct μ (n', L, .inr (.inl (M r i.toNat)) :: st) M Q) : zH n ct μ (pc, L, .inl i :: .inr (.inr (some r)) :: st) M Q := by
  refine zH_gen hm he (fun o ho => ?_)
  have ho : zar 1 1 n' L (.inl i :: .inr (.inr (some r)) :: st) (zSH n, M, ct.1, ct.2) = some o := ho
  simp only [zar, hr] at ho
  rw [if_pos ht] at ho
  by_cases hi : 0 ≤ i ∧ i < k
  · rw [if_pos hi] at ho
    cases ho
    exact ⟨_, _, rfl, K hi⟩
  · rw [if_neg hi] at ho
    cases ho
theorem zH_bald {n' r k t : Nat} {x : zX} {i : Int} (hm : zP μ = (code, mL, B)) (he : zat code pc = some (pc, .baload, n', x)) (hr : (zSH n)[r]? = some (.inl (t, k))) (ht : t = 2 ∨ t = 14) (K : 0 ≤ i ∧ i < k → zH n ct μ (n', L, .inl (M r i.toNat) :: st) M Q) : zH n ct μ (pc, L, .inl i :: .inr (.inr (some r)) :: st) M Q := by
  refine zH_gen hm he (fun o ho => ?_)
  have ho : zar 2 14 n' L (.inl i :: .inr (.inr (some r)) :: st) (zSH n, M, ct.1, ct.2) = some o := ho
  simp only [zar, hr] at ho
  rw [if_pos ht] at ho
  by_cases hi : 0 ≤ i ∧ i < k
  · rw [if_pos hi] at ho
    cases ho
    exact ⟨_, _, rfl, K hi⟩
  · rw [if_neg hi] at ho
    cases ho
theorem zH_iast {n' r k : Nat} {x9 : zX} {i x : Int} (hm : zP μ = (code, mL, B)) (he : zat code pc = some (pc, .iastore, n', x9)) (hr : (zSH n)[r]? = some (.inl (0, k))) (K : 0 ≤ i ∧ i < k → zH n ct μ (n', L, st) (zput M r i.toNat x) Q) : zH n ct μ (pc, L, .inl x :: .inl i :: .inr (.inr (some r)) :: st) M Q := by
  refine zH_gen hm he (fun o ho => ?_)
  have ho : zas 0 n' L (.inl x :: .inl i :: .inr (.inr (some r)) :: st) (zSH n, M, ct.1, ct.2) = some o := ho
  simp only [zas, hr] at ho
  rw [if_pos trivial] at ho
  by_cases hi : 0 ≤ i ∧ i < k
  · rw [if_pos hi] at ho
    cases ho
    exact ⟨_, _, rfl, K hi⟩
  · rw [if_neg hi] at ho
    cases ho
theorem zH_last {n' r k : Nat} {x9 : zX} {i x : Int} (hm : zP μ = (code, mL, B)) (he : zat code pc = some (pc, .lastore, n', x9)) (hr : (zSH n)[r]? = some (.inl (1, k))) (K : 0 ≤ i ∧ i < k → zH n ct μ (n', L, st) (zput M r i.toNat x) Q) : zH n ct μ (pc, L, .inr (.inl x) :: .inl i :: .inr (.inr (some r)) :: st) M Q := by
  refine zH_gen hm he (fun o ho => ?_)
  have ho : zas 1 n' L (.inr (.inl x) :: .inl i :: .inr (.inr (some r)) :: st) (zSH n, M, ct.1, ct.2) = some o := ho
  simp only [zas, hr] at ho
  rw [if_pos trivial] at ho
  by_cases hi : 0 ≤ i ∧ i < k
  · rw [if_pos hi] at ho
    cases ho
    exact ⟨_, _, rfl, K hi⟩
  · rw [if_neg hi] at ho
    cases ho
theorem zH_bast {n' r k : Nat} {x9 : zX} {i x : Int} (hm : zP μ = (code, mL, B)) (he : zat code pc = some (pc, .bastore, n', x9)) (hr : (zSH n)[r]? = some (.inl (2, k))) (K : 0 ≤ i ∧ i < k → zH n ct μ (n', L, st) (zput M r i.toNat x) Q) : zH n ct μ (pc, L, .inl x :: .inl i :: .inr (.inr (some r)) :: st) M Q := by
  refine zH_gen hm he (fun o ho => ?_)
  have ho : zas 2 n' L (.inl x :: .inl i :: .inr (.inr (some r)) :: st) (zSH n, M, ct.1, ct.2) = some o := ho
  simp only [zas, hr] at ho
  rw [if_pos trivial] at ho
  by_cases hi : 0 ≤ i ∧ i < k
  · rw [if_pos hi] at ho
    split at ho
    · cases ho
      exact ⟨_, _, rfl, K hi⟩
    · cases ho
  · rw [if_neg hi] at ho
    cases ho
theorem zH_putz {n' r ci k idx : Nat} {x : Int} {z : Int} {ts : List Nat} {fts : List zFT} (hm : zP μ = (code, mL, B)) (he : zat code pc = some (pc, .putfield idx, n', (ci, k, z, ts))) (h8 : 8 ≤ r) (hr : (zSH n)[r]? = some (.inr (ci, fts))) (hf : fts[k]? = some (.inr 2)) (K : zH n ct μ (n', L, st) (zput M r k x) Q) : zH n ct μ (pc, L, .inl x :: .inr (.inr (some r)) :: st) M Q := by
  refine zH_gen hm he (fun o ho => ?_)
  have ho : zpf ci k n' L (.inl x :: .inr (.inr (some r)) :: st) (zSH n, M, ct.1, ct.2) = some o := ho
  simp only [zpf, hr] at ho
  rw [if_neg (by omega), if_pos trivial] at ho
  simp only [hf] at ho
  split at ho
  · cases ho
    exact ⟨_, _, rfl, K⟩
  · cases ho
theorem zH_idiv {n' : Nat} {x9 : zX} {x y : Int} (hm : zP μ = (code, mL, B)) (he : zat code pc = some (pc, .idiv, n', x9)) (K : ¬ y = 0 → zH n ct μ (n', L, .inl (w32 (x.tdiv y)) :: st) M Q) : zH n ct μ (pc, L, .inl y :: .inl x :: st) M Q := by
  refine zH_gen hm he (fun o ho => ?_)
  have ho : zi2d (fun a b => w32 (a.tdiv b)) n' L (.inl y :: .inl x :: st) (zSH n, M, ct.1, ct.2) = some o := ho
  simp only [zi2d] at ho
  by_cases hy : y = 0
  · rw [if_pos hy] at ho; cases ho
  · rw [if_neg hy] at ho; cases ho; exact ⟨_, _, rfl, K hy⟩
theorem zH_irem {n' : Nat} {x9 : zX} {x y : Int} (hm : zP μ = (code, mL, B)) (he : zat code pc = some (pc, .irem, n', x9)) (K : ¬ y = 0 → zH n ct μ (n', L, .inl (x.tmod y) :: st) M Q) : zH n ct μ (pc, L, .inl y :: .inl x :: st) M Q := by
  refine zH_gen hm he (fun o ho => ?_)
  have ho : zi2d (fun a b => a.tmod b) n' L (.inl y :: .inl x :: st) (zSH n, M, ct.1, ct.2) = some o := ho
  simp only [zi2d] at ho
  by_cases hy : y = 0
  · rw [if_pos hy] at ho; cases ho
  · rw [if_neg hy] at ho; cases ho; exact ⟨_, _, rfl, K hy⟩
theorem zH_copy {n' r q kr kq idx : Nat} {z : Int} {ts : List Nat} {k e s : Int} {b : Nat} (hm : zP μ = (code, mL, B)) (he : zat code pc = some (pc, .invokestatic idx, n', (9000, b, z, ts))) (hr : (zSH n)[r]? = some (.inl (0, kr))) (hq : (zSH n)[q]? = some (.inl (0, kq))) (K : (0 ≤ k ∧ 0 ≤ e ∧ 0 ≤ s ∧ s + k ≤ kr ∧ e + k ≤ kq) → zH n ct μ (n', L, st) (zcopy M r q s.toNat e.toNat k.toNat) Q) : zH n ct μ (pc, L, .inl k :: .inl e :: .inr (.inr (some q)) :: .inl s :: .inr (.inr (some r)) :: st) M Q := by
  refine zH_gen hm he (fun o ho => ?_)
  have ho : zint 9000 n' L (.inl k :: .inl e :: .inr (.inr (some q)) :: .inl s :: .inr (.inr (some r)) :: st) (zSH n, M, ct.1, ct.2) = some o := ho
  simp only [zint, hr, hq] at ho
  split at ho
  · rename_i h5
    cases ho
    exact ⟨_, _, rfl, K h5.2⟩
  · cases ho
end ZH
