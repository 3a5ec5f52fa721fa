theorem qMI.tl {M : zM} (h : qMI M) : ∀ t : Nat, t < 8 → 0 ≤ M 98 (3350 + 81 * t) ∧ M 98 (3350 + 81 * t) ≤ 80 := fun t ht => by
  have q := h.txt (t : Int) (3350 + 81 * t) (by omega) rfl
  rw [show ((3350 : Int) + 81 * (t : Int)).toNat = 3350 + 81 * t by omega] at q
  exact q
theorem hm_165_0 {M : zM} {f : Nat → Int} (hC : qCI M) (h : hHs M 9 f) : (hf_165_8_L0 M).1 = 1 ∧ hHs (hf_165_8_L0 M).2 26 f ∧ (hf_165_8_L0 M).2 8 3 = zbor (M 8 3) (zbshl 1 0) ∧ ∀ i, (i < 26 ∨ 43 ≤ i) → i ≠ 8 → (hf_165_8_L0 M).2 i = M i := by
  obtain ⟨q1, ⟨u0, u1, u2, u3, u4, u5, u6, u7⟩, ⟨c0, c1, c2, c3, c4, c5, c6, c7⟩, d7, d8⟩ := hto_26_9 (M := M) ⟨(hC.rows 27 14 4 (by decide)).1, by have := (hC.rows 10 14 4 (by decide)).2.2.2; exact this⟩ ⟨(hC.rows 29 20 3 (by decide)).1, by have := (hC.rows 12 20 3 (by decide)).2.2.2; exact this⟩ ⟨(hC.rows 31 4 2 (by decide)).1, by have := (hC.rows 14 4 2 (by decide)).2.2.2; exact this⟩ ⟨(hC.rows 33 40 5 (by decide)).1, by have := (hC.rows 16 40 5 (by decide)).2.2.2; exact this⟩ ⟨(hC.rows 35 250 11 (by decide)).1, by have := (hC.rows 18 250 11 (by decide)).2.2.2; exact this⟩ ⟨(hC.rows 37 8 81 (by decide)).1, by have := (hC.rows 20 8 81 (by decide)).2.2.2; exact this⟩ ⟨(hC.rows 39 10 164 (by decide)).1, by have := (hC.rows 22 10 164 (by decide)).2.2.2; exact this⟩ ⟨(hC.rows 41 12 2 (by decide)).1, by have := (hC.rows 24 12 2 (by decide)).2.2.2; exact this⟩
  have e : hf_165_8_L0 M = (1, zput (hf_26_26_9 M) 8 3 (zbor (M 8 3) (zbshl 1 0))) := by
    unfold hf_165_8_L0
    rw [if_pos (by rw [hq_169]; omega), q1 8 (by omega)]
  rw [e]; dsimp only
  refine ⟨rfl, ?_, qput_eq, fun i hi h8 => (zput_oth h8).trans (q1 i hi)⟩
  refine h.cp (b' := 26) u0 u1 u2 u3 u4 u7 c0 c1 c2 c3 c4 c5 c7 d7 d8 (fun _ _ => rfl)
theorem hm_166_0 {M : zM} {f : Nat → Int} (hC : qCI M) (h : hHs M 26 f) (hk : ¬ zband (zbshr (M 8 3) 0) 1 = 0) : (hf_166_8_L0 M).1 = 1 ∧ hHs (hf_166_8_L0 M).2 9 f ∧ ∀ i, (i < 9 ∨ 26 ≤ i) → (hf_166_8_L0 M).2 i = M i := by
  obtain ⟨q1, ⟨u0, u1, u2, u3, u4, u5, u6, u7⟩, ⟨c0, c1, c2, c3, c4, c5, c6, c7⟩, d7, d8⟩ := hto_9_26 (M := M) ⟨(hC.rows 10 14 4 (by decide)).1, by have := (hC.rows 27 14 4 (by decide)).2.2.2; exact this⟩ ⟨(hC.rows 12 20 3 (by decide)).1, by have := (hC.rows 29 20 3 (by decide)).2.2.2; exact this⟩ ⟨(hC.rows 14 4 2 (by decide)).1, by have := (hC.rows 31 4 2 (by decide)).2.2.2; exact this⟩ ⟨(hC.rows 16 40 5 (by decide)).1, by have := (hC.rows 33 40 5 (by decide)).2.2.2; exact this⟩ ⟨(hC.rows 18 250 11 (by decide)).1, by have := (hC.rows 35 250 11 (by decide)).2.2.2; exact this⟩ ⟨(hC.rows 20 8 81 (by decide)).1, by have := (hC.rows 37 8 81 (by decide)).2.2.2; exact this⟩ ⟨(hC.rows 22 10 164 (by decide)).1, by have := (hC.rows 39 10 164 (by decide)).2.2.2; exact this⟩ ⟨(hC.rows 24 12 2 (by decide)).1, by have := (hC.rows 41 12 2 (by decide)).2.2.2; exact this⟩
  have e : hf_166_8_L0 M = (1, hf_26_9_26 M) := by
    unfold hf_166_8_L0
    simp only [hq_169]
    (repeat' split) <;> first | omega | rfl
  rw [e]; dsimp only
  exact ⟨rfl, h.cp (b' := 9) u0 u1 u2 u3 u4 u7 c0 c1 c2 c3 c4 c5 c7 d7 d8 (fun _ _ => rfl), q1⟩
theorem hm_165_1 {M : zM} {f : Nat → Int} (hC : qCI M) (h : hHs M 9 f) : (hf_165_8_L1 M).1 = 1 ∧ hHs (hf_165_8_L1 M).2 43 f ∧ (hf_165_8_L1 M).2 8 3 = zbor (M 8 3) (zbshl 1 1) ∧ ∀ i, (i < 43 ∨ 60 ≤ i) → i ≠ 8 → (hf_165_8_L1 M).2 i = M i := by
  obtain ⟨q1, ⟨u0, u1, u2, u3, u4, u5, u6, u7⟩, ⟨c0, c1, c2, c3, c4, c5, c6, c7⟩, d7, d8⟩ := hto_43_9 (M := M) ⟨(hC.rows 44 14 4 (by decide)).1, by have := (hC.rows 10 14 4 (by decide)).2.2.2; exact this⟩ ⟨(hC.rows 46 20 3 (by decide)).1, by have := (hC.rows 12 20 3 (by decide)).2.2.2; exact this⟩ ⟨(hC.rows 48 4 2 (by decide)).1, by have := (hC.rows 14 4 2 (by decide)).2.2.2; exact this⟩ ⟨(hC.rows 50 40 5 (by decide)).1, by have := (hC.rows 16 40 5 (by decide)).2.2.2; exact this⟩ ⟨(hC.rows 52 250 11 (by decide)).1, by have := (hC.rows 18 250 11 (by decide)).2.2.2; exact this⟩ ⟨(hC.rows 54 8 81 (by decide)).1, by have := (hC.rows 20 8 81 (by decide)).2.2.2; exact this⟩ ⟨(hC.rows 56 10 164 (by decide)).1, by have := (hC.rows 22 10 164 (by decide)).2.2.2; exact this⟩ ⟨(hC.rows 58 12 2 (by decide)).1, by have := (hC.rows 24 12 2 (by decide)).2.2.2; exact this⟩
  have e : hf_165_8_L1 M = (1, zput (hf_26_43_9 M) 8 3 (zbor (M 8 3) (zbshl 1 1))) := by
    unfold hf_165_8_L1
    rw [if_pos (by rw [hq_169]; omega), q1 8 (by omega)]
  rw [e]; dsimp only
  refine ⟨rfl, ?_, qput_eq, fun i hi h8 => (zput_oth h8).trans (q1 i hi)⟩
  refine h.cp (b' := 43) u0 u1 u2 u3 u4 u7 c0 c1 c2 c3 c4 c5 c7 d7 d8 (fun _ _ => rfl)
theorem hm_166_1 {M : zM} {f : Nat → Int} (hC : qCI M) (h : hHs M 43 f) (hk : ¬ zband (zbshr (M 8 3) 1) 1 = 0) : (hf_166_8_L1 M).1 = 1 ∧ hHs (hf_166_8_L1 M).2 9 f ∧ ∀ i, (i < 9 ∨ 26 ≤ i) → (hf_166_8_L1 M).2 i = M i := by
  obtain ⟨q1, ⟨u0, u1, u2, u3, u4, u5, u6, u7⟩, ⟨c0, c1, c2, c3, c4, c5, c6, c7⟩, d7, d8⟩ := hto_9_43 (M := M) ⟨(hC.rows 10 14 4 (by decide)).1, by have := (hC.rows 44 14 4 (by decide)).2.2.2; exact this⟩ ⟨(hC.rows 12 20 3 (by decide)).1, by have := (hC.rows 46 20 3 (by decide)).2.2.2; exact this⟩ ⟨(hC.rows 14 4 2 (by decide)).1, by have := (hC.rows 48 4 2 (by decide)).2.2.2; exact this⟩ ⟨(hC.rows 16 40 5 (by decide)).1, by have := (hC.rows 50 40 5 (by decide)).2.2.2; exact this⟩ ⟨(hC.rows 18 250 11 (by decide)).1, by have := (hC.rows 52 250 11 (by decide)).2.2.2; exact this⟩ ⟨(hC.rows 20 8 81 (by decide)).1, by have := (hC.rows 54 8 81 (by decide)).2.2.2; exact this⟩ ⟨(hC.rows 22 10 164 (by decide)).1, by have := (hC.rows 56 10 164 (by decide)).2.2.2; exact this⟩ ⟨(hC.rows 24 12 2 (by decide)).1, by have := (hC.rows 58 12 2 (by decide)).2.2.2; exact this⟩
  have e : hf_166_8_L1 M = (1, hf_26_9_43 M) := by
    unfold hf_166_8_L1
    simp only [hq_169]
    (repeat' split) <;> first | omega | rfl
  rw [e]; dsimp only
  exact ⟨rfl, h.cp (b' := 9) u0 u1 u2 u3 u4 u7 c0 c1 c2 c3 c4 c5 c7 d7 d8 (fun _ _ => rfl), q1⟩
def zSeg (code seg : List zE) : Prop := ∀ pc e, zat seg pc = some e → zat code pc = some e
theorem zat_app : ∀ (l1 l2 : List zE) (pc : Nat), zat (l1 ++ l2) pc = (match zat l1 pc with | some e => some e | none => zat l2 pc) := by
  intro l1 l2 pc
  induction l1 with
  | nil => rfl
  | cons a l ih =>
    have e1 : ∀ l', zat (a :: l') pc = (match Nat.beq a.1 pc with | true => some a | false => zat l' pc) := fun _ => rfl
    rw [List.cons_append, e1, e1]
    cases Nat.beq a.1 pc with
    | true => rfl
    | false => exact ih
theorem zat_no {l : List zE} {pc p0 : Nat} (h : l.all (fun e => Nat.blt e.1 p0) = true) (hp : p0 ≤ pc) : zat l pc = none := by
  induction l with
  | nil => rfl
  | cons a l ih =>
    rw [List.all_cons, Bool.and_eq_true, Nat.blt_eq] at h
    unfold zat
    have hb : Nat.beq a.1 pc = false := by
      cases hq : Nat.beq a.1 pc with
      | false => rfl
      | true => have := Nat.eq_of_beq_eq_true hq; omega
    rw [hb]
    exact ih h.2
theorem zat_lo {l : List zE} {pc p0 : Nat} {e : zE} (h : l.all (fun e => Nat.ble p0 e.1) = true) (he : zat l pc = some e) : p0 ≤ pc := by
  induction l with
  | nil => cases he
  | cons a l ih =>
    rw [List.all_cons, Bool.and_eq_true, Nat.ble_eq] at h
    unfold zat at he
    cases hq : Nat.beq a.1 pc with
    | true => have := Nat.eq_of_beq_eq_true hq; omega
    | false => rw [hq] at he; exact ih h.2 he
theorem zSeg_of {code seg : List zE} (n m p0 : Nat) (h1 : (code.take n).all (fun e => Nat.blt e.1 p0) = true) (h2 : (code.drop n).take m = seg) (h3 : seg.all (fun e => Nat.ble p0 e.1) = true) : zSeg code seg := by
  intro pc e he
  have hp := zat_lo h3 he
  rw [← List.take_append_drop n code, zat_app, zat_no h1 hp]
  dsimp only
  rw [← List.take_append_drop m (code.drop n), h2, zat_app, he]
theorem zsteps_seg {code seg : List zE} {B : Nat × Nat} (hs : zSeg code seg) : ∀ {k : Nat} {c : zC} {w : zW} {q : zC × zW}, zsteps seg B k c w = some q → zsteps code B k c w = some q := by
  intro k
  induction k with
  | zero => intro c w q h; exact h
  | succ k ih =>
    intro c w q h
    unfold zsteps at h ⊢
    cases he : zat seg c.1 with
    | none => rw [he] at h; cases h
    | some e =>
      rw [hs _ _ he]
      rw [he] at h
      dsimp only at h ⊢
      cases hz : zst true B e c.2.1 c.2.2 w with
      | none => rw [hz] at h; cases h
      | some o =>
        rw [hz] at h
        rcases o with ⟨c', w'⟩ | o
        · exact ih h
        · cases h
