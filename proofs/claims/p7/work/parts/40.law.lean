/-! THE LAW (ID) -/
def hFree (r : Nat) : Bool := Nat.blt 59 r || (Nat.blt r 8 || (Nat.beq r 20 || (Nat.beq r 22 || (Nat.beq r 23 || (Nat.beq r 37 || (Nat.beq r 39 || (Nat.beq r 40 || (Nat.beq r 54 || (Nat.beq r 56 || Nat.beq r 57)))))))))
def hFre9 (r : Nat) : Bool := Nat.blt 59 r || (Nat.blt r 8 || (Nat.blt 8 r && Nat.blt r 26))
def qK (M : zM) : Prop := hHs M 9 (M 98) ∧ (M 100 0 ≠ 0 → hHs M 26 (fun j => M 99 j)) ∧ (M 100 1 ≠ 0 → hHs M 43 (fun j => M 99 (5664 + j))) ∧ (0 ≤ M 8 3 ∧ M 8 3 ≤ 3 ∧ M 8 3 = M 100 0 + 2 * M 100 1)
def qJ (M : zM) : Prop := qCI M ∧ qMI M ∧ qK M
theorem qMI.same {M M' : zM} (h : qMI M) (e : ∀ r k, 97 ≤ r → M' r k = M r k) : qMI M' := by
  refine ⟨?_, ?_, ?_, fun r k hr => by rw [e r k hr]; exact h.2.2.2.1 r k hr, ?_⟩
  · rw [show M' 98 = M 98 from funext fun j => e 98 j (by decide)]; exact h.1
  · rw [show M' 99 = M 99 from funext fun j => e 99 j (by decide)]; exact h.2.1
  · rw [show M' 99 = M 99 from funext fun j => e 99 j (by decide)]; exact h.2.2.1
  · have ht := h.2.2.2.2
    unfold qTS at ht ⊢
    rw [show M' 105 = M 105 from funext fun j => e 105 j (by decide), show M' 106 = M 106 from funext fun j => e 106 j (by decide), e 97 7 (by decide)]
    exact ht
theorem qCI.same {M M' : zM} (h : qCI M) (e : ∀ r k, r < 97 → M' r k = M r k) : qCI M' := by
  refine ⟨fun r l c hm => ?_, ?_, ?_, ?_, fun r k hr hl => by rw [e r k hr]; exact h.rng r k hr hl, ?_⟩
  · have hz := qRTL_rz _ hm
    rw [e r 0 hz.2.2.1, e r 1 hz.2.2.1, e r 3 hz.2.2.1]; exact h.rows r l c hm
  · rw [e 72 3 (by decide)]; exact h.rk
  · rw [e 72 5 (by decide)]; exact h.um
  · rw [e 87 5 (by decide)]; exact h.pp
  · rw [e 4 1 (by decide), e 6 1 (by decide)]; exact h.st
theorem qFr.hi {g : List Nat} {M M' : zM} (h : qFr g M M') (hg : g.all (fun x => Nat.blt x 97) = true) : ∀ r k, 97 ≤ r → M' r k = M r k := fun r k hr => h r k (fun hm => by
  have := List.all_eq_true.mp hg r hm
  rw [Nat.blt_eq] at this
  omega)
theorem qFm.lo {g : List Nat} {M M' : zM} (h : qFm g M M') (hg : g.all (fun x => Nat.ble 97 x) = true) : ∀ r k, r < 97 → M' r k = M r k := fun r k hr => h r k (fun hm => by
  have := List.all_eq_true.mp hg _ hm
  rw [Nat.ble_eq] at this
  simp only [qCd, if_neg (show r ≠ 97 by omega)] at this
  omega)
theorem qFr.fre {g : List Nat} {M M' : zM} (h : qFr g M M') (hg : g.all hFree = true) : ∀ r, (r = 8 ∨ (9 ≤ r ∧ r ≤ 59 ∧ r ≠ 20 ∧ r ≠ 22 ∧ r ≠ 23 ∧ r ≠ 37 ∧ r ≠ 39 ∧ r ≠ 40 ∧ r ≠ 54 ∧ r ≠ 56 ∧ r ≠ 57)) → M' r = M r := fun r hr => funext fun k => h r k (fun hm => by
  have := List.all_eq_true.mp hg r hm
  simp only [hFree, Bool.or_eq_true, Nat.blt_eq, Nat.beq_eq] at this
  omega)
theorem qFr.fr9 {g : List Nat} {M M' : zM} (h : qFr g M M') (hg : g.all hFre9 = true) : ∀ r, (r = 8 ∨ (26 ≤ r ∧ r ≤ 59)) → M' r = M r := fun r hr => funext fun k => h r k (fun hm => by
  have := List.all_eq_true.mp hg r hm
  simp only [hFre9, Bool.or_eq_true, Bool.and_eq_true, Nat.blt_eq, Nat.beq_eq] at this
  omega)
theorem qJ.cls {g : List Nat} {M M' : zM} (h : qJ M) (hc : qCI M') (hf : qFr g M M') (hg : g.all (fun x => Nat.blt x 97) = true) (hg2 : g.all hFree = true) : qJ M' := by
  have hi := hf.hi hg
  have e := hf.fre hg2
  obtain ⟨h1, h2, h3, h4⟩ := h.2.2
  refine ⟨hc, h.2.1.same hi, ?_, ?_, ?_, ?_⟩
  · exact h1.fr (fun r hr => e r (by omega)) (fun j _ _ _ _ => hi 98 j (by decide))
  · rw [hi 100 0 (by decide)]; exact fun hk => (h2 hk).fr (fun r hr => e r (by omega)) (fun j _ _ _ _ => hi 99 _ (by decide))
  · rw [hi 100 1 (by decide)]; exact fun hk => (h3 hk).fr (fun r hr => e r (by omega)) (fun j _ _ _ _ => hi 99 _ (by decide))
  · rw [hi 100 0 (by decide), hi 100 1 (by decide), e 8 (by omega)]; exact h4
theorem qJ.mdl {g : List Nat} {M M' : zM} (h : qJ M) (hm : qMI M') (hf : qFm g M M') (hg : g.all (fun x => Nat.ble 97 x) = true) (hg2 : 99 ∉ g ∧ 100 ∉ g) (h9 : ∀ j, j < 5664 → j ≠ 5 → ¬ (4000 ≤ j ∧ j < 5640) → ¬ (80 ≤ j ∧ j < 140 ∧ (j - 80) % 3 = 1) → M' 98 j = M 98 j) : qJ M' := by
  have lo := hf.lo hg
  have e : ∀ r, r < 97 → M' r = M r := fun r hr => funext fun k => lo r k hr
  have e99 : ∀ j, M' 99 j = M 99 j := fun j => hf.ar 99 j (by decide) hg2.1
  obtain ⟨h1, h2, h3, h4⟩ := h.2.2
  refine ⟨h.1.same lo, hm, ?_, ?_, ?_, ?_⟩
  · exact h1.fr (fun r hr => e r (by omega)) h9
  · rw [hf.ar 100 0 (by decide) hg2.2]; exact fun hk => (h2 hk).fr (fun r hr => e r (by omega)) (fun j _ _ _ _ => e99 _)
  · rw [hf.ar 100 1 (by decide) hg2.2]; exact fun hk => (h3 hk).fr (fun r hr => e r (by omega)) (fun j _ _ _ _ => e99 _)
  · rw [hf.ar 100 0 (by decide) hg2.2, hf.ar 100 1 (by decide) hg2.2, lo 8 3 (by decide)]; exact h4
theorem qJ.mut {g g2 : List Nat} {M M1 M2 : zM} (h : qJ M) (hc : qCI M1) (hf : qFr g M M1) (hg : g.all (fun x => Nat.blt x 97) = true) (hg3 : g.all hFre9 = true) (hm : qMI M2) (hf2 : qFm g2 M1 M2) (hg4 : g2.all (fun x => Nat.ble 97 x) = true) (hg2 : 99 ∉ g2 ∧ 100 ∉ g2) (hh : hHs M2 9 (M2 98)) : qJ M2 := by
  have hi := hf.hi hg
  have lo := hf2.lo hg4
  have e : ∀ r, (r = 8 ∨ (26 ≤ r ∧ r ≤ 59)) → M2 r = M r := fun r hr => (funext fun k => lo r k (by omega)).trans (hf.fr9 hg3 r hr)
  have e99 : ∀ j, M2 99 j = M 99 j := fun j => (hf2.ar 99 j (by decide) hg2.1).trans (hi 99 j (by decide))
  have e0 : ∀ j, M2 100 j = M 100 j := fun j => (hf2.ar 100 j (by decide) hg2.2).trans (hi 100 j (by decide))
  obtain ⟨h1, h2, h3, h4⟩ := h.2.2
  refine ⟨hc.same lo, hm, hh, ?_, ?_, ?_⟩
  · rw [e0]; exact fun hk => (h2 hk).fr (fun r hr => e r (by omega)) (fun j _ _ _ _ => e99 _)
  · rw [e0]; exact fun hk => (h3 hk).fr (fun r hr => e r (by omega)) (fun j _ _ _ _ => e99 _)
  · rw [e0, e0, e 8 (by omega)]; exact h4
theorem qCI.tb {M : zM} (h : qCI M) : hTb M := by
  have t := fun r l c hm => h.rows r l c hm
  exact ⟨⟨(t 10 14 4 (by decide)).1, (t 10 14 4 (by decide)).2.1⟩, ⟨(t 12 20 3 (by decide)).1, (t 12 20 3 (by decide)).2.1⟩, ⟨(t 14 4 2 (by decide)).1, (t 14 4 2 (by decide)).2.1⟩, ⟨(t 16 40 5 (by decide)).1, (t 16 40 5 (by decide)).2.1⟩, ⟨(t 18 250 11 (by decide)).1, (t 18 250 11 (by decide)).2.1⟩, ⟨(t 20 8 81 (by decide)).1, (t 20 8 81 (by decide)).2.1⟩, ⟨(t 22 10 164 (by decide)).1, (t 22 10 164 (by decide)).2.1⟩, ⟨(t 24 12 2 (by decide)).1, (t 24 12 2 (by decide)).2.1⟩⟩
theorem qMI.bd {M : zM} (h : qMI M) : hBd M := ⟨h.cnt0, h.cnt1, h.cnt2, h.cnt3, h.cnt4, h.cnt5, h.cnt6⟩
theorem qMI.tl {M : zM} (h : qMI M) : ∀ t : Nat, t < 8 → 0 ≤ M 98 (3350 + 81 * t) ∧ M 98 (3350 + 81 * t) ≤ 80 := fun t ht => by
  have q := h.txt (t : Int) (3350 + 81 * t) (by omega) rfl
  rw [show ((3350 : Int) + 81 * (t : Int)).toNat = 3350 + 81 * t by omega] at q
  exact q
theorem hm_165_0 {M : zM} {f : Nat → Int} (hC : qCI M) (h : hHs M 9 f) : (hf_165_8_L0 M).1 = 1 ∧ hHs (hf_165_8_L0 M).2 26 f ∧ (hf_165_8_L0 M).2 8 3 = zbor (M 8 3) (zbshl 1 0) ∧ ∀ i, (i < 26 ∨ 43 ≤ i) → i ≠ 8 → (hf_165_8_L0 M).2 i = M i := by
  obtain ⟨q1, ⟨u0, u1, u2, u3, u4, u5, u6, u7⟩, ⟨c0, c1, c2, c3, c4, c5, c6, c7⟩, d7, d8⟩ := hto_26_9 (M := M) ⟨(hC.rows 27 14 4 (by decide)).1, by have := (hC.rows 10 14 4 (by decide)).2.2.2; exact this⟩ ⟨(hC.rows 29 20 3 (by decide)).1, by have := (hC.rows 12 20 3 (by decide)).2.2.2; exact this⟩ ⟨(hC.rows 31 4 2 (by decide)).1, by have := (hC.rows 14 4 2 (by decide)).2.2.2; exact this⟩ ⟨(hC.rows 33 40 5 (by decide)).1, by have := (hC.rows 16 40 5 (by decide)).2.2.2; exact this⟩ ⟨(hC.rows 35 250 11 (by decide)).1, by have := (hC.rows 18 250 11 (by decide)).2.2.2; exact this⟩ ⟨(hC.rows 37 8 81 (by decide)).1, by have := (hC.rows 20 8 81 (by decide)).2.2.2; exact this⟩ ⟨(hC.rows 39 10 164 (by decide)).1, by have := (hC.rows 22 10 164 (by decide)).2.2.2; exact this⟩ ⟨(hC.rows 41 12 2 (by decide)).1, by have := (hC.rows 24 12 2 (by decide)).2.2.2; exact this⟩
  have e : hf_165_8_L0 M = (1, zput (hf_26_26_9 M) 8 3 (zbor (M 8 3) (zbshl 1 0))) := by
    unfold hf_165_8_L0
    rw [if_pos (by rw [hq_169]; omega), q1 8 (by omega)]
  rw [e]; dsimp only
  refine ⟨rfl, ?_, qput_eq, fun i hi h8 => (zput_oth h8).trans (q1 i hi)⟩
  refine h.cp (b' := 26) u0 u1 u2 u3 u4 u7 c0 c1 c2 c3 c4 c5 c7 d7 d8 (fun _ _ => rfl)
theorem hm_166_0 {M : zM} {f : Nat → Int} (hC : qCI M) (h : hHs M 26 f) (hk : ¬ zband (zbshr (M 8 3) 0) 1 = 0) : (hf_166_8_L0 M).1 = 1 ∧ hHs (hf_166_8_L0 M).2 9 f ∧ ∀ i, (i < 9 ∨ 26 ≤ i) → (hf_166_8_L0 M).2 i = M i := by
  obtain ⟨q1, ⟨u0, u1, u2, u3, u4, u5, u6, u7⟩, ⟨c0, c1, c2, c3, c4, c5, c6, c7⟩, d7, d8⟩ := hto_9_26 (M := M) ⟨(hC.rows 10 14 4 (by decide)).1, by have := (hC.rows 27 14 4 (by decide)).2.2.2; exact this⟩ ⟨(hC.rows 12 20 3 (by decide)).1, by have := (hC.rows 29 20 3 (by decide)).2.2.2; exact this⟩ ⟨(hC.rows 14 4 2 (by decide)).1, by have := (hC.rows 31 4 2 (by decide)).2.2.2; exact this⟩ ⟨(hC.rows 16 40 5 (by decide)).1, by have := (hC.rows 33 40 5 (by decide)).2.2.2; exact this⟩ ⟨(hC.rows 18 250 11 (by decide)).1, by have := (hC.rows 35 250 11 (by decide)).2.2.2; exact this⟩ ⟨(hC.rows 20 8 81 (by decide)).1, by have := (hC.rows 37 8 81 (by decide)).2.2.2; exact this⟩ ⟨(hC.rows 22 10 164 (by decide)).1, by have := (hC.rows 39 10 164 (by decide)).2.2.2; exact this⟩ ⟨(hC.rows 24 12 2 (by decide)).1, by have := (hC.rows 41 12 2 (by decide)).2.2.2; exact this⟩
  have e : hf_166_8_L0 M = (1, hf_26_9_26 M) := by
    unfold hf_166_8_L0
    simp only [hq_169]
    (repeat' split) <;> first | omega | rfl
  rw [e]; dsimp only
  exact ⟨rfl, h.cp (b' := 9) u0 u1 u2 u3 u4 u7 c0 c1 c2 c3 c4 c5 c7 d7 d8 (fun _ _ => rfl), q1⟩
theorem hm_165_1 {M : zM} {f : Nat → Int} (hC : qCI M) (h : hHs M 9 f) : (hf_165_8_L1 M).1 = 1 ∧ hHs (hf_165_8_L1 M).2 43 f ∧ (hf_165_8_L1 M).2 8 3 = zbor (M 8 3) (zbshl 1 1) ∧ ∀ i, (i < 43 ∨ 60 ≤ i) → i ≠ 8 → (hf_165_8_L1 M).2 i = M i := by
  obtain ⟨q1, ⟨u0, u1, u2, u3, u4, u5, u6, u7⟩, ⟨c0, c1, c2, c3, c4, c5, c6, c7⟩, d7, d8⟩ := hto_43_9 (M := M) ⟨(hC.rows 44 14 4 (by decide)).1, by have := (hC.rows 10 14 4 (by decide)).2.2.2; exact this⟩ ⟨(hC.rows 46 20 3 (by decide)).1, by have := (hC.rows 12 20 3 (by decide)).2.2.2; exact this⟩ ⟨(hC.rows 48 4 2 (by decide)).1, by have := (hC.rows 14 4 2 (by decide)).2.2.2; exact this⟩ ⟨(hC.rows 50 40 5 (by decide)).1, by have := (hC.rows 16 40 5 (by decide)).2.2.2; exact this⟩ ⟨(hC.rows 52 250 11 (by decide)).1, by have := (hC.rows 18 250 11 (by decide)).2.2.2; exact this⟩ ⟨(hC.rows 54 8 81 (by decide)).1, by have := (hC.rows 20 8 81 (by decide)).2.2.2; exact this⟩ ⟨(hC.rows 56 10 164 (by decide)).1, by have := (hC.rows 22 10 164 (by decide)).2.2.2; exact this⟩ ⟨(hC.rows 58 12 2 (by decide)).1, by have := (hC.rows 24 12 2 (by decide)).2.2.2; exact this⟩
  have e : hf_165_8_L1 M = (1, zput (hf_26_43_9 M) 8 3 (zbor (M 8 3) (zbshl 1 1))) := by
    unfold hf_165_8_L1
    rw [if_pos (by rw [hq_169]; omega), q1 8 (by omega)]
  rw [e]; dsimp only
  refine ⟨rfl, ?_, qput_eq, fun i hi h8 => (zput_oth h8).trans (q1 i hi)⟩
  refine h.cp (b' := 43) u0 u1 u2 u3 u4 u7 c0 c1 c2 c3 c4 c5 c7 d7 d8 (fun _ _ => rfl)
theorem hm_166_1 {M : zM} {f : Nat → Int} (hC : qCI M) (h : hHs M 43 f) (hk : ¬ zband (zbshr (M 8 3) 1) 1 = 0) : (hf_166_8_L1 M).1 = 1 ∧ hHs (hf_166_8_L1 M).2 9 f ∧ ∀ i, (i < 9 ∨ 26 ≤ i) → (hf_166_8_L1 M).2 i = M i := by
  obtain ⟨q1, ⟨u0, u1, u2, u3, u4, u5, u6, u7⟩, ⟨c0, c1, c2, c3, c4, c5, c6, c7⟩, d7, d8⟩ := hto_9_43 (M := M) ⟨(hC.rows 10 14 4 (by decide)).1, by have := (hC.rows 44 14 4 (by decide)).2.2.2; exact this⟩ ⟨(hC.rows 12 20 3 (by decide)).1, by have := (hC.rows 46 20 3 (by decide)).2.2.2; exact this⟩ ⟨(hC.rows 14 4 2 (by decide)).1, by have := (hC.rows 48 4 2 (by decide)).2.2.2; exact this⟩ ⟨(hC.rows 16 40 5 (by decide)).1, by have := (hC.rows 50 40 5 (by decide)).2.2.2; exact this⟩ ⟨(hC.rows 18 250 11 (by decide)).1, by have := (hC.rows 52 250 11 (by decide)).2.2.2; exact this⟩ ⟨(hC.rows 20 8 81 (by decide)).1, by have := (hC.rows 54 8 81 (by decide)).2.2.2; exact this⟩ ⟨(hC.rows 22 10 164 (by decide)).1, by have := (hC.rows 56 10 164 (by decide)).2.2.2; exact this⟩ ⟨(hC.rows 24 12 2 (by decide)).1, by have := (hC.rows 58 12 2 (by decide)).2.2.2; exact this⟩
  have e : hf_166_8_L1 M = (1, hf_26_9_43 M) := by
    unfold hf_166_8_L1
    simp only [hq_169]
    (repeat' split) <;> first | omega | rfl
  rw [e]; dsimp only
  exact ⟨rfl, h.cp (b' := 9) u0 u1 u2 u3 u4 u7 c0 c1 c2 c3 c4 c5 c7 d7 d8 (fun _ _ => rfl), q1⟩
def zSeg (code seg : List zE) : Prop := ∀ pc e, zat seg pc = some e → zat code pc = some e
theorem zat_app : ∀ (l1 l2 : List zE) (pc : Nat), zat (l1 ++ l2) pc = (match zat l1 pc with | some e => some e | none => zat l2 pc) := by
  intro l1 l2 pc
  induction l1 with
  | nil => rfl
  | cons a l ih =>
    have e1 : ∀ l', zat (a :: l') pc = (match Nat.beq a.1 pc with | true => some a | false => zat l' pc) := fun _ => rfl
    rw [List.cons_append, e1, e1]
    cases Nat.beq a.1 pc with
    | true => rfl
    | false => exact ih
theorem zat_no {l : List zE} {pc p0 : Nat} (h : l.all (fun e => Nat.blt e.1 p0) = true) (hp : p0 ≤ pc) : zat l pc = none := by
  induction l with
  | nil => rfl
  | cons a l ih =>
    rw [List.all_cons, Bool.and_eq_true, Nat.blt_eq] at h
    unfold zat
    have hb : Nat.beq a.1 pc = false := by
      cases hq : Nat.beq a.1 pc with
      | false => rfl
      | true => have := Nat.eq_of_beq_eq_true hq; omega
    rw [hb]
    exact ih h.2
theorem zat_lo {l : List zE} {pc p0 : Nat} {e : zE} (h : l.all (fun e => Nat.ble p0 e.1) = true) (he : zat l pc = some e) : p0 ≤ pc := by
  induction l with
  | nil => cases he
  | cons a l ih =>
    rw [List.all_cons, Bool.and_eq_true, Nat.ble_eq] at h
    unfold zat at he
    cases hq : Nat.beq a.1 pc with
    | true => have := Nat.eq_of_beq_eq_true hq; omega
    | false => rw [hq] at he; exact ih h.2 he
theorem zSeg_of {code seg : List zE} (n m p0 : Nat) (h1 : (code.take n).all (fun e => Nat.blt e.1 p0) = true) (h2 : (code.drop n).take m = seg) (h3 : seg.all (fun e => Nat.ble p0 e.1) = true) : zSeg code seg := by
  intro pc e he
  have hp := zat_lo h3 he
  rw [← List.take_append_drop n code, zat_app, zat_no h1 hp]
  dsimp only
  rw [← List.take_append_drop m (code.drop n), h2, zat_app, he]
theorem zsteps_seg {code seg : List zE} {B : Nat × Nat} (hs : zSeg code seg) : ∀ {k : Nat} {c : zC} {w : zW} {q : zC × zW}, zsteps seg B k c w = some q → zsteps code B k c w = some q := by
  intro k
  induction k with
  | zero => intro c w q h; exact h
  | succ k ih =>
    intro c w q h
    unfold zsteps at h ⊢
    cases he : zat seg c.1 with
    | none => rw [he] at h; cases h
    | some e =>
      rw [hs _ _ he]
      rw [he] at h
      dsimp only at h ⊢
      cases hz : zst true B e c.2.1 c.2.2 w with
      | none => rw [hz] at h; cases h
      | some o =>
        rw [hz] at h
        rcases o with ⟨c', w'⟩ | o
        · exact ih h
        · cases h
section LW
variable {n : Nat} {M : zM} {i : Int}
abbrev qLQ : Option zV → zM → Prop := fun v _ => v = some (.inl 1)
noncomputable def sg_0 : List zE := [(232, zi_28, 233, zx0),
  (233, zi_0, 234, zx0),
  (234, zi_1, 235, zx0),
  (235, zi_2, 236, zx0),
  (236, zi_4, 237, zx0),
  (237, zi_8, 238, zx0),
  (238, zi_0, 239, zx0),
  (239, zi_1, 240, zx0),
  (240, zi_11, 241, zx0),
  (241, zi_4, 242, zx0),
  (242, zi_8, 243, zx0),
  (243, zi_0, 244, zx0),
  (244, zi_1, 245, zx0),
  (245, zi_13, 246, zx0),
  (246, zi_4, 247, zx0),
  (247, zi_8, 248, zx0),
  (248, zi_0, 249, zx0),
  (249, zi_1, 250, zx0),
  (250, zi_17, 251, zx0),
  (251, zi_4, 252, zx0),
  (252, zi_8, 253, zx0),
  (253, .invokevirtual 13, 256, (123, 5, 0, [11])),
  (256, zi_21, 257, zx0),
  (257, zi_39, 258, zx0),
  (258, zi_0, 259, zx0),
  (259, zi_1, 260, zx0),
  (260, zi_2, 261, zx0),
  (261, zi_4, 262, zx0),
  (262, zi_8, 263, zx0),
  (263, zi_0, 264, zx0),
  (264, zi_1, 265, zx0),
  (265, zi_11, 266, zx0),
  (266, zi_4, 267, zx0),
  (267, zi_8, 268, zx0),
  (268, zi_0, 269, zx0),
  (269, zi_1, 270, zx0),
  (270, zi_13, 271, zx0),
  (271, zi_4, 272, zx0),
  (272, zi_8, 273, zx0),
  (273, zi_0, 274, zx0),
  (274, zi_1, 275, zx0),
  (275, zi_17, 276, zx0),
  (276, zi_4, 277, zx0),
  (277, zi_8, 278, zx0),
  (278, .invokevirtual 17, 281, (187, 5, 0, [12])),
  (281, zi_21, 282, zx0),
  (282, .goto (1876), 285, zx_8)]
set_option maxRecDepth 100000 in
theorem sh_0 : zSeg zk_L_law sg_0 := zSeg_of 22 47 232 (by decide +kernel) rfl (by decide +kernel)
set_option maxRecDepth 100000 in
theorem qL_0 (hJ : qJ M) (hn : n ≤ 4096) (hi : 0 ≤ i ∧ i + 8 ≤ n) (K : ∀ M', qJ M' → zG n (114, 4080270) 300 311 (2158, [zR 0, zR 8, zR 97, .inl i], []) M' qLQ) : zG n (114, 4080270) 300 311 (232, [zR 0, zR 8, zR 97, .inl i], []) M qLQ := by
  have hz := zp_311
  have hg := sh_0
  refine zG_blk (c' := (237, [zR 0, zR 8, zR 97, .inl i], [.inl (i + 1), zR 0, zR 8])) 5 (by decide) hz (zsteps_seg hg (by rw [show (.inl (i + 1) : zV) = .inl (w32 (i + 1)) from by rw [w32_id (by omega)]]; rfl)) ?_
  refine zG_iald (by decide) hz (hg _ _ rfl) rfl (.inr rfl) (by omega) ?_
  obtain ⟨x1, hx1⟩ : ∃ x : Int, x = M 0 (i + 1).toNat := ⟨_, rfl⟩
  rw [← hx1]
  have hr1 : qin x1 := by rw [hx1]; exact hJ.1.rng 0 _ (by decide) (by decide)
  show zG n (114, 4080270) 300 311 (238, [zR 0, zR 8, zR 97, .inl i], [.inl x1, zR 8]) M _
  refine zG_blk (c' := (242, [zR 0, zR 8, zR 97, .inl i], [.inl (i + 2), zR 0, .inl x1, zR 8])) 4 (by decide) hz (zsteps_seg hg (by rw [show (.inl (i + 2) : zV) = .inl (w32 (i + 2)) from by rw [w32_id (by omega)]]; rfl)) ?_
  refine zG_iald (by decide) hz (hg _ _ rfl) rfl (.inr rfl) (by omega) ?_
  obtain ⟨x2, hx2⟩ : ∃ x : Int, x = M 0 (i + 2).toNat := ⟨_, rfl⟩
  rw [← hx2]
  have hr2 : qin x2 := by rw [hx2]; exact hJ.1.rng 0 _ (by decide) (by decide)
  show zG n (114, 4080270) 300 311 (243, [zR 0, zR 8, zR 97, .inl i], [.inl x2, .inl x1, zR 8]) M _
  refine zG_blk (c' := (247, [zR 0, zR 8, zR 97, .inl i], [.inl (i + 3), zR 0, .inl x2, .inl x1, zR 8])) 4 (by decide) hz (zsteps_seg hg (by rw [show (.inl (i + 3) : zV) = .inl (w32 (i + 3)) from by rw [w32_id (by omega)]]; rfl)) ?_
  refine zG_iald (by decide) hz (hg _ _ rfl) rfl (.inr rfl) (by omega) ?_
  obtain ⟨x3, hx3⟩ : ∃ x : Int, x = M 0 (i + 3).toNat := ⟨_, rfl⟩
  rw [← hx3]
  have hr3 : qin x3 := by rw [hx3]; exact hJ.1.rng 0 _ (by decide) (by decide)
  show zG n (114, 4080270) 300 311 (248, [zR 0, zR 8, zR 97, .inl i], [.inl x3, .inl x2, .inl x1, zR 8]) M _
  refine zG_blk (c' := (252, [zR 0, zR 8, zR 97, .inl i], [.inl (i + 4), zR 0, .inl x3, .inl x2, .inl x1, zR 8])) 4 (by decide) hz (zsteps_seg hg (by rw [show (.inl (i + 4) : zV) = .inl (w32 (i + 4)) from by rw [w32_id (by omega)]]; rfl)) ?_
  refine zG_iald (by decide) hz (hg _ _ rfl) rfl (.inr rfl) (by omega) ?_
  obtain ⟨x4, hx4⟩ : ∃ x : Int, x = M 0 (i + 4).toNat := ⟨_, rfl⟩
  rw [← hx4]
  have hr4 : qin x4 := by rw [hx4]; exact hJ.1.rng 0 _ (by decide) (by decide)
  show zG n (114, 4080270) 300 311 (253, [zR 0, zR 8, zR 97, .inl i], [.inl x4, .inl x3, .inl x2, .inl x1, zR 8]) M _
  refine zG_call (by decide) hz zp_123 (hg _ _ rfl) rfl (Nat.le_of_ble_eq_true rfl) ⟨Nat.le_of_ble_eq_true rfl, Nat.le_of_ble_eq_true rfl⟩ (zG.andH (qm_123_8 (by decide) hJ.1 x1 (by omega) x2 (by omega) x3 (by omega) x4 (by omega)) (fh_123_8 x1 x2 x3 x4)) (fun vr M1 hr => ?_)
  obtain ⟨⟨⟨hC1, hF1⟩, -⟩, rfl, hM1⟩ := hr
  have hi := hF1.hi rfl
  have hI := hJ.2.1.same hi
  have hc0 : ∀ j, M1 0 j = M 0 j := fun j => hF1 0 j (by decide)
  show zG n (114, 4080270) 300 311 (256, [zR 0, zR 8, zR 97, .inl i], [.inl (hf_123_8 M x1 x2 x3 x4).1]) M1 _
  refine zG_blk (c' := (262, [zR 0, zR 8, zR 97, .inl i], [.inl (i + 1), zR 0, zR 97])) 6 (by decide) hz (zsteps_seg hg (by rw [show (.inl (i + 1) : zV) = .inl (w32 (i + 1)) from by rw [w32_id (by omega)]]; rfl)) ?_
  refine zG_iald (by decide) hz (hg _ _ rfl) rfl (.inr rfl) (by omega) ?_
  rw [show M1 0 (i + 1).toNat = x1 from (hc0 _).trans hx1.symm]
  show zG n (114, 4080270) 300 311 (263, [zR 0, zR 8, zR 97, .inl i], [.inl x1, zR 97]) M1 _
  refine zG_blk (c' := (267, [zR 0, zR 8, zR 97, .inl i], [.inl (i + 2), zR 0, .inl x1, zR 97])) 4 (by decide) hz (zsteps_seg hg (by rw [show (.inl (i + 2) : zV) = .inl (w32 (i + 2)) from by rw [w32_id (by omega)]]; rfl)) ?_
  refine zG_iald (by decide) hz (hg _ _ rfl) rfl (.inr rfl) (by omega) ?_
  rw [show M1 0 (i + 2).toNat = x2 from (hc0 _).trans hx2.symm]
  show zG n (114, 4080270) 300 311 (268, [zR 0, zR 8, zR 97, .inl i], [.inl x2, .inl x1, zR 97]) M1 _
  refine zG_blk (c' := (272, [zR 0, zR 8, zR 97, .inl i], [.inl (i + 3), zR 0, .inl x2, .inl x1, zR 97])) 4 (by decide) hz (zsteps_seg hg (by rw [show (.inl (i + 3) : zV) = .inl (w32 (i + 3)) from by rw [w32_id (by omega)]]; rfl)) ?_
  refine zG_iald (by decide) hz (hg _ _ rfl) rfl (.inr rfl) (by omega) ?_
  rw [show M1 0 (i + 3).toNat = x3 from (hc0 _).trans hx3.symm]
  show zG n (114, 4080270) 300 311 (273, [zR 0, zR 8, zR 97, .inl i], [.inl x3, .inl x2, .inl x1, zR 97]) M1 _
  refine zG_blk (c' := (277, [zR 0, zR 8, zR 97, .inl i], [.inl (i + 4), zR 0, .inl x3, .inl x2, .inl x1, zR 97])) 4 (by decide) hz (zsteps_seg hg (by rw [show (.inl (i + 4) : zV) = .inl (w32 (i + 4)) from by rw [w32_id (by omega)]]; rfl)) ?_
  refine zG_iald (by decide) hz (hg _ _ rfl) rfl (.inr rfl) (by omega) ?_
  rw [show M1 0 (i + 4).toNat = x4 from (hc0 _).trans hx4.symm]
  show zG n (114, 4080270) 300 311 (278, [zR 0, zR 8, zR 97, .inl i], [.inl x4, .inl x3, .inl x2, .inl x1, zR 97]) M1 _
  refine zG_call (by decide) hz zp_187 (hg _ _ rfl) rfl (Nat.le_of_ble_eq_true rfl) ⟨Nat.le_of_ble_eq_true rfl, Nat.le_of_ble_eq_true rfl⟩ (zG.andH (qm_187_97 (by decide) hI x1 (by omega) x2 (by omega) x3 (by omega) x4 (by omega)) (fh_187_97 x1 x2 x3 x4)) (fun vr M2 hr => ?_)
  obtain ⟨⟨⟨hC2, hF2⟩, -⟩, rfl, hM2⟩ := hr
  have hm := hm_123 hJ.2.2.1 hJ.1.tb hJ.2.1.bd (a1 := x1) (a2 := x2) (a3 := x3) (a4 := x4)
  rw [← hM1] at hm
  rw [← hM2] at hm
  have hJ2 : qJ M2 := hJ.mut hC1 hF1 rfl rfl hC2 hF2 rfl (by decide) hm.2
  show zG n (114, 4080270) 300 311 (281, [zR 0, zR 8, zR 97, .inl i], [.inl (hf_187_97 M1 x1 x2 x3 x4).1]) M2 _
  refine zG_blk (c' := (2158, [zR 0, zR 8, zR 97, .inl i], [])) 2 (by decide) hz (zsteps_seg hg rfl) ?_
  exact K M2 hJ2
noncomputable def sg_1 : List zE := [(285, zi_28, 286, zx0),
  (286, zi_0, 287, zx0),
  (287, zi_1, 288, zx0),
  (288, zi_2, 289, zx0),
  (289, zi_4, 290, zx0),
  (290, zi_8, 291, zx0),
  (291, .invokevirtual 18, 294, (124, 2, 0, [11])),
  (294, zi_21, 295, zx0),
  (295, zi_39, 296, zx0),
  (296, zi_0, 297, zx0),
  (297, zi_1, 298, zx0),
  (298, zi_2, 299, zx0),
  (299, zi_4, 300, zx0),
  (300, zi_8, 301, zx0),
  (301, zi_460, 304, (188, 2, 0, [12])),
  (304, zi_21, 305, zx0),
  (305, .goto (1853), 308, zx_8)]
set_option maxRecDepth 100000 in
theorem sh_1 : zSeg zk_L_law sg_1 := zSeg_of 69 17 285 (by decide +kernel) rfl (by decide +kernel)
set_option maxRecDepth 100000 in
theorem qL_1 (hJ : qJ M) (hn : n ≤ 4096) (hi : 0 ≤ i ∧ i + 8 ≤ n) (K : ∀ M', qJ M' → zG n (114, 4080270) 300 311 (2158, [zR 0, zR 8, zR 97, .inl i], []) M' qLQ) : zG n (114, 4080270) 300 311 (285, [zR 0, zR 8, zR 97, .inl i], []) M qLQ := by
  have hz := zp_311
  have hg := sh_1
  refine zG_blk (c' := (290, [zR 0, zR 8, zR 97, .inl i], [.inl (i + 1), zR 0, zR 8])) 5 (by decide) hz (zsteps_seg hg (by rw [show (.inl (i + 1) : zV) = .inl (w32 (i + 1)) from by rw [w32_id (by omega)]]; rfl)) ?_
  refine zG_iald (by decide) hz (hg _ _ rfl) rfl (.inr rfl) (by omega) ?_
  obtain ⟨x1, hx1⟩ : ∃ x : Int, x = M 0 (i + 1).toNat := ⟨_, rfl⟩
  rw [← hx1]
  have hr1 : qin x1 := by rw [hx1]; exact hJ.1.rng 0 _ (by decide) (by decide)
  show zG n (114, 4080270) 300 311 (291, [zR 0, zR 8, zR 97, .inl i], [.inl x1, zR 8]) M _
  refine zG_call (by decide) hz zp_124 (hg _ _ rfl) rfl (Nat.le_of_ble_eq_true rfl) ⟨Nat.le_of_ble_eq_true rfl, Nat.le_of_ble_eq_true rfl⟩ (zG.andH (qm_124_8 (by decide) hJ.1 x1 (by omega)) (fh_124_8 x1)) (fun vr M1 hr => ?_)
  obtain ⟨⟨⟨hC1, hF1⟩, -⟩, rfl, hM1⟩ := hr
  have hi := hF1.hi rfl
  have hI := hJ.2.1.same hi
  have hc0 : ∀ j, M1 0 j = M 0 j := fun j => hF1 0 j (by decide)
  show zG n (114, 4080270) 300 311 (294, [zR 0, zR 8, zR 97, .inl i], [.inl (hf_124_8 M x1).1]) M1 _
  refine zG_blk (c' := (300, [zR 0, zR 8, zR 97, .inl i], [.inl (i + 1), zR 0, zR 97])) 6 (by decide) hz (zsteps_seg hg (by rw [show (.inl (i + 1) : zV) = .inl (w32 (i + 1)) from by rw [w32_id (by omega)]]; rfl)) ?_
  refine zG_iald (by decide) hz (hg _ _ rfl) rfl (.inr rfl) (by omega) ?_
  rw [show M1 0 (i + 1).toNat = x1 from (hc0 _).trans hx1.symm]
  show zG n (114, 4080270) 300 311 (301, [zR 0, zR 8, zR 97, .inl i], [.inl x1, zR 97]) M1 _
  refine zG_call (by decide) hz zp_188 (hg _ _ rfl) rfl (Nat.le_of_ble_eq_true rfl) ⟨Nat.le_of_ble_eq_true rfl, Nat.le_of_ble_eq_true rfl⟩ (zG.andH (qm_188_97 (by decide) hI x1 (by omega)) (fh_188_97 x1)) (fun vr M2 hr => ?_)
  obtain ⟨⟨⟨hC2, hF2⟩, -⟩, rfl, hM2⟩ := hr
  have hm := hm_124 hJ.2.2.1 hJ.1.tb hJ.2.1.bd (a1 := x1)
  rw [← hM1] at hm
  rw [← hM2] at hm
  have hJ2 : qJ M2 := hJ.mut hC1 hF1 rfl rfl hC2 hF2 rfl (by decide) hm.2
  show zG n (114, 4080270) 300 311 (304, [zR 0, zR 8, zR 97, .inl i], [.inl (hf_188_97 M1 x1).1]) M2 _
  refine zG_blk (c' := (2158, [zR 0, zR 8, zR 97, .inl i], [])) 2 (by decide) hz (zsteps_seg hg rfl) ?_
  exact K M2 hJ2
noncomputable def sg_2 : List zE := [(308, zi_28, 309, zx0),
  (309, zi_0, 310, zx0),
  (310, zi_1, 311, zx0),
  (311, zi_2, 312, zx0),
  (312, zi_4, 313, zx0),
  (313, zi_8, 314, zx0),
  (314, zi_0, 315, zx0),
  (315, zi_1, 316, zx0),
  (316, zi_11, 317, zx0),
  (317, zi_4, 318, zx0),
  (318, zi_8, 319, zx0),
  (319, .invokevirtual 23, 322, (125, 3, 0, [11])),
  (322, zi_21, 323, zx0),
  (323, zi_39, 324, zx0),
  (324, zi_0, 325, zx0),
  (325, zi_1, 326, zx0),
  (326, zi_2, 327, zx0),
  (327, zi_4, 328, zx0),
  (328, zi_8, 329, zx0),
  (329, zi_0, 330, zx0),
  (330, zi_1, 331, zx0),
  (331, zi_11, 332, zx0),
  (332, zi_4, 333, zx0),
  (333, zi_8, 334, zx0),
  (334, .invokevirtual 27, 337, (189, 3, 0, [12])),
  (337, zi_21, 338, zx0),
  (338, .goto (1820), 341, zx_8)]
set_option maxRecDepth 100000 in
theorem sh_2 : zSeg zk_L_law sg_2 := zSeg_of 86 27 308 (by decide +kernel) rfl (by decide +kernel)
set_option maxRecDepth 100000 in
theorem qL_2 (hJ : qJ M) (hn : n ≤ 4096) (hi : 0 ≤ i ∧ i + 8 ≤ n) (K : ∀ M', qJ M' → zG n (114, 4080270) 300 311 (2158, [zR 0, zR 8, zR 97, .inl i], []) M' qLQ) : zG n (114, 4080270) 300 311 (308, [zR 0, zR 8, zR 97, .inl i], []) M qLQ := by
  have hz := zp_311
  have hg := sh_2
  refine zG_blk (c' := (313, [zR 0, zR 8, zR 97, .inl i], [.inl (i + 1), zR 0, zR 8])) 5 (by decide) hz (zsteps_seg hg (by rw [show (.inl (i + 1) : zV) = .inl (w32 (i + 1)) from by rw [w32_id (by omega)]]; rfl)) ?_
  refine zG_iald (by decide) hz (hg _ _ rfl) rfl (.inr rfl) (by omega) ?_
  obtain ⟨x1, hx1⟩ : ∃ x : Int, x = M 0 (i + 1).toNat := ⟨_, rfl⟩
  rw [← hx1]
  have hr1 : qin x1 := by rw [hx1]; exact hJ.1.rng 0 _ (by decide) (by decide)
  show zG n (114, 4080270) 300 311 (314, [zR 0, zR 8, zR 97, .inl i], [.inl x1, zR 8]) M _
  refine zG_blk (c' := (318, [zR 0, zR 8, zR 97, .inl i], [.inl (i + 2), zR 0, .inl x1, zR 8])) 4 (by decide) hz (zsteps_seg hg (by rw [show (.inl (i + 2) : zV) = .inl (w32 (i + 2)) from by rw [w32_id (by omega)]]; rfl)) ?_
  refine zG_iald (by decide) hz (hg _ _ rfl) rfl (.inr rfl) (by omega) ?_
  obtain ⟨x2, hx2⟩ : ∃ x : Int, x = M 0 (i + 2).toNat := ⟨_, rfl⟩
  rw [← hx2]
  have hr2 : qin x2 := by rw [hx2]; exact hJ.1.rng 0 _ (by decide) (by decide)
  show zG n (114, 4080270) 300 311 (319, [zR 0, zR 8, zR 97, .inl i], [.inl x2, .inl x1, zR 8]) M _
  refine zG_call (by decide) hz zp_125 (hg _ _ rfl) rfl (Nat.le_of_ble_eq_true rfl) ⟨Nat.le_of_ble_eq_true rfl, Nat.le_of_ble_eq_true rfl⟩ (zG.andH (qm_125_8 (by decide) hJ.1 x1 (by omega) x2 (by omega)) (fh_125_8 x1 x2)) (fun vr M1 hr => ?_)
  obtain ⟨⟨⟨hC1, hF1⟩, -⟩, rfl, hM1⟩ := hr
  have hi := hF1.hi rfl
  have hI := hJ.2.1.same hi
  have hc0 : ∀ j, M1 0 j = M 0 j := fun j => hF1 0 j (by decide)
  show zG n (114, 4080270) 300 311 (322, [zR 0, zR 8, zR 97, .inl i], [.inl (hf_125_8 M x1 x2).1]) M1 _
  refine zG_blk (c' := (328, [zR 0, zR 8, zR 97, .inl i], [.inl (i + 1), zR 0, zR 97])) 6 (by decide) hz (zsteps_seg hg (by rw [show (.inl (i + 1) : zV) = .inl (w32 (i + 1)) from by rw [w32_id (by omega)]]; rfl)) ?_
  refine zG_iald (by decide) hz (hg _ _ rfl) rfl (.inr rfl) (by omega) ?_
  rw [show M1 0 (i + 1).toNat = x1 from (hc0 _).trans hx1.symm]
  show zG n (114, 4080270) 300 311 (329, [zR 0, zR 8, zR 97, .inl i], [.inl x1, zR 97]) M1 _
  refine zG_blk (c' := (333, [zR 0, zR 8, zR 97, .inl i], [.inl (i + 2), zR 0, .inl x1, zR 97])) 4 (by decide) hz (zsteps_seg hg (by rw [show (.inl (i + 2) : zV) = .inl (w32 (i + 2)) from by rw [w32_id (by omega)]]; rfl)) ?_
  refine zG_iald (by decide) hz (hg _ _ rfl) rfl (.inr rfl) (by omega) ?_
  rw [show M1 0 (i + 2).toNat = x2 from (hc0 _).trans hx2.symm]
  show zG n (114, 4080270) 300 311 (334, [zR 0, zR 8, zR 97, .inl i], [.inl x2, .inl x1, zR 97]) M1 _
  refine zG_call (by decide) hz zp_189 (hg _ _ rfl) rfl (Nat.le_of_ble_eq_true rfl) ⟨Nat.le_of_ble_eq_true rfl, Nat.le_of_ble_eq_true rfl⟩ (zG.andH (qm_189_97 (by decide) hI x1 (by omega) x2 (by omega)) (fh_189_97 x1 x2)) (fun vr M2 hr => ?_)
  obtain ⟨⟨⟨hC2, hF2⟩, -⟩, rfl, hM2⟩ := hr
  have hm := hm_125 hJ.2.2.1 hJ.1.tb hJ.2.1.bd (a1 := x1) (a2 := x2)
  rw [← hM1] at hm
  rw [← hM2] at hm
  have hJ2 : qJ M2 := hJ.mut hC1 hF1 rfl rfl hC2 hF2 rfl (by decide) hm.2
  show zG n (114, 4080270) 300 311 (337, [zR 0, zR 8, zR 97, .inl i], [.inl (hf_189_97 M1 x1 x2).1]) M2 _
  refine zG_blk (c' := (2158, [zR 0, zR 8, zR 97, .inl i], [])) 2 (by decide) hz (zsteps_seg hg rfl) ?_
  exact K M2 hJ2
noncomputable def sg_3 : List zE := [(341, zi_28, 342, zx0),
  (342, zi_0, 343, zx0),
  (343, zi_1, 344, zx0),
  (344, zi_2, 345, zx0),
  (345, zi_4, 346, zx0),
  (346, zi_8, 347, zx0),
  (347, zi_0, 348, zx0),
  (348, zi_1, 349, zx0),
  (349, zi_11, 350, zx0),
  (350, zi_4, 351, zx0),
  (351, zi_8, 352, zx0),
  (352, zi_0, 353, zx0),
  (353, zi_1, 354, zx0),
  (354, zi_13, 355, zx0),
  (355, zi_4, 356, zx0),
  (356, zi_8, 357, zx0),
  (357, zi_0, 358, zx0),
  (358, zi_1, 359, zx0),
  (359, zi_17, 360, zx0),
  (360, zi_4, 361, zx0),
  (361, zi_8, 362, zx0),
  (362, .invokevirtual 28, 365, (126, 5, 0, [11])),
  (365, zi_21, 366, zx0),
  (366, zi_39, 367, zx0),
  (367, zi_0, 368, zx0),
  (368, zi_1, 369, zx0),
  (369, zi_2, 370, zx0),
  (370, zi_4, 371, zx0),
  (371, zi_8, 372, zx0),
  (372, zi_0, 373, zx0),
  (373, zi_1, 374, zx0),
  (374, zi_11, 375, zx0),
  (375, zi_4, 376, zx0),
  (376, zi_8, 377, zx0),
  (377, zi_0, 378, zx0),
  (378, zi_1, 379, zx0),
  (379, zi_13, 380, zx0),
  (380, zi_4, 381, zx0),
  (381, zi_8, 382, zx0),
  (382, zi_0, 383, zx0),
  (383, zi_1, 384, zx0),
  (384, zi_17, 385, zx0),
  (385, zi_4, 386, zx0),
  (386, zi_8, 387, zx0),
  (387, zi_543, 390, (190, 5, 0, [12])),
  (390, zi_21, 391, zx0),
  (391, .goto (1767), 394, zx_8)]
set_option maxRecDepth 100000 in
theorem sh_3 : zSeg zk_L_law sg_3 := zSeg_of 113 47 341 (by decide +kernel) rfl (by decide +kernel)
set_option maxRecDepth 100000 in
theorem qL_3 (hJ : qJ M) (hn : n ≤ 4096) (hi : 0 ≤ i ∧ i + 8 ≤ n) (K : ∀ M', qJ M' → zG n (114, 4080270) 300 311 (2158, [zR 0, zR 8, zR 97, .inl i], []) M' qLQ) : zG n (114, 4080270) 300 311 (341, [zR 0, zR 8, zR 97, .inl i], []) M qLQ := by
  have hz := zp_311
  have hg := sh_3
  refine zG_blk (c' := (346, [zR 0, zR 8, zR 97, .inl i], [.inl (i + 1), zR 0, zR 8])) 5 (by decide) hz (zsteps_seg hg (by rw [show (.inl (i + 1) : zV) = .inl (w32 (i + 1)) from by rw [w32_id (by omega)]]; rfl)) ?_
  refine zG_iald (by decide) hz (hg _ _ rfl) rfl (.inr rfl) (by omega) ?_
  obtain ⟨x1, hx1⟩ : ∃ x : Int, x = M 0 (i + 1).toNat := ⟨_, rfl⟩
  rw [← hx1]
  have hr1 : qin x1 := by rw [hx1]; exact hJ.1.rng 0 _ (by decide) (by decide)
  show zG n (114, 4080270) 300 311 (347, [zR 0, zR 8, zR 97, .inl i], [.inl x1, zR 8]) M _
  refine zG_blk (c' := (351, [zR 0, zR 8, zR 97, .inl i], [.inl (i + 2), zR 0, .inl x1, zR 8])) 4 (by decide) hz (zsteps_seg hg (by rw [show (.inl (i + 2) : zV) = .inl (w32 (i + 2)) from by rw [w32_id (by omega)]]; rfl)) ?_
  refine zG_iald (by decide) hz (hg _ _ rfl) rfl (.inr rfl) (by omega) ?_
  obtain ⟨x2, hx2⟩ : ∃ x : Int, x = M 0 (i + 2).toNat := ⟨_, rfl⟩
  rw [← hx2]
  have hr2 : qin x2 := by rw [hx2]; exact hJ.1.rng 0 _ (by decide) (by decide)
  show zG n (114, 4080270) 300 311 (352, [zR 0, zR 8, zR 97, .inl i], [.inl x2, .inl x1, zR 8]) M _
  refine zG_blk (c' := (356, [zR 0, zR 8, zR 97, .inl i], [.inl (i + 3), zR 0, .inl x2, .inl x1, zR 8])) 4 (by decide) hz (zsteps_seg hg (by rw [show (.inl (i + 3) : zV) = .inl (w32 (i + 3)) from by rw [w32_id (by omega)]]; rfl)) ?_
  refine zG_iald (by decide) hz (hg _ _ rfl) rfl (.inr rfl) (by omega) ?_
  obtain ⟨x3, hx3⟩ : ∃ x : Int, x = M 0 (i + 3).toNat := ⟨_, rfl⟩
  rw [← hx3]
  have hr3 : qin x3 := by rw [hx3]; exact hJ.1.rng 0 _ (by decide) (by decide)
  show zG n (114, 4080270) 300 311 (357, [zR 0, zR 8, zR 97, .inl i], [.inl x3, .inl x2, .inl x1, zR 8]) M _
  refine zG_blk (c' := (361, [zR 0, zR 8, zR 97, .inl i], [.inl (i + 4), zR 0, .inl x3, .inl x2, .inl x1, zR 8])) 4 (by decide) hz (zsteps_seg hg (by rw [show (.inl (i + 4) : zV) = .inl (w32 (i + 4)) from by rw [w32_id (by omega)]]; rfl)) ?_
  refine zG_iald (by decide) hz (hg _ _ rfl) rfl (.inr rfl) (by omega) ?_
  obtain ⟨x4, hx4⟩ : ∃ x : Int, x = M 0 (i + 4).toNat := ⟨_, rfl⟩
  rw [← hx4]
  have hr4 : qin x4 := by rw [hx4]; exact hJ.1.rng 0 _ (by decide) (by decide)
  show zG n (114, 4080270) 300 311 (362, [zR 0, zR 8, zR 97, .inl i], [.inl x4, .inl x3, .inl x2, .inl x1, zR 8]) M _
  refine zG_call (by decide) hz zp_126 (hg _ _ rfl) rfl (Nat.le_of_ble_eq_true rfl) ⟨Nat.le_of_ble_eq_true rfl, Nat.le_of_ble_eq_true rfl⟩ (zG.andH (qm_126_8 (by decide) hJ.1 x1 (by omega) x2 (by omega) x3 (by omega) x4 (by omega)) (fh_126_8 x1 x2 x3 x4)) (fun vr M1 hr => ?_)
  obtain ⟨⟨⟨hC1, hF1⟩, -⟩, rfl, hM1⟩ := hr
  have hi := hF1.hi rfl
  have hI := hJ.2.1.same hi
  have hc0 : ∀ j, M1 0 j = M 0 j := fun j => hF1 0 j (by decide)
  show zG n (114, 4080270) 300 311 (365, [zR 0, zR 8, zR 97, .inl i], [.inl (hf_126_8 M x1 x2 x3 x4).1]) M1 _
  refine zG_blk (c' := (371, [zR 0, zR 8, zR 97, .inl i], [.inl (i + 1), zR 0, zR 97])) 6 (by decide) hz (zsteps_seg hg (by rw [show (.inl (i + 1) : zV) = .inl (w32 (i + 1)) from by rw [w32_id (by omega)]]; rfl)) ?_
  refine zG_iald (by decide) hz (hg _ _ rfl) rfl (.inr rfl) (by omega) ?_
  rw [show M1 0 (i + 1).toNat = x1 from (hc0 _).trans hx1.symm]
  show zG n (114, 4080270) 300 311 (372, [zR 0, zR 8, zR 97, .inl i], [.inl x1, zR 97]) M1 _
  refine zG_blk (c' := (376, [zR 0, zR 8, zR 97, .inl i], [.inl (i + 2), zR 0, .inl x1, zR 97])) 4 (by decide) hz (zsteps_seg hg (by rw [show (.inl (i + 2) : zV) = .inl (w32 (i + 2)) from by rw [w32_id (by omega)]]; rfl)) ?_
  refine zG_iald (by decide) hz (hg _ _ rfl) rfl (.inr rfl) (by omega) ?_
  rw [show M1 0 (i + 2).toNat = x2 from (hc0 _).trans hx2.symm]
  show zG n (114, 4080270) 300 311 (377, [zR 0, zR 8, zR 97, .inl i], [.inl x2, .inl x1, zR 97]) M1 _
  refine zG_blk (c' := (381, [zR 0, zR 8, zR 97, .inl i], [.inl (i + 3), zR 0, .inl x2, .inl x1, zR 97])) 4 (by decide) hz (zsteps_seg hg (by rw [show (.inl (i + 3) : zV) = .inl (w32 (i + 3)) from by rw [w32_id (by omega)]]; rfl)) ?_
  refine zG_iald (by decide) hz (hg _ _ rfl) rfl (.inr rfl) (by omega) ?_
  rw [show M1 0 (i + 3).toNat = x3 from (hc0 _).trans hx3.symm]
  show zG n (114, 4080270) 300 311 (382, [zR 0, zR 8, zR 97, .inl i], [.inl x3, .inl x2, .inl x1, zR 97]) M1 _
  refine zG_blk (c' := (386, [zR 0, zR 8, zR 97, .inl i], [.inl (i + 4), zR 0, .inl x3, .inl x2, .inl x1, zR 97])) 4 (by decide) hz (zsteps_seg hg (by rw [show (.inl (i + 4) : zV) = .inl (w32 (i + 4)) from by rw [w32_id (by omega)]]; rfl)) ?_
  refine zG_iald (by decide) hz (hg _ _ rfl) rfl (.inr rfl) (by omega) ?_
  rw [show M1 0 (i + 4).toNat = x4 from (hc0 _).trans hx4.symm]
  show zG n (114, 4080270) 300 311 (387, [zR 0, zR 8, zR 97, .inl i], [.inl x4, .inl x3, .inl x2, .inl x1, zR 97]) M1 _
  refine zG_call (by decide) hz zp_190 (hg _ _ rfl) rfl (Nat.le_of_ble_eq_true rfl) ⟨Nat.le_of_ble_eq_true rfl, Nat.le_of_ble_eq_true rfl⟩ (zG.andH (qm_190_97 (by decide) hI x1 (by omega) x2 (by omega) x3 (by omega) x4 (by omega)) (fh_190_97 x1 x2 x3 x4)) (fun vr M2 hr => ?_)
  obtain ⟨⟨⟨hC2, hF2⟩, -⟩, rfl, hM2⟩ := hr
  have hm := hm_126 hJ.2.2.1 hJ.1.tb hJ.2.1.bd (a1 := x1) (a2 := x2) (a3 := x3) (a4 := x4)
  rw [← hM1] at hm
  rw [← hM2] at hm
  have hJ2 : qJ M2 := hJ.mut hC1 hF1 rfl rfl hC2 hF2 rfl (by decide) hm.2
  show zG n (114, 4080270) 300 311 (390, [zR 0, zR 8, zR 97, .inl i], [.inl (hf_190_97 M1 x1 x2 x3 x4).1]) M2 _
  refine zG_blk (c' := (2158, [zR 0, zR 8, zR 97, .inl i], [])) 2 (by decide) hz (zsteps_seg hg rfl) ?_
  exact K M2 hJ2
noncomputable def sg_4 : List zE := [(394, zi_28, 395, zx0),
  (395, zi_0, 396, zx0),
  (396, zi_1, 397, zx0),
  (397, zi_2, 398, zx0),
  (398, zi_4, 399, zx0),
  (399, zi_8, 400, zx0),
  (400, zi_0, 401, zx0),
  (401, zi_1, 402, zx0),
  (402, zi_11, 403, zx0),
  (403, zi_4, 404, zx0),
  (404, zi_8, 405, zx0),
  (405, zi_53, 408, zx_337),
  (408, zi_2, 409, zx0),
  (409, zi_15, 412, (413, 0, 0, [])),
  (412, zi_5, 413, zx0),
  (413, zi_235, 416, (127, 3, 0, [11])),
  (416, zi_21, 417, zx0),
  (417, zi_39, 418, zx0),
  (418, zi_0, 419, zx0),
  (419, zi_1, 420, zx0),
  (420, zi_2, 421, zx0),
  (421, zi_4, 422, zx0),
  (422, zi_8, 423, zx0),
  (423, zi_0, 424, zx0),
  (424, zi_1, 425, zx0),
  (425, zi_11, 426, zx0),
  (426, zi_4, 427, zx0),
  (427, zi_8, 428, zx0),
  (428, zi_53, 431, (435, 0, 0, [])),
  (431, zi_2, 432, zx0),
  (432, zi_15, 435, (436, 0, 0, [])),
  (435, zi_5, 436, zx0),
  (436, .invokevirtual 36, 439, (191, 3, 0, [12])),
  (439, zi_21, 440, zx0),
  (440, .goto (1718), 443, zx_8)]
set_option maxRecDepth 100000 in
theorem sh_4 : zSeg zk_L_law sg_4 := zSeg_of 160 35 394 (by decide +kernel) rfl (by decide +kernel)
set_option maxRecDepth 100000 in
theorem qL_4 (hJ : qJ M) (hn : n ≤ 4096) (hi : 0 ≤ i ∧ i + 8 ≤ n) (K : ∀ M', qJ M' → zG n (114, 4080270) 300 311 (2158, [zR 0, zR 8, zR 97, .inl i], []) M' qLQ) : zG n (114, 4080270) 300 311 (394, [zR 0, zR 8, zR 97, .inl i], []) M qLQ := by
  have hz := zp_311
  have hg := sh_4
  refine zG_blk (c' := (399, [zR 0, zR 8, zR 97, .inl i], [.inl (i + 1), zR 0, zR 8])) 5 (by decide) hz (zsteps_seg hg (by rw [show (.inl (i + 1) : zV) = .inl (w32 (i + 1)) from by rw [w32_id (by omega)]]; rfl)) ?_
  refine zG_iald (by decide) hz (hg _ _ rfl) rfl (.inr rfl) (by omega) ?_
  obtain ⟨x1, hx1⟩ : ∃ x : Int, x = M 0 (i + 1).toNat := ⟨_, rfl⟩
  rw [← hx1]
  have hr1 : qin x1 := by rw [hx1]; exact hJ.1.rng 0 _ (by decide) (by decide)
  show zG n (114, 4080270) 300 311 (400, [zR 0, zR 8, zR 97, .inl i], [.inl x1, zR 8]) M _
  refine zG_blk (c' := (404, [zR 0, zR 8, zR 97, .inl i], [.inl (i + 2), zR 0, .inl x1, zR 8])) 4 (by decide) hz (zsteps_seg hg (by rw [show (.inl (i + 2) : zV) = .inl (w32 (i + 2)) from by rw [w32_id (by omega)]]; rfl)) ?_
  refine zG_iald (by decide) hz (hg _ _ rfl) rfl (.inr rfl) (by omega) ?_
  obtain ⟨x2, hx2⟩ : ∃ x : Int, x = M 0 (i + 2).toNat := ⟨_, rfl⟩
  rw [← hx2]
  have hr2 : qin x2 := by rw [hx2]; exact hJ.1.rng 0 _ (by decide) (by decide)
  show zG n (114, 4080270) 300 311 (405, [zR 0, zR 8, zR 97, .inl i], [.inl x2, .inl x1, zR 8]) M _
  have j413 : ∀ b405 : Int, ((x2 = 0 ∧ b405 = 0) ∨ (¬ x2 = 0 ∧ b405 = 1)) → zG n (114, 4080270) 300 311 (413, [zR 0, zR 8, zR 97, .inl i], [.inl b405, .inl x1, zR 8]) M qLQ := by
    intro b405 hb405
    refine zG_call (by decide) hz zp_127 (hg _ _ rfl) rfl (Nat.le_of_ble_eq_true rfl) ⟨Nat.le_of_ble_eq_true rfl, Nat.le_of_ble_eq_true rfl⟩ (zG.andH (qm_127_8 (by decide) hJ.1 x1 (by omega) b405 (by omega)) (fh_127_8 x1 b405)) (fun vr M1 hr => ?_)
    obtain ⟨⟨⟨hC1, hF1⟩, -⟩, rfl, hM1⟩ := hr
    have hi := hF1.hi rfl
    have hI := hJ.2.1.same hi
    have hc0 : ∀ j, M1 0 j = M 0 j := fun j => hF1 0 j (by decide)
    show zG n (114, 4080270) 300 311 (416, [zR 0, zR 8, zR 97, .inl i], [.inl (hf_127_8 M x1 b405).1]) M1 _
    refine zG_blk (c' := (422, [zR 0, zR 8, zR 97, .inl i], [.inl (i + 1), zR 0, zR 97])) 6 (by decide) hz (zsteps_seg hg (by rw [show (.inl (i + 1) : zV) = .inl (w32 (i + 1)) from by rw [w32_id (by omega)]]; rfl)) ?_
    refine zG_iald (by decide) hz (hg _ _ rfl) rfl (.inr rfl) (by omega) ?_
    rw [show M1 0 (i + 1).toNat = x1 from (hc0 _).trans hx1.symm]
    show zG n (114, 4080270) 300 311 (423, [zR 0, zR 8, zR 97, .inl i], [.inl x1, zR 97]) M1 _
    refine zG_blk (c' := (427, [zR 0, zR 8, zR 97, .inl i], [.inl (i + 2), zR 0, .inl x1, zR 97])) 4 (by decide) hz (zsteps_seg hg (by rw [show (.inl (i + 2) : zV) = .inl (w32 (i + 2)) from by rw [w32_id (by omega)]]; rfl)) ?_
    refine zG_iald (by decide) hz (hg _ _ rfl) rfl (.inr rfl) (by omega) ?_
    rw [show M1 0 (i + 2).toNat = x2 from (hc0 _).trans hx2.symm]
    show zG n (114, 4080270) 300 311 (428, [zR 0, zR 8, zR 97, .inl i], [.inl x2, .inl x1, zR 97]) M1 _
    have j436 : zG n (114, 4080270) 300 311 (436, [zR 0, zR 8, zR 97, .inl i], [.inl b405, .inl x1, zR 97]) M1 qLQ := by
      refine zG_call (by decide) hz zp_191 (hg _ _ rfl) rfl (Nat.le_of_ble_eq_true rfl) ⟨Nat.le_of_ble_eq_true rfl, Nat.le_of_ble_eq_true rfl⟩ (zG.andH (qm_191_97 (by decide) hI x1 (by omega) b405 (by omega)) (fh_191_97 x1 b405)) (fun vr M2 hr => ?_)
      obtain ⟨⟨⟨hC2, hF2⟩, -⟩, rfl, hM2⟩ := hr
      have hm := hm_127 hJ.2.2.1 hJ.1.tb hJ.2.1.bd (a1 := x1) (a2 := b405) (by omega)
      rw [← hM1] at hm
      rw [← hM2] at hm
      have hJ2 : qJ M2 := hJ.mut hC1 hF1 rfl rfl hC2 hF2 rfl (by decide) hm.2
      show zG n (114, 4080270) 300 311 (439, [zR 0, zR 8, zR 97, .inl i], [.inl (hf_191_97 M1 x1 b405).1]) M2 _
      refine zG_blk (c' := (2158, [zR 0, zR 8, zR 97, .inl i], [])) 2 (by decide) hz (zsteps_seg hg rfl) ?_
      exact K M2 hJ2
    refine zG_if_eq (by decide) hz (hg _ _ rfl) (fun hb => ?_) (fun hb => ?_)
    · exact zG_blk (c' := (436, [zR 0, zR 8, zR 97, .inl i], [.inl b405, .inl x1, zR 97])) 1 (by decide) hz (zsteps_seg hg (by rw [show b405 = 0 by omega]; rfl)) j436
    · exact zG_blk (c' := (436, [zR 0, zR 8, zR 97, .inl i], [.inl b405, .inl x1, zR 97])) 2 (by decide) hz (zsteps_seg hg (by rw [show b405 = 1 by omega]; rfl)) j436
  refine zG_if_eq (by decide) hz (hg _ _ rfl) (fun hb => ?_) (fun hb => ?_)
  · exact zG_blk (c' := (413, [zR 0, zR 8, zR 97, .inl i], [.inl 0, .inl x1, zR 8])) 1 (by decide) hz (zsteps_seg hg rfl) (j413 0 (.inl ⟨hb, rfl⟩))
  · exact zG_blk (c' := (413, [zR 0, zR 8, zR 97, .inl i], [.inl 1, .inl x1, zR 8])) 2 (by decide) hz (zsteps_seg hg rfl) (j413 1 (.inr ⟨hb, rfl⟩))
noncomputable def sg_5 : List zE := [(443, zi_28, 444, zx0),
  (444, zi_0, 445, zx0),
  (445, zi_1, 446, zx0),
  (446, zi_2, 447, zx0),
  (447, zi_4, 448, zx0),
  (448, zi_8, 449, zx0),
  (449, .invokevirtual 37, 452, (128, 2, 0, [11])),
  (452, zi_39, 453, zx0),
  (453, zi_0, 454, zx0),
  (454, zi_1, 455, zx0),
  (455, zi_2, 456, zx0),
  (456, zi_4, 457, zx0),
  (457, zi_8, 458, zx0),
  (458, .invokevirtual 40, 461, (193, 2, 0, [12])),
  (461, .if_icmp .eq (1697), 464, zx_8),
  (464, zi_5, 465, zx0),
  (465, zi_7, 466, zx_3),
  (466, zi_28, 467, zx0),
  (467, zi_0, 468, zx0),
  (468, zi_1, 469, zx0),
  (469, zi_2, 470, zx0),
  (470, zi_4, 471, zx0),
  (471, zi_8, 472, zx0),
  (472, zi_0, 473, zx0),
  (473, zi_1, 474, zx0),
  (474, zi_11, 475, zx0),
  (475, zi_4, 476, zx0),
  (476, zi_8, 477, zx0),
  (477, zi_0, 478, zx0),
  (478, zi_1, 479, zx0),
  (479, zi_13, 480, zx0),
  (480, zi_4, 481, zx0),
  (481, zi_8, 482, zx0),
  (482, zi_0, 483, zx0),
  (483, zi_1, 484, zx0),
  (484, zi_17, 485, zx0),
  (485, zi_4, 486, zx0),
  (486, zi_8, 487, zx0),
  (487, zi_0, 488, zx0),
  (488, zi_1, 489, zx0),
  (489, zi_32, 490, zx0),
  (490, zi_4, 491, zx0),
  (491, zi_8, 492, zx0),
  (492, zi_0, 493, zx0),
  (493, zi_1, 494, zx0),
  (494, zi_37, 496, zx0),
  (496, zi_4, 497, zx0),
  (497, zi_8, 498, zx0),
  (498, zi_382, 501, (129, 7, 0, [11])),
  (501, zi_21, 502, zx0),
  (502, zi_39, 503, zx0),
  (503, zi_0, 504, zx0),
  (504, zi_1, 505, zx0),
  (505, zi_2, 506, zx0),
  (506, zi_4, 507, zx0),
  (507, zi_8, 508, zx0),
  (508, zi_0, 509, zx0),
  (509, zi_1, 510, zx0),
  (510, zi_11, 511, zx0),
  (511, zi_4, 512, zx0),
  (512, zi_8, 513, zx0),
  (513, zi_0, 514, zx0),
  (514, zi_1, 515, zx0),
  (515, zi_13, 516, zx0),
  (516, zi_4, 517, zx0),
  (517, zi_8, 518, zx0),
  (518, zi_0, 519, zx0),
  (519, zi_1, 520, zx0),
  (520, zi_17, 521, zx0),
  (521, zi_4, 522, zx0),
  (522, zi_8, 523, zx0),
  (523, zi_0, 524, zx0),
  (524, zi_1, 525, zx0),
  (525, zi_32, 526, zx0),
  (526, zi_4, 527, zx0),
  (527, zi_8, 528, zx0),
  (528, zi_0, 529, zx0),
  (529, zi_1, 530, zx0),
  (530, zi_37, 532, zx0),
  (532, zi_4, 533, zx0),
  (533, zi_8, 534, zx0),
  (534, zi_466, 537, (201, 7, 0, [12])),
  (537, zi_21, 538, zx0),
  (538, .goto (1620), 541, zx_8)]
set_option maxRecDepth 100000 in
theorem sh_5 : zSeg zk_L_law sg_5 := zSeg_of 195 84 443 (by decide +kernel) rfl (by decide +kernel)
set_option maxRecDepth 100000 in
theorem qL_5 (hJ : qJ M) (hn : n ≤ 4096) (hi : 0 ≤ i ∧ i + 8 ≤ n) (K : ∀ M', qJ M' → zG n (114, 4080270) 300 311 (2158, [zR 0, zR 8, zR 97, .inl i], []) M' qLQ) : zG n (114, 4080270) 300 311 (443, [zR 0, zR 8, zR 97, .inl i], []) M qLQ := by
  have hz := zp_311
  have hg := sh_5
  refine zG_blk (c' := (448, [zR 0, zR 8, zR 97, .inl i], [.inl (i + 1), zR 0, zR 8])) 5 (by decide) hz (zsteps_seg hg (by rw [show (.inl (i + 1) : zV) = .inl (w32 (i + 1)) from by rw [w32_id (by omega)]]; rfl)) ?_
  refine zG_iald (by decide) hz (hg _ _ rfl) rfl (.inr rfl) (by omega) ?_
  obtain ⟨x1, hx1⟩ : ∃ x : Int, x = M 0 (i + 1).toNat := ⟨_, rfl⟩
  rw [← hx1]
  have hr1 : qin x1 := by rw [hx1]; exact hJ.1.rng 0 _ (by decide) (by decide)
  show zG n (114, 4080270) 300 311 (449, [zR 0, zR 8, zR 97, .inl i], [.inl x1, zR 8]) M _
  refine zG_call (by decide) hz zp_128 (hg _ _ rfl) rfl (Nat.le_of_ble_eq_true rfl) ⟨Nat.le_of_ble_eq_true rfl, Nat.le_of_ble_eq_true rfl⟩ (zG.andH (qm_128_8 (by decide) hJ.1 x1 (by omega)) (fh_128_8 x1)) (fun vr M1 hr => ?_)
  obtain ⟨⟨hq, -⟩, rfl, -⟩ := hr
  replace hq := hq.symm; subst hq
  have hc0 : ∀ j, M 0 j = M 0 j := fun _ => rfl
  show zG n (114, 4080270) 300 311 (452, [zR 0, zR 8, zR 97, .inl i], [.inl (hf_128_8 M x1)]) M _
  refine zG_blk (c' := (457, [zR 0, zR 8, zR 97, .inl i], [.inl (i + 1), zR 0, zR 97, .inl (hf_128_8 M x1)])) 5 (by decide) hz (zsteps_seg hg (by rw [show (.inl (i + 1) : zV) = .inl (w32 (i + 1)) from by rw [w32_id (by omega)]]; rfl)) ?_
  refine zG_iald (by decide) hz (hg _ _ rfl) rfl (.inr rfl) (by omega) ?_
  rw [show M 0 (i + 1).toNat = x1 from hx1.symm]
  show zG n (114, 4080270) 300 311 (458, [zR 0, zR 8, zR 97, .inl i], [.inl x1, zR 97, .inl (hf_128_8 M x1)]) M _
  refine zG_call (by decide) hz zp_193 (hg _ _ rfl) rfl (Nat.le_of_ble_eq_true rfl) ⟨Nat.le_of_ble_eq_true rfl, Nat.le_of_ble_eq_true rfl⟩ (zG.andH (qm_193_97 (by decide) hJ.2.1 x1 (by omega)) (fh_193 hJ.2.1 x1 (by omega))) (fun vr M2 hr => ?_)
  obtain ⟨⟨hq, -⟩, rfl, -⟩ := hr
  replace hq := hq.symm; subst hq
  show zG n (114, 4080270) 300 311 (461, [zR 0, zR 8, zR 97, .inl i], [.inl (if 0 ≤ x1 ∧ x1 < M 98 3 then qStN M x1 else -2), .inl (hf_128_8 M x1)]) M _
  refine zG_icmp_eq (by decide) hz (hg _ _ rfl) (fun _ => ?_) (fun hne => absurd (hm_128 hJ.2.2.1 hJ.1.tb hJ.2.1) hne)
  exact K M hJ
noncomputable def sg_6 : List zE := [(466, zi_28, 467, zx0),
  (467, zi_0, 468, zx0),
  (468, zi_1, 469, zx0),
  (469, zi_2, 470, zx0),
  (470, zi_4, 471, zx0),
  (471, zi_8, 472, zx0),
  (472, zi_0, 473, zx0),
  (473, zi_1, 474, zx0),
  (474, zi_11, 475, zx0),
  (475, zi_4, 476, zx0),
  (476, zi_8, 477, zx0),
  (477, zi_0, 478, zx0),
  (478, zi_1, 479, zx0),
  (479, zi_13, 480, zx0),
  (480, zi_4, 481, zx0),
  (481, zi_8, 482, zx0),
  (482, zi_0, 483, zx0),
  (483, zi_1, 484, zx0),
  (484, zi_17, 485, zx0),
  (485, zi_4, 486, zx0),
  (486, zi_8, 487, zx0),
  (487, zi_0, 488, zx0),
  (488, zi_1, 489, zx0),
  (489, zi_32, 490, zx0),
  (490, zi_4, 491, zx0),
  (491, zi_8, 492, zx0),
  (492, zi_0, 493, zx0),
  (493, zi_1, 494, zx0),
  (494, zi_37, 496, zx0),
  (496, zi_4, 497, zx0),
  (497, zi_8, 498, zx0),
  (498, zi_382, 501, (129, 7, 0, [11])),
  (501, zi_21, 502, zx0),
  (502, zi_39, 503, zx0),
  (503, zi_0, 504, zx0),
  (504, zi_1, 505, zx0),
  (505, zi_2, 506, zx0),
  (506, zi_4, 507, zx0),
  (507, zi_8, 508, zx0),
  (508, zi_0, 509, zx0),
  (509, zi_1, 510, zx0),
  (510, zi_11, 511, zx0),
  (511, zi_4, 512, zx0),
  (512, zi_8, 513, zx0),
  (513, zi_0, 514, zx0),
  (514, zi_1, 515, zx0),
  (515, zi_13, 516, zx0),
  (516, zi_4, 517, zx0),
  (517, zi_8, 518, zx0),
  (518, zi_0, 519, zx0),
  (519, zi_1, 520, zx0),
  (520, zi_17, 521, zx0),
  (521, zi_4, 522, zx0),
  (522, zi_8, 523, zx0),
  (523, zi_0, 524, zx0),
  (524, zi_1, 525, zx0),
  (525, zi_32, 526, zx0),
  (526, zi_4, 527, zx0),
  (527, zi_8, 528, zx0),
  (528, zi_0, 529, zx0),
  (529, zi_1, 530, zx0),
  (530, zi_37, 532, zx0),
  (532, zi_4, 533, zx0),
  (533, zi_8, 534, zx0),
  (534, zi_466, 537, (201, 7, 0, [12])),
  (537, zi_21, 538, zx0),
  (538, .goto (1620), 541, zx_8)]
set_option maxRecDepth 100000 in
theorem sh_6 : zSeg zk_L_law sg_6 := zSeg_of 212 67 466 (by decide +kernel) rfl (by decide +kernel)
set_option maxRecDepth 100000 in
theorem qL_6 (hJ : qJ M) (hn : n ≤ 4096) (hi : 0 ≤ i ∧ i + 8 ≤ n) (K : ∀ M', qJ M' → zG n (114, 4080270) 300 311 (2158, [zR 0, zR 8, zR 97, .inl i], []) M' qLQ) : zG n (114, 4080270) 300 311 (466, [zR 0, zR 8, zR 97, .inl i], []) M qLQ := by
  have hz := zp_311
  have hg := sh_6
  refine zG_blk (c' := (471, [zR 0, zR 8, zR 97, .inl i], [.inl (i + 1), zR 0, zR 8])) 5 (by decide) hz (zsteps_seg hg (by rw [show (.inl (i + 1) : zV) = .inl (w32 (i + 1)) from by rw [w32_id (by omega)]]; rfl)) ?_
  refine zG_iald (by decide) hz (hg _ _ rfl) rfl (.inr rfl) (by omega) ?_
  obtain ⟨x1, hx1⟩ : ∃ x : Int, x = M 0 (i + 1).toNat := ⟨_, rfl⟩
  rw [← hx1]
  have hr1 : qin x1 := by rw [hx1]; exact hJ.1.rng 0 _ (by decide) (by decide)
  show zG n (114, 4080270) 300 311 (472, [zR 0, zR 8, zR 97, .inl i], [.inl x1, zR 8]) M _
  refine zG_blk (c' := (476, [zR 0, zR 8, zR 97, .inl i], [.inl (i + 2), zR 0, .inl x1, zR 8])) 4 (by decide) hz (zsteps_seg hg (by rw [show (.inl (i + 2) : zV) = .inl (w32 (i + 2)) from by rw [w32_id (by omega)]]; rfl)) ?_
  refine zG_iald (by decide) hz (hg _ _ rfl) rfl (.inr rfl) (by omega) ?_
  obtain ⟨x2, hx2⟩ : ∃ x : Int, x = M 0 (i + 2).toNat := ⟨_, rfl⟩
  rw [← hx2]
  have hr2 : qin x2 := by rw [hx2]; exact hJ.1.rng 0 _ (by decide) (by decide)
  show zG n (114, 4080270) 300 311 (477, [zR 0, zR 8, zR 97, .inl i], [.inl x2, .inl x1, zR 8]) M _
  refine zG_blk (c' := (481, [zR 0, zR 8, zR 97, .inl i], [.inl (i + 3), zR 0, .inl x2, .inl x1, zR 8])) 4 (by decide) hz (zsteps_seg hg (by rw [show (.inl (i + 3) : zV) = .inl (w32 (i + 3)) from by rw [w32_id (by omega)]]; rfl)) ?_
  refine zG_iald (by decide) hz (hg _ _ rfl) rfl (.inr rfl) (by omega) ?_
  obtain ⟨x3, hx3⟩ : ∃ x : Int, x = M 0 (i + 3).toNat := ⟨_, rfl⟩
  rw [← hx3]
  have hr3 : qin x3 := by rw [hx3]; exact hJ.1.rng 0 _ (by decide) (by decide)
  show zG n (114, 4080270) 300 311 (482, [zR 0, zR 8, zR 97, .inl i], [.inl x3, .inl x2, .inl x1, zR 8]) M _
  refine zG_blk (c' := (486, [zR 0, zR 8, zR 97, .inl i], [.inl (i + 4), zR 0, .inl x3, .inl x2, .inl x1, zR 8])) 4 (by decide) hz (zsteps_seg hg (by rw [show (.inl (i + 4) : zV) = .inl (w32 (i + 4)) from by rw [w32_id (by omega)]]; rfl)) ?_
  refine zG_iald (by decide) hz (hg _ _ rfl) rfl (.inr rfl) (by omega) ?_
  obtain ⟨x4, hx4⟩ : ∃ x : Int, x = M 0 (i + 4).toNat := ⟨_, rfl⟩
  rw [← hx4]
  have hr4 : qin x4 := by rw [hx4]; exact hJ.1.rng 0 _ (by decide) (by decide)
  show zG n (114, 4080270) 300 311 (487, [zR 0, zR 8, zR 97, .inl i], [.inl x4, .inl x3, .inl x2, .inl x1, zR 8]) M _
  refine zG_blk (c' := (491, [zR 0, zR 8, zR 97, .inl i], [.inl (i + 5), zR 0, .inl x4, .inl x3, .inl x2, .inl x1, zR 8])) 4 (by decide) hz (zsteps_seg hg (by rw [show (.inl (i + 5) : zV) = .inl (w32 (i + 5)) from by rw [w32_id (by omega)]]; rfl)) ?_
  refine zG_iald (by decide) hz (hg _ _ rfl) rfl (.inr rfl) (by omega) ?_
  obtain ⟨x5, hx5⟩ : ∃ x : Int, x = M 0 (i + 5).toNat := ⟨_, rfl⟩
  rw [← hx5]
  have hr5 : qin x5 := by rw [hx5]; exact hJ.1.rng 0 _ (by decide) (by decide)
  show zG n (114, 4080270) 300 311 (492, [zR 0, zR 8, zR 97, .inl i], [.inl x5, .inl x4, .inl x3, .inl x2, .inl x1, zR 8]) M _
  refine zG_blk (c' := (497, [zR 0, zR 8, zR 97, .inl i], [.inl (i + 6), zR 0, .inl x5, .inl x4, .inl x3, .inl x2, .inl x1, zR 8])) 4 (by decide) hz (zsteps_seg hg (by rw [show (.inl (i + 6) : zV) = .inl (w32 (i + 6)) from by rw [w32_id (by omega)]]; rfl)) ?_
  refine zG_iald (by decide) hz (hg _ _ rfl) rfl (.inr rfl) (by omega) ?_
  obtain ⟨x6, hx6⟩ : ∃ x : Int, x = M 0 (i + 6).toNat := ⟨_, rfl⟩
  rw [← hx6]
  have hr6 : qin x6 := by rw [hx6]; exact hJ.1.rng 0 _ (by decide) (by decide)
  show zG n (114, 4080270) 300 311 (498, [zR 0, zR 8, zR 97, .inl i], [.inl x6, .inl x5, .inl x4, .inl x3, .inl x2, .inl x1, zR 8]) M _
  refine zG_call (by decide) hz zp_129 (hg _ _ rfl) rfl (Nat.le_of_ble_eq_true rfl) ⟨Nat.le_of_ble_eq_true rfl, Nat.le_of_ble_eq_true rfl⟩ (zG.andH (qm_129_8 (by decide) hJ.1 x1 (by omega) x2 (by omega) x3 (by omega) x4 (by omega) x5 (by omega) x6 (by omega)) (fh_129_8 x1 x2 x3 x4 x5 x6)) (fun vr M1 hr => ?_)
  obtain ⟨⟨⟨hC1, hF1⟩, -⟩, rfl, hM1⟩ := hr
  have hi := hF1.hi rfl
  have hI := hJ.2.1.same hi
  have hc0 : ∀ j, M1 0 j = M 0 j := fun j => hF1 0 j (by decide)
  show zG n (114, 4080270) 300 311 (501, [zR 0, zR 8, zR 97, .inl i], [.inl (hf_129_8 M x1 x2 x3 x4 x5 x6).1]) M1 _
  refine zG_blk (c' := (507, [zR 0, zR 8, zR 97, .inl i], [.inl (i + 1), zR 0, zR 97])) 6 (by decide) hz (zsteps_seg hg (by rw [show (.inl (i + 1) : zV) = .inl (w32 (i + 1)) from by rw [w32_id (by omega)]]; rfl)) ?_
  refine zG_iald (by decide) hz (hg _ _ rfl) rfl (.inr rfl) (by omega) ?_
  rw [show M1 0 (i + 1).toNat = x1 from (hc0 _).trans hx1.symm]
  show zG n (114, 4080270) 300 311 (508, [zR 0, zR 8, zR 97, .inl i], [.inl x1, zR 97]) M1 _
  refine zG_blk (c' := (512, [zR 0, zR 8, zR 97, .inl i], [.inl (i + 2), zR 0, .inl x1, zR 97])) 4 (by decide) hz (zsteps_seg hg (by rw [show (.inl (i + 2) : zV) = .inl (w32 (i + 2)) from by rw [w32_id (by omega)]]; rfl)) ?_
  refine zG_iald (by decide) hz (hg _ _ rfl) rfl (.inr rfl) (by omega) ?_
  rw [show M1 0 (i + 2).toNat = x2 from (hc0 _).trans hx2.symm]
  show zG n (114, 4080270) 300 311 (513, [zR 0, zR 8, zR 97, .inl i], [.inl x2, .inl x1, zR 97]) M1 _
  refine zG_blk (c' := (517, [zR 0, zR 8, zR 97, .inl i], [.inl (i + 3), zR 0, .inl x2, .inl x1, zR 97])) 4 (by decide) hz (zsteps_seg hg (by rw [show (.inl (i + 3) : zV) = .inl (w32 (i + 3)) from by rw [w32_id (by omega)]]; rfl)) ?_
  refine zG_iald (by decide) hz (hg _ _ rfl) rfl (.inr rfl) (by omega) ?_
  rw [show M1 0 (i + 3).toNat = x3 from (hc0 _).trans hx3.symm]
  show zG n (114, 4080270) 300 311 (518, [zR 0, zR 8, zR 97, .inl i], [.inl x3, .inl x2, .inl x1, zR 97]) M1 _
  refine zG_blk (c' := (522, [zR 0, zR 8, zR 97, .inl i], [.inl (i + 4), zR 0, .inl x3, .inl x2, .inl x1, zR 97])) 4 (by decide) hz (zsteps_seg hg (by rw [show (.inl (i + 4) : zV) = .inl (w32 (i + 4)) from by rw [w32_id (by omega)]]; rfl)) ?_
  refine zG_iald (by decide) hz (hg _ _ rfl) rfl (.inr rfl) (by omega) ?_
  rw [show M1 0 (i + 4).toNat = x4 from (hc0 _).trans hx4.symm]
  show zG n (114, 4080270) 300 311 (523, [zR 0, zR 8, zR 97, .inl i], [.inl x4, .inl x3, .inl x2, .inl x1, zR 97]) M1 _
  refine zG_blk (c' := (527, [zR 0, zR 8, zR 97, .inl i], [.inl (i + 5), zR 0, .inl x4, .inl x3, .inl x2, .inl x1, zR 97])) 4 (by decide) hz (zsteps_seg hg (by rw [show (.inl (i + 5) : zV) = .inl (w32 (i + 5)) from by rw [w32_id (by omega)]]; rfl)) ?_
  refine zG_iald (by decide) hz (hg _ _ rfl) rfl (.inr rfl) (by omega) ?_
  rw [show M1 0 (i + 5).toNat = x5 from (hc0 _).trans hx5.symm]
  show zG n (114, 4080270) 300 311 (528, [zR 0, zR 8, zR 97, .inl i], [.inl x5, .inl x4, .inl x3, .inl x2, .inl x1, zR 97]) M1 _
  refine zG_blk (c' := (533, [zR 0, zR 8, zR 97, .inl i], [.inl (i + 6), zR 0, .inl x5, .inl x4, .inl x3, .inl x2, .inl x1, zR 97])) 4 (by decide) hz (zsteps_seg hg (by rw [show (.inl (i + 6) : zV) = .inl (w32 (i + 6)) from by rw [w32_id (by omega)]]; rfl)) ?_
  refine zG_iald (by decide) hz (hg _ _ rfl) rfl (.inr rfl) (by omega) ?_
  rw [show M1 0 (i + 6).toNat = x6 from (hc0 _).trans hx6.symm]
  show zG n (114, 4080270) 300 311 (534, [zR 0, zR 8, zR 97, .inl i], [.inl x6, .inl x5, .inl x4, .inl x3, .inl x2, .inl x1, zR 97]) M1 _
  refine zG_call (by decide) hz zp_201 (hg _ _ rfl) rfl (Nat.le_of_ble_eq_true rfl) ⟨Nat.le_of_ble_eq_true rfl, Nat.le_of_ble_eq_true rfl⟩ (zG.andH (qm_201_97 (by decide) hI x1 (by omega) x2 (by omega) x3 (by omega) x4 (by omega) x5 (by omega) x6 (by omega)) (fh_201_97 x1 x2 x3 x4 x5 x6)) (fun vr M2 hr => ?_)
  obtain ⟨⟨⟨hC2, hF2⟩, -⟩, rfl, hM2⟩ := hr
  have hm := hm_129 hJ.2.2.1 hJ.1.tb hJ.2.1.bd (a1 := x1) (a2 := x2) (a3 := x3) (a4 := x4) (a5 := x5) (a6 := x6)
  rw [← hM1] at hm
  rw [← hM2] at hm
  have hJ2 : qJ M2 := hJ.mut hC1 hF1 rfl rfl hC2 hF2 rfl (by decide) hm.2
  show zG n (114, 4080270) 300 311 (537, [zR 0, zR 8, zR 97, .inl i], [.inl (hf_201_97 M1 x1 x2 x3 x4 x5 x6).1]) M2 _
  refine zG_blk (c' := (2158, [zR 0, zR 8, zR 97, .inl i], [])) 2 (by decide) hz (zsteps_seg hg rfl) ?_
  exact K M2 hJ2
noncomputable def sg_7 : List zE := [(541, zi_28, 542, zx0),
  (542, zi_0, 543, zx0),
  (543, zi_1, 544, zx0),
  (544, zi_2, 545, zx0),
  (545, zi_4, 546, zx0),
  (546, zi_8, 547, zx0),
  (547, zi_0, 548, zx0),
  (548, zi_1, 549, zx0),
  (549, zi_11, 550, zx0),
  (550, zi_4, 551, zx0),
  (551, zi_8, 552, zx0),
  (552, zi_0, 553, zx0),
  (553, zi_1, 554, zx0),
  (554, zi_13, 555, zx0),
  (555, zi_4, 556, zx0),
  (556, zi_8, 557, zx0),
  (557, zi_0, 558, zx0),
  (558, zi_1, 559, zx0),
  (559, zi_17, 560, zx0),
  (560, zi_4, 561, zx0),
  (561, zi_8, 562, zx0),
  (562, zi_0, 563, zx0),
  (563, zi_1, 564, zx0),
  (564, zi_32, 565, zx0),
  (565, zi_4, 566, zx0),
  (566, zi_8, 567, zx0),
  (567, zi_404, 570, (130, 6, 0, [11])),
  (570, zi_21, 571, zx0),
  (571, zi_39, 572, zx0),
  (572, zi_0, 573, zx0),
  (573, zi_1, 574, zx0),
  (574, zi_2, 575, zx0),
  (575, zi_4, 576, zx0),
  (576, zi_8, 577, zx0),
  (577, zi_0, 578, zx0),
  (578, zi_1, 579, zx0),
  (579, zi_11, 580, zx0),
  (580, zi_4, 581, zx0),
  (581, zi_8, 582, zx0),
  (582, zi_0, 583, zx0),
  (583, zi_1, 584, zx0),
  (584, zi_13, 585, zx0),
  (585, zi_4, 586, zx0),
  (586, zi_8, 587, zx0),
  (587, zi_0, 588, zx0),
  (588, zi_1, 589, zx0),
  (589, zi_17, 590, zx0),
  (590, zi_4, 591, zx0),
  (591, zi_8, 592, zx0),
  (592, zi_0, 593, zx0),
  (593, zi_1, 594, zx0),
  (594, zi_32, 595, zx0),
  (595, zi_4, 596, zx0),
  (596, zi_8, 597, zx0),
  (597, .invokevirtual 50, 600, (202, 6, 0, [12])),
  (600, zi_21, 601, zx0),
  (601, .goto (1557), 604, zx_8)]
set_option maxRecDepth 100000 in
theorem sh_7 : zSeg zk_L_law sg_7 := zSeg_of 279 57 541 (by decide +kernel) rfl (by decide +kernel)
set_option maxRecDepth 100000 in
theorem qL_7 (hJ : qJ M) (hn : n ≤ 4096) (hi : 0 ≤ i ∧ i + 8 ≤ n) (K : ∀ M', qJ M' → zG n (114, 4080270) 300 311 (2158, [zR 0, zR 8, zR 97, .inl i], []) M' qLQ) : zG n (114, 4080270) 300 311 (541, [zR 0, zR 8, zR 97, .inl i], []) M qLQ := by
  have hz := zp_311
  have hg := sh_7
  refine zG_blk (c' := (546, [zR 0, zR 8, zR 97, .inl i], [.inl (i + 1), zR 0, zR 8])) 5 (by decide) hz (zsteps_seg hg (by rw [show (.inl (i + 1) : zV) = .inl (w32 (i + 1)) from by rw [w32_id (by omega)]]; rfl)) ?_
  refine zG_iald (by decide) hz (hg _ _ rfl) rfl (.inr rfl) (by omega) ?_
  obtain ⟨x1, hx1⟩ : ∃ x : Int, x = M 0 (i + 1).toNat := ⟨_, rfl⟩
  rw [← hx1]
  have hr1 : qin x1 := by rw [hx1]; exact hJ.1.rng 0 _ (by decide) (by decide)
  show zG n (114, 4080270) 300 311 (547, [zR 0, zR 8, zR 97, .inl i], [.inl x1, zR 8]) M _
  refine zG_blk (c' := (551, [zR 0, zR 8, zR 97, .inl i], [.inl (i + 2), zR 0, .inl x1, zR 8])) 4 (by decide) hz (zsteps_seg hg (by rw [show (.inl (i + 2) : zV) = .inl (w32 (i + 2)) from by rw [w32_id (by omega)]]; rfl)) ?_
  refine zG_iald (by decide) hz (hg _ _ rfl) rfl (.inr rfl) (by omega) ?_
  obtain ⟨x2, hx2⟩ : ∃ x : Int, x = M 0 (i + 2).toNat := ⟨_, rfl⟩
  rw [← hx2]
  have hr2 : qin x2 := by rw [hx2]; exact hJ.1.rng 0 _ (by decide) (by decide)
  show zG n (114, 4080270) 300 311 (552, [zR 0, zR 8, zR 97, .inl i], [.inl x2, .inl x1, zR 8]) M _
  refine zG_blk (c' := (556, [zR 0, zR 8, zR 97, .inl i], [.inl (i + 3), zR 0, .inl x2, .inl x1, zR 8])) 4 (by decide) hz (zsteps_seg hg (by rw [show (.inl (i + 3) : zV) = .inl (w32 (i + 3)) from by rw [w32_id (by omega)]]; rfl)) ?_
  refine zG_iald (by decide) hz (hg _ _ rfl) rfl (.inr rfl) (by omega) ?_
  obtain ⟨x3, hx3⟩ : ∃ x : Int, x = M 0 (i + 3).toNat := ⟨_, rfl⟩
  rw [← hx3]
  have hr3 : qin x3 := by rw [hx3]; exact hJ.1.rng 0 _ (by decide) (by decide)
  show zG n (114, 4080270) 300 311 (557, [zR 0, zR 8, zR 97, .inl i], [.inl x3, .inl x2, .inl x1, zR 8]) M _
  refine zG_blk (c' := (561, [zR 0, zR 8, zR 97, .inl i], [.inl (i + 4), zR 0, .inl x3, .inl x2, .inl x1, zR 8])) 4 (by decide) hz (zsteps_seg hg (by rw [show (.inl (i + 4) : zV) = .inl (w32 (i + 4)) from by rw [w32_id (by omega)]]; rfl)) ?_
  refine zG_iald (by decide) hz (hg _ _ rfl) rfl (.inr rfl) (by omega) ?_
  obtain ⟨x4, hx4⟩ : ∃ x : Int, x = M 0 (i + 4).toNat := ⟨_, rfl⟩
  rw [← hx4]
  have hr4 : qin x4 := by rw [hx4]; exact hJ.1.rng 0 _ (by decide) (by decide)
  show zG n (114, 4080270) 300 311 (562, [zR 0, zR 8, zR 97, .inl i], [.inl x4, .inl x3, .inl x2, .inl x1, zR 8]) M _
  refine zG_blk (c' := (566, [zR 0, zR 8, zR 97, .inl i], [.inl (i + 5), zR 0, .inl x4, .inl x3, .inl x2, .inl x1, zR 8])) 4 (by decide) hz (zsteps_seg hg (by rw [show (.inl (i + 5) : zV) = .inl (w32 (i + 5)) from by rw [w32_id (by omega)]]; rfl)) ?_
  refine zG_iald (by decide) hz (hg _ _ rfl) rfl (.inr rfl) (by omega) ?_
  obtain ⟨x5, hx5⟩ : ∃ x : Int, x = M 0 (i + 5).toNat := ⟨_, rfl⟩
  rw [← hx5]
  have hr5 : qin x5 := by rw [hx5]; exact hJ.1.rng 0 _ (by decide) (by decide)
  show zG n (114, 4080270) 300 311 (567, [zR 0, zR 8, zR 97, .inl i], [.inl x5, .inl x4, .inl x3, .inl x2, .inl x1, zR 8]) M _
  refine zG_call (by decide) hz zp_130 (hg _ _ rfl) rfl (Nat.le_of_ble_eq_true rfl) ⟨Nat.le_of_ble_eq_true rfl, Nat.le_of_ble_eq_true rfl⟩ (zG.andH (qm_130_8 (by decide) hJ.1 x1 (by omega) x2 (by omega) x3 (by omega) x4 (by omega) x5 (by omega)) (fh_130_8 x1 x2 x3 x4 x5)) (fun vr M1 hr => ?_)
  obtain ⟨⟨⟨hC1, hF1⟩, -⟩, rfl, hM1⟩ := hr
  have hi := hF1.hi rfl
  have hI := hJ.2.1.same hi
  have hc0 : ∀ j, M1 0 j = M 0 j := fun j => hF1 0 j (by decide)
  show zG n (114, 4080270) 300 311 (570, [zR 0, zR 8, zR 97, .inl i], [.inl (hf_130_8 M x1 x2 x3 x4 x5).1]) M1 _
  refine zG_blk (c' := (576, [zR 0, zR 8, zR 97, .inl i], [.inl (i + 1), zR 0, zR 97])) 6 (by decide) hz (zsteps_seg hg (by rw [show (.inl (i + 1) : zV) = .inl (w32 (i + 1)) from by rw [w32_id (by omega)]]; rfl)) ?_
  refine zG_iald (by decide) hz (hg _ _ rfl) rfl (.inr rfl) (by omega) ?_
  rw [show M1 0 (i + 1).toNat = x1 from (hc0 _).trans hx1.symm]
  show zG n (114, 4080270) 300 311 (577, [zR 0, zR 8, zR 97, .inl i], [.inl x1, zR 97]) M1 _
  refine zG_blk (c' := (581, [zR 0, zR 8, zR 97, .inl i], [.inl (i + 2), zR 0, .inl x1, zR 97])) 4 (by decide) hz (zsteps_seg hg (by rw [show (.inl (i + 2) : zV) = .inl (w32 (i + 2)) from by rw [w32_id (by omega)]]; rfl)) ?_
  refine zG_iald (by decide) hz (hg _ _ rfl) rfl (.inr rfl) (by omega) ?_
  rw [show M1 0 (i + 2).toNat = x2 from (hc0 _).trans hx2.symm]
  show zG n (114, 4080270) 300 311 (582, [zR 0, zR 8, zR 97, .inl i], [.inl x2, .inl x1, zR 97]) M1 _
  refine zG_blk (c' := (586, [zR 0, zR 8, zR 97, .inl i], [.inl (i + 3), zR 0, .inl x2, .inl x1, zR 97])) 4 (by decide) hz (zsteps_seg hg (by rw [show (.inl (i + 3) : zV) = .inl (w32 (i + 3)) from by rw [w32_id (by omega)]]; rfl)) ?_
  refine zG_iald (by decide) hz (hg _ _ rfl) rfl (.inr rfl) (by omega) ?_
  rw [show M1 0 (i + 3).toNat = x3 from (hc0 _).trans hx3.symm]
  show zG n (114, 4080270) 300 311 (587, [zR 0, zR 8, zR 97, .inl i], [.inl x3, .inl x2, .inl x1, zR 97]) M1 _
  refine zG_blk (c' := (591, [zR 0, zR 8, zR 97, .inl i], [.inl (i + 4), zR 0, .inl x3, .inl x2, .inl x1, zR 97])) 4 (by decide) hz (zsteps_seg hg (by rw [show (.inl (i + 4) : zV) = .inl (w32 (i + 4)) from by rw [w32_id (by omega)]]; rfl)) ?_
  refine zG_iald (by decide) hz (hg _ _ rfl) rfl (.inr rfl) (by omega) ?_
  rw [show M1 0 (i + 4).toNat = x4 from (hc0 _).trans hx4.symm]
  show zG n (114, 4080270) 300 311 (592, [zR 0, zR 8, zR 97, .inl i], [.inl x4, .inl x3, .inl x2, .inl x1, zR 97]) M1 _
  refine zG_blk (c' := (596, [zR 0, zR 8, zR 97, .inl i], [.inl (i + 5), zR 0, .inl x4, .inl x3, .inl x2, .inl x1, zR 97])) 4 (by decide) hz (zsteps_seg hg (by rw [show (.inl (i + 5) : zV) = .inl (w32 (i + 5)) from by rw [w32_id (by omega)]]; rfl)) ?_
  refine zG_iald (by decide) hz (hg _ _ rfl) rfl (.inr rfl) (by omega) ?_
  rw [show M1 0 (i + 5).toNat = x5 from (hc0 _).trans hx5.symm]
  show zG n (114, 4080270) 300 311 (597, [zR 0, zR 8, zR 97, .inl i], [.inl x5, .inl x4, .inl x3, .inl x2, .inl x1, zR 97]) M1 _
  refine zG_call (by decide) hz zp_202 (hg _ _ rfl) rfl (Nat.le_of_ble_eq_true rfl) ⟨Nat.le_of_ble_eq_true rfl, Nat.le_of_ble_eq_true rfl⟩ (zG.andH (qm_202_97 (by decide) hI x1 (by omega) x2 (by omega) x3 (by omega) x4 (by omega) x5 (by omega)) (fh_202_97 x1 x2 x3 x4 x5)) (fun vr M2 hr => ?_)
  obtain ⟨⟨⟨hC2, hF2⟩, -⟩, rfl, hM2⟩ := hr
  have hm := hm_130 hJ.2.2.1 hJ.1.tb hJ.2.1.bd (a1 := x1) (a2 := x2) (a3 := x3) (a4 := x4) (a5 := x5)
  rw [← hM1] at hm
  rw [← hM2] at hm
  have hJ2 : qJ M2 := hJ.mut hC1 hF1 rfl rfl hC2 hF2 rfl (by decide) hm.2
  show zG n (114, 4080270) 300 311 (600, [zR 0, zR 8, zR 97, .inl i], [.inl (hf_202_97 M1 x1 x2 x3 x4 x5).1]) M2 _
  refine zG_blk (c' := (2158, [zR 0, zR 8, zR 97, .inl i], [])) 2 (by decide) hz (zsteps_seg hg rfl) ?_
  exact K M2 hJ2
noncomputable def sg_8 : List zE := [(604, zi_28, 605, zx0),
  (605, zi_0, 606, zx0),
  (606, zi_1, 607, zx0),
  (607, zi_2, 608, zx0),
  (608, zi_4, 609, zx0),
  (609, zi_8, 610, zx0),
  (610, zi_0, 611, zx0),
  (611, zi_1, 612, zx0),
  (612, zi_11, 613, zx0),
  (613, zi_4, 614, zx0),
  (614, zi_8, 615, zx0),
  (615, zi_0, 616, zx0),
  (616, zi_1, 617, zx0),
  (617, zi_13, 618, zx0),
  (618, zi_4, 619, zx0),
  (619, zi_8, 620, zx0),
  (620, zi_0, 621, zx0),
  (621, zi_1, 622, zx0),
  (622, zi_17, 623, zx0),
  (623, zi_4, 624, zx0),
  (624, zi_8, 625, zx0),
  (625, zi_172, 628, (131, 5, 0, [11])),
  (628, zi_21, 629, zx0),
  (629, zi_39, 630, zx0),
  (630, zi_0, 631, zx0),
  (631, zi_1, 632, zx0),
  (632, zi_2, 633, zx0),
  (633, zi_4, 634, zx0),
  (634, zi_8, 635, zx0),
  (635, zi_0, 636, zx0),
  (636, zi_1, 637, zx0),
  (637, zi_11, 638, zx0),
  (638, zi_4, 639, zx0),
  (639, zi_8, 640, zx0),
  (640, zi_0, 641, zx0),
  (641, zi_1, 642, zx0),
  (642, zi_13, 643, zx0),
  (643, zi_4, 644, zx0),
  (644, zi_8, 645, zx0),
  (645, zi_0, 646, zx0),
  (646, zi_1, 647, zx0),
  (647, zi_17, 648, zx0),
  (648, zi_4, 649, zx0),
  (649, zi_8, 650, zx0),
  (650, zi_152, 653, (203, 5, 0, [12])),
  (653, zi_21, 654, zx0),
  (654, .goto (1504), 657, zx_8)]
set_option maxRecDepth 100000 in
theorem sh_8 : zSeg zk_L_law sg_8 := zSeg_of 336 47 604 (by decide +kernel) rfl (by decide +kernel)
set_option maxRecDepth 100000 in
theorem qL_8 (hJ : qJ M) (hn : n ≤ 4096) (hi : 0 ≤ i ∧ i + 8 ≤ n) (K : ∀ M', qJ M' → zG n (114, 4080270) 300 311 (2158, [zR 0, zR 8, zR 97, .inl i], []) M' qLQ) : zG n (114, 4080270) 300 311 (604, [zR 0, zR 8, zR 97, .inl i], []) M qLQ := by
  have hz := zp_311
  have hg := sh_8
  refine zG_blk (c' := (609, [zR 0, zR 8, zR 97, .inl i], [.inl (i + 1), zR 0, zR 8])) 5 (by decide) hz (zsteps_seg hg (by rw [show (.inl (i + 1) : zV) = .inl (w32 (i + 1)) from by rw [w32_id (by omega)]]; rfl)) ?_
  refine zG_iald (by decide) hz (hg _ _ rfl) rfl (.inr rfl) (by omega) ?_
  obtain ⟨x1, hx1⟩ : ∃ x : Int, x = M 0 (i + 1).toNat := ⟨_, rfl⟩
  rw [← hx1]
  have hr1 : qin x1 := by rw [hx1]; exact hJ.1.rng 0 _ (by decide) (by decide)
  show zG n (114, 4080270) 300 311 (610, [zR 0, zR 8, zR 97, .inl i], [.inl x1, zR 8]) M _
  refine zG_blk (c' := (614, [zR 0, zR 8, zR 97, .inl i], [.inl (i + 2), zR 0, .inl x1, zR 8])) 4 (by decide) hz (zsteps_seg hg (by rw [show (.inl (i + 2) : zV) = .inl (w32 (i + 2)) from by rw [w32_id (by omega)]]; rfl)) ?_
  refine zG_iald (by decide) hz (hg _ _ rfl) rfl (.inr rfl) (by omega) ?_
  obtain ⟨x2, hx2⟩ : ∃ x : Int, x = M 0 (i + 2).toNat := ⟨_, rfl⟩
  rw [← hx2]
  have hr2 : qin x2 := by rw [hx2]; exact hJ.1.rng 0 _ (by decide) (by decide)
  show zG n (114, 4080270) 300 311 (615, [zR 0, zR 8, zR 97, .inl i], [.inl x2, .inl x1, zR 8]) M _
  refine zG_blk (c' := (619, [zR 0, zR 8, zR 97, .inl i], [.inl (i + 3), zR 0, .inl x2, .inl x1, zR 8])) 4 (by decide) hz (zsteps_seg hg (by rw [show (.inl (i + 3) : zV) = .inl (w32 (i + 3)) from by rw [w32_id (by omega)]]; rfl)) ?_
  refine zG_iald (by decide) hz (hg _ _ rfl) rfl (.inr rfl) (by omega) ?_
  obtain ⟨x3, hx3⟩ : ∃ x : Int, x = M 0 (i + 3).toNat := ⟨_, rfl⟩
  rw [← hx3]
  have hr3 : qin x3 := by rw [hx3]; exact hJ.1.rng 0 _ (by decide) (by decide)
  show zG n (114, 4080270) 300 311 (620, [zR 0, zR 8, zR 97, .inl i], [.inl x3, .inl x2, .inl x1, zR 8]) M _
  refine zG_blk (c' := (624, [zR 0, zR 8, zR 97, .inl i], [.inl (i + 4), zR 0, .inl x3, .inl x2, .inl x1, zR 8])) 4 (by decide) hz (zsteps_seg hg (by rw [show (.inl (i + 4) : zV) = .inl (w32 (i + 4)) from by rw [w32_id (by omega)]]; rfl)) ?_
  refine zG_iald (by decide) hz (hg _ _ rfl) rfl (.inr rfl) (by omega) ?_
  obtain ⟨x4, hx4⟩ : ∃ x : Int, x = M 0 (i + 4).toNat := ⟨_, rfl⟩
  rw [← hx4]
  have hr4 : qin x4 := by rw [hx4]; exact hJ.1.rng 0 _ (by decide) (by decide)
  show zG n (114, 4080270) 300 311 (625, [zR 0, zR 8, zR 97, .inl i], [.inl x4, .inl x3, .inl x2, .inl x1, zR 8]) M _
  refine zG_call (by decide) hz zp_131 (hg _ _ rfl) rfl (Nat.le_of_ble_eq_true rfl) ⟨Nat.le_of_ble_eq_true rfl, Nat.le_of_ble_eq_true rfl⟩ (zG.andH (qm_131_8 (by decide) hJ.1 x1 (by omega) x2 (by omega) x3 (by omega) x4 (by omega)) (fh_131_8 x1 x2 x3 x4)) (fun vr M1 hr => ?_)
  obtain ⟨⟨⟨hC1, hF1⟩, -⟩, rfl, hM1⟩ := hr
  have hi := hF1.hi rfl
  have hI := hJ.2.1.same hi
  have hc0 : ∀ j, M1 0 j = M 0 j := fun j => hF1 0 j (by decide)
  show zG n (114, 4080270) 300 311 (628, [zR 0, zR 8, zR 97, .inl i], [.inl (hf_131_8 M x1 x2 x3 x4).1]) M1 _
  refine zG_blk (c' := (634, [zR 0, zR 8, zR 97, .inl i], [.inl (i + 1), zR 0, zR 97])) 6 (by decide) hz (zsteps_seg hg (by rw [show (.inl (i + 1) : zV) = .inl (w32 (i + 1)) from by rw [w32_id (by omega)]]; rfl)) ?_
  refine zG_iald (by decide) hz (hg _ _ rfl) rfl (.inr rfl) (by omega) ?_
  rw [show M1 0 (i + 1).toNat = x1 from (hc0 _).trans hx1.symm]
  show zG n (114, 4080270) 300 311 (635, [zR 0, zR 8, zR 97, .inl i], [.inl x1, zR 97]) M1 _
  refine zG_blk (c' := (639, [zR 0, zR 8, zR 97, .inl i], [.inl (i + 2), zR 0, .inl x1, zR 97])) 4 (by decide) hz (zsteps_seg hg (by rw [show (.inl (i + 2) : zV) = .inl (w32 (i + 2)) from by rw [w32_id (by omega)]]; rfl)) ?_
  refine zG_iald (by decide) hz (hg _ _ rfl) rfl (.inr rfl) (by omega) ?_
  rw [show M1 0 (i + 2).toNat = x2 from (hc0 _).trans hx2.symm]
  show zG n (114, 4080270) 300 311 (640, [zR 0, zR 8, zR 97, .inl i], [.inl x2, .inl x1, zR 97]) M1 _
  refine zG_blk (c' := (644, [zR 0, zR 8, zR 97, .inl i], [.inl (i + 3), zR 0, .inl x2, .inl x1, zR 97])) 4 (by decide) hz (zsteps_seg hg (by rw [show (.inl (i + 3) : zV) = .inl (w32 (i + 3)) from by rw [w32_id (by omega)]]; rfl)) ?_
  refine zG_iald (by decide) hz (hg _ _ rfl) rfl (.inr rfl) (by omega) ?_
  rw [show M1 0 (i + 3).toNat = x3 from (hc0 _).trans hx3.symm]
  show zG n (114, 4080270) 300 311 (645, [zR 0, zR 8, zR 97, .inl i], [.inl x3, .inl x2, .inl x1, zR 97]) M1 _
  refine zG_blk (c' := (649, [zR 0, zR 8, zR 97, .inl i], [.inl (i + 4), zR 0, .inl x3, .inl x2, .inl x1, zR 97])) 4 (by decide) hz (zsteps_seg hg (by rw [show (.inl (i + 4) : zV) = .inl (w32 (i + 4)) from by rw [w32_id (by omega)]]; rfl)) ?_
  refine zG_iald (by decide) hz (hg _ _ rfl) rfl (.inr rfl) (by omega) ?_
  rw [show M1 0 (i + 4).toNat = x4 from (hc0 _).trans hx4.symm]
  show zG n (114, 4080270) 300 311 (650, [zR 0, zR 8, zR 97, .inl i], [.inl x4, .inl x3, .inl x2, .inl x1, zR 97]) M1 _
  refine zG_call (by decide) hz zp_203 (hg _ _ rfl) rfl (Nat.le_of_ble_eq_true rfl) ⟨Nat.le_of_ble_eq_true rfl, Nat.le_of_ble_eq_true rfl⟩ (zG.andH (qm_203_97 (by decide) hI x1 (by omega) x2 (by omega) x3 (by omega) x4 (by omega)) (fh_203_97 x1 x2 x3 x4)) (fun vr M2 hr => ?_)
  obtain ⟨⟨⟨hC2, hF2⟩, -⟩, rfl, hM2⟩ := hr
  have hm := hm_131 hJ.2.2.1 hJ.1.tb hJ.2.1.bd (a1 := x1) (a2 := x2) (a3 := x3) (a4 := x4)
  rw [← hM1] at hm
  rw [← hM2] at hm
  have hJ2 : qJ M2 := hJ.mut hC1 hF1 rfl rfl hC2 hF2 rfl (by decide) hm.2
  show zG n (114, 4080270) 300 311 (653, [zR 0, zR 8, zR 97, .inl i], [.inl (hf_203_97 M1 x1 x2 x3 x4).1]) M2 _
  refine zG_blk (c' := (2158, [zR 0, zR 8, zR 97, .inl i], [])) 2 (by decide) hz (zsteps_seg hg rfl) ?_
  exact K M2 hJ2
noncomputable def sg_9 : List zE := [(657, zi_28, 658, zx0),
  (658, zi_0, 659, zx0),
  (659, zi_1, 660, zx0),
  (660, zi_2, 661, zx0),
  (661, zi_4, 662, zx0),
  (662, zi_8, 663, zx0),
  (663, zi_0, 664, zx0),
  (664, zi_1, 665, zx0),
  (665, zi_11, 666, zx0),
  (666, zi_4, 667, zx0),
  (667, zi_8, 668, zx0),
  (668, zi_0, 669, zx0),
  (669, zi_1, 670, zx0),
  (670, zi_13, 671, zx0),
  (671, zi_4, 672, zx0),
  (672, zi_8, 673, zx0),
  (673, zi_0, 674, zx0),
  (674, zi_1, 675, zx0),
  (675, zi_17, 676, zx0),
  (676, zi_4, 677, zx0),
  (677, zi_8, 678, zx0),
  (678, zi_0, 679, zx0),
  (679, zi_1, 680, zx0),
  (680, zi_32, 681, zx0),
  (681, zi_4, 682, zx0),
  (682, zi_8, 683, zx0),
  (683, zi_0, 684, zx0),
  (684, zi_1, 685, zx0),
  (685, zi_37, 687, zx0),
  (687, zi_4, 688, zx0),
  (688, zi_8, 689, zx0),
  (689, zi_49, 692, (132, 7, 0, [11])),
  (692, zi_21, 693, zx0),
  (693, zi_39, 694, zx0),
  (694, zi_0, 695, zx0),
  (695, zi_1, 696, zx0),
  (696, zi_2, 697, zx0),
  (697, zi_4, 698, zx0),
  (698, zi_8, 699, zx0),
  (699, zi_0, 700, zx0),
  (700, zi_1, 701, zx0),
  (701, zi_11, 702, zx0),
  (702, zi_4, 703, zx0),
  (703, zi_8, 704, zx0),
  (704, zi_0, 705, zx0),
  (705, zi_1, 706, zx0),
  (706, zi_13, 707, zx0),
  (707, zi_4, 708, zx0),
  (708, zi_8, 709, zx0),
  (709, zi_0, 710, zx0),
  (710, zi_1, 711, zx0),
  (711, zi_17, 712, zx0),
  (712, zi_4, 713, zx0),
  (713, zi_8, 714, zx0),
  (714, zi_0, 715, zx0),
  (715, zi_1, 716, zx0),
  (716, zi_32, 717, zx0),
  (717, zi_4, 718, zx0),
  (718, zi_8, 719, zx0),
  (719, zi_0, 720, zx0),
  (720, zi_1, 721, zx0),
  (721, zi_37, 723, zx0),
  (723, zi_4, 724, zx0),
  (724, zi_8, 725, zx0),
  (725, zi_180, 728, (204, 7, 0, [12])),
  (728, zi_21, 729, zx0),
  (729, .goto (1429), 732, zx_8)]
set_option maxRecDepth 100000 in
theorem sh_9 : zSeg zk_L_law sg_9 := zSeg_of 383 67 657 (by decide +kernel) rfl (by decide +kernel)
set_option maxRecDepth 100000 in
theorem qL_9 (hJ : qJ M) (hn : n ≤ 4096) (hi : 0 ≤ i ∧ i + 8 ≤ n) (K : ∀ M', qJ M' → zG n (114, 4080270) 300 311 (2158, [zR 0, zR 8, zR 97, .inl i], []) M' qLQ) : zG n (114, 4080270) 300 311 (657, [zR 0, zR 8, zR 97, .inl i], []) M qLQ := by
  have hz := zp_311
  have hg := sh_9
  refine zG_blk (c' := (662, [zR 0, zR 8, zR 97, .inl i], [.inl (i + 1), zR 0, zR 8])) 5 (by decide) hz (zsteps_seg hg (by rw [show (.inl (i + 1) : zV) = .inl (w32 (i + 1)) from by rw [w32_id (by omega)]]; rfl)) ?_
  refine zG_iald (by decide) hz (hg _ _ rfl) rfl (.inr rfl) (by omega) ?_
  obtain ⟨x1, hx1⟩ : ∃ x : Int, x = M 0 (i + 1).toNat := ⟨_, rfl⟩
  rw [← hx1]
  have hr1 : qin x1 := by rw [hx1]; exact hJ.1.rng 0 _ (by decide) (by decide)
  show zG n (114, 4080270) 300 311 (663, [zR 0, zR 8, zR 97, .inl i], [.inl x1, zR 8]) M _
  refine zG_blk (c' := (667, [zR 0, zR 8, zR 97, .inl i], [.inl (i + 2), zR 0, .inl x1, zR 8])) 4 (by decide) hz (zsteps_seg hg (by rw [show (.inl (i + 2) : zV) = .inl (w32 (i + 2)) from by rw [w32_id (by omega)]]; rfl)) ?_
  refine zG_iald (by decide) hz (hg _ _ rfl) rfl (.inr rfl) (by omega) ?_
  obtain ⟨x2, hx2⟩ : ∃ x : Int, x = M 0 (i + 2).toNat := ⟨_, rfl⟩
  rw [← hx2]
  have hr2 : qin x2 := by rw [hx2]; exact hJ.1.rng 0 _ (by decide) (by decide)
  show zG n (114, 4080270) 300 311 (668, [zR 0, zR 8, zR 97, .inl i], [.inl x2, .inl x1, zR 8]) M _
  refine zG_blk (c' := (672, [zR 0, zR 8, zR 97, .inl i], [.inl (i + 3), zR 0, .inl x2, .inl x1, zR 8])) 4 (by decide) hz (zsteps_seg hg (by rw [show (.inl (i + 3) : zV) = .inl (w32 (i + 3)) from by rw [w32_id (by omega)]]; rfl)) ?_
  refine zG_iald (by decide) hz (hg _ _ rfl) rfl (.inr rfl) (by omega) ?_
  obtain ⟨x3, hx3⟩ : ∃ x : Int, x = M 0 (i + 3).toNat := ⟨_, rfl⟩
  rw [← hx3]
  have hr3 : qin x3 := by rw [hx3]; exact hJ.1.rng 0 _ (by decide) (by decide)
  show zG n (114, 4080270) 300 311 (673, [zR 0, zR 8, zR 97, .inl i], [.inl x3, .inl x2, .inl x1, zR 8]) M _
  refine zG_blk (c' := (677, [zR 0, zR 8, zR 97, .inl i], [.inl (i + 4), zR 0, .inl x3, .inl x2, .inl x1, zR 8])) 4 (by decide) hz (zsteps_seg hg (by rw [show (.inl (i + 4) : zV) = .inl (w32 (i + 4)) from by rw [w32_id (by omega)]]; rfl)) ?_
  refine zG_iald (by decide) hz (hg _ _ rfl) rfl (.inr rfl) (by omega) ?_
  obtain ⟨x4, hx4⟩ : ∃ x : Int, x = M 0 (i + 4).toNat := ⟨_, rfl⟩
  rw [← hx4]
  have hr4 : qin x4 := by rw [hx4]; exact hJ.1.rng 0 _ (by decide) (by decide)
  show zG n (114, 4080270) 300 311 (678, [zR 0, zR 8, zR 97, .inl i], [.inl x4, .inl x3, .inl x2, .inl x1, zR 8]) M _
  refine zG_blk (c' := (682, [zR 0, zR 8, zR 97, .inl i], [.inl (i + 5), zR 0, .inl x4, .inl x3, .inl x2, .inl x1, zR 8])) 4 (by decide) hz (zsteps_seg hg (by rw [show (.inl (i + 5) : zV) = .inl (w32 (i + 5)) from by rw [w32_id (by omega)]]; rfl)) ?_
  refine zG_iald (by decide) hz (hg _ _ rfl) rfl (.inr rfl) (by omega) ?_
  obtain ⟨x5, hx5⟩ : ∃ x : Int, x = M 0 (i + 5).toNat := ⟨_, rfl⟩
  rw [← hx5]
  have hr5 : qin x5 := by rw [hx5]; exact hJ.1.rng 0 _ (by decide) (by decide)
  show zG n (114, 4080270) 300 311 (683, [zR 0, zR 8, zR 97, .inl i], [.inl x5, .inl x4, .inl x3, .inl x2, .inl x1, zR 8]) M _
  refine zG_blk (c' := (688, [zR 0, zR 8, zR 97, .inl i], [.inl (i + 6), zR 0, .inl x5, .inl x4, .inl x3, .inl x2, .inl x1, zR 8])) 4 (by decide) hz (zsteps_seg hg (by rw [show (.inl (i + 6) : zV) = .inl (w32 (i + 6)) from by rw [w32_id (by omega)]]; rfl)) ?_
  refine zG_iald (by decide) hz (hg _ _ rfl) rfl (.inr rfl) (by omega) ?_
  obtain ⟨x6, hx6⟩ : ∃ x : Int, x = M 0 (i + 6).toNat := ⟨_, rfl⟩
  rw [← hx6]
  have hr6 : qin x6 := by rw [hx6]; exact hJ.1.rng 0 _ (by decide) (by decide)
  show zG n (114, 4080270) 300 311 (689, [zR 0, zR 8, zR 97, .inl i], [.inl x6, .inl x5, .inl x4, .inl x3, .inl x2, .inl x1, zR 8]) M _
  refine zG_call (by decide) hz zp_132 (hg _ _ rfl) rfl (Nat.le_of_ble_eq_true rfl) ⟨Nat.le_of_ble_eq_true rfl, Nat.le_of_ble_eq_true rfl⟩ (zG.andH (qm_132_8 (by decide) hJ.1 x1 (by omega) x2 (by omega) x3 (by omega) x4 (by omega) x5 (by omega) x6 (by omega)) (fh_132_8 x1 x2 x3 x4 x5 x6)) (fun vr M1 hr => ?_)
  obtain ⟨⟨⟨hC1, hF1⟩, -⟩, rfl, hM1⟩ := hr
  have hi := hF1.hi rfl
  have hI := hJ.2.1.same hi
  have hc0 : ∀ j, M1 0 j = M 0 j := fun j => hF1 0 j (by decide)
  show zG n (114, 4080270) 300 311 (692, [zR 0, zR 8, zR 97, .inl i], [.inl (hf_132_8 M x1 x2 x3 x4 x5 x6).1]) M1 _
  refine zG_blk (c' := (698, [zR 0, zR 8, zR 97, .inl i], [.inl (i + 1), zR 0, zR 97])) 6 (by decide) hz (zsteps_seg hg (by rw [show (.inl (i + 1) : zV) = .inl (w32 (i + 1)) from by rw [w32_id (by omega)]]; rfl)) ?_
  refine zG_iald (by decide) hz (hg _ _ rfl) rfl (.inr rfl) (by omega) ?_
  rw [show M1 0 (i + 1).toNat = x1 from (hc0 _).trans hx1.symm]
  show zG n (114, 4080270) 300 311 (699, [zR 0, zR 8, zR 97, .inl i], [.inl x1, zR 97]) M1 _
  refine zG_blk (c' := (703, [zR 0, zR 8, zR 97, .inl i], [.inl (i + 2), zR 0, .inl x1, zR 97])) 4 (by decide) hz (zsteps_seg hg (by rw [show (.inl (i + 2) : zV) = .inl (w32 (i + 2)) from by rw [w32_id (by omega)]]; rfl)) ?_
  refine zG_iald (by decide) hz (hg _ _ rfl) rfl (.inr rfl) (by omega) ?_
  rw [show M1 0 (i + 2).toNat = x2 from (hc0 _).trans hx2.symm]
  show zG n (114, 4080270) 300 311 (704, [zR 0, zR 8, zR 97, .inl i], [.inl x2, .inl x1, zR 97]) M1 _
  refine zG_blk (c' := (708, [zR 0, zR 8, zR 97, .inl i], [.inl (i + 3), zR 0, .inl x2, .inl x1, zR 97])) 4 (by decide) hz (zsteps_seg hg (by rw [show (.inl (i + 3) : zV) = .inl (w32 (i + 3)) from by rw [w32_id (by omega)]]; rfl)) ?_
  refine zG_iald (by decide) hz (hg _ _ rfl) rfl (.inr rfl) (by omega) ?_
  rw [show M1 0 (i + 3).toNat = x3 from (hc0 _).trans hx3.symm]
  show zG n (114, 4080270) 300 311 (709, [zR 0, zR 8, zR 97, .inl i], [.inl x3, .inl x2, .inl x1, zR 97]) M1 _
  refine zG_blk (c' := (713, [zR 0, zR 8, zR 97, .inl i], [.inl (i + 4), zR 0, .inl x3, .inl x2, .inl x1, zR 97])) 4 (by decide) hz (zsteps_seg hg (by rw [show (.inl (i + 4) : zV) = .inl (w32 (i + 4)) from by rw [w32_id (by omega)]]; rfl)) ?_
  refine zG_iald (by decide) hz (hg _ _ rfl) rfl (.inr rfl) (by omega) ?_
  rw [show M1 0 (i + 4).toNat = x4 from (hc0 _).trans hx4.symm]
  show zG n (114, 4080270) 300 311 (714, [zR 0, zR 8, zR 97, .inl i], [.inl x4, .inl x3, .inl x2, .inl x1, zR 97]) M1 _
  refine zG_blk (c' := (718, [zR 0, zR 8, zR 97, .inl i], [.inl (i + 5), zR 0, .inl x4, .inl x3, .inl x2, .inl x1, zR 97])) 4 (by decide) hz (zsteps_seg hg (by rw [show (.inl (i + 5) : zV) = .inl (w32 (i + 5)) from by rw [w32_id (by omega)]]; rfl)) ?_
  refine zG_iald (by decide) hz (hg _ _ rfl) rfl (.inr rfl) (by omega) ?_
  rw [show M1 0 (i + 5).toNat = x5 from (hc0 _).trans hx5.symm]
  show zG n (114, 4080270) 300 311 (719, [zR 0, zR 8, zR 97, .inl i], [.inl x5, .inl x4, .inl x3, .inl x2, .inl x1, zR 97]) M1 _
  refine zG_blk (c' := (724, [zR 0, zR 8, zR 97, .inl i], [.inl (i + 6), zR 0, .inl x5, .inl x4, .inl x3, .inl x2, .inl x1, zR 97])) 4 (by decide) hz (zsteps_seg hg (by rw [show (.inl (i + 6) : zV) = .inl (w32 (i + 6)) from by rw [w32_id (by omega)]]; rfl)) ?_
  refine zG_iald (by decide) hz (hg _ _ rfl) rfl (.inr rfl) (by omega) ?_
  rw [show M1 0 (i + 6).toNat = x6 from (hc0 _).trans hx6.symm]
  show zG n (114, 4080270) 300 311 (725, [zR 0, zR 8, zR 97, .inl i], [.inl x6, .inl x5, .inl x4, .inl x3, .inl x2, .inl x1, zR 97]) M1 _
  refine zG_call (by decide) hz zp_204 (hg _ _ rfl) rfl (Nat.le_of_ble_eq_true rfl) ⟨Nat.le_of_ble_eq_true rfl, Nat.le_of_ble_eq_true rfl⟩ (zG.andH (qm_204_97 (by decide) hI x1 (by omega) x2 (by omega) x3 (by omega) x4 (by omega) x5 (by omega) x6 (by omega)) (fh_204_97 x1 x2 x3 x4 x5 x6)) (fun vr M2 hr => ?_)
  obtain ⟨⟨⟨hC2, hF2⟩, -⟩, rfl, hM2⟩ := hr
  have hm := hm_132 hJ.2.2.1 hJ.1.tb hJ.2.1.bd (a1 := x1) (a2 := x2) (a3 := x3) (a4 := x4) (a5 := x5) (a6 := x6)
  rw [← hM1] at hm
  rw [← hM2] at hm
  have hJ2 : qJ M2 := hJ.mut hC1 hF1 rfl rfl hC2 hF2 rfl (by decide) hm.2
  show zG n (114, 4080270) 300 311 (728, [zR 0, zR 8, zR 97, .inl i], [.inl (hf_204_97 M1 x1 x2 x3 x4 x5 x6).1]) M2 _
  refine zG_blk (c' := (2158, [zR 0, zR 8, zR 97, .inl i], [])) 2 (by decide) hz (zsteps_seg hg rfl) ?_
  exact K M2 hJ2
noncomputable def sg_10 : List zE := [(732, zi_28, 733, zx0),
  (733, zi_0, 734, zx0),
  (734, zi_1, 735, zx0),
  (735, zi_2, 736, zx0),
  (736, zi_4, 737, zx0),
  (737, zi_8, 738, zx0),
  (738, zi_0, 739, zx0),
  (739, zi_1, 740, zx0),
  (740, zi_11, 741, zx0),
  (741, zi_4, 742, zx0),
  (742, zi_8, 743, zx0),
  (743, zi_0, 744, zx0),
  (744, zi_1, 745, zx0),
  (745, zi_13, 746, zx0),
  (746, zi_4, 747, zx0),
  (747, zi_8, 748, zx0),
  (748, zi_0, 749, zx0),
  (749, zi_1, 750, zx0),
  (750, zi_17, 751, zx0),
  (751, zi_4, 752, zx0),
  (752, zi_8, 753, zx0),
  (753, zi_124, 756, (133, 5, 0, [11])),
  (756, zi_21, 757, zx0),
  (757, zi_39, 758, zx0),
  (758, zi_0, 759, zx0),
  (759, zi_1, 760, zx0),
  (760, zi_2, 761, zx0),
  (761, zi_4, 762, zx0),
  (762, zi_8, 763, zx0),
  (763, zi_0, 764, zx0),
  (764, zi_1, 765, zx0),
  (765, zi_11, 766, zx0),
  (766, zi_4, 767, zx0),
  (767, zi_8, 768, zx0),
  (768, zi_0, 769, zx0),
  (769, zi_1, 770, zx0),
  (770, zi_13, 771, zx0),
  (771, zi_4, 772, zx0),
  (772, zi_8, 773, zx0),
  (773, zi_0, 774, zx0),
  (774, zi_1, 775, zx0),
  (775, zi_17, 776, zx0),
  (776, zi_4, 777, zx0),
  (777, zi_8, 778, zx0),
  (778, zi_141, 781, (205, 5, 0, [12])),
  (781, zi_21, 782, zx0),
  (782, .goto (1376), 785, zx_8)]
set_option maxRecDepth 100000 in
theorem sh_10 : zSeg zk_L_law sg_10 := zSeg_of 450 47 732 (by decide +kernel) rfl (by decide +kernel)
set_option maxRecDepth 100000 in
theorem qL_10 (hJ : qJ M) (hn : n ≤ 4096) (hi : 0 ≤ i ∧ i + 8 ≤ n) (K : ∀ M', qJ M' → zG n (114, 4080270) 300 311 (2158, [zR 0, zR 8, zR 97, .inl i], []) M' qLQ) : zG n (114, 4080270) 300 311 (732, [zR 0, zR 8, zR 97, .inl i], []) M qLQ := by
  have hz := zp_311
  have hg := sh_10
  refine zG_blk (c' := (737, [zR 0, zR 8, zR 97, .inl i], [.inl (i + 1), zR 0, zR 8])) 5 (by decide) hz (zsteps_seg hg (by rw [show (.inl (i + 1) : zV) = .inl (w32 (i + 1)) from by rw [w32_id (by omega)]]; rfl)) ?_
  refine zG_iald (by decide) hz (hg _ _ rfl) rfl (.inr rfl) (by omega) ?_
  obtain ⟨x1, hx1⟩ : ∃ x : Int, x = M 0 (i + 1).toNat := ⟨_, rfl⟩
  rw [← hx1]
  have hr1 : qin x1 := by rw [hx1]; exact hJ.1.rng 0 _ (by decide) (by decide)
  show zG n (114, 4080270) 300 311 (738, [zR 0, zR 8, zR 97, .inl i], [.inl x1, zR 8]) M _
  refine zG_blk (c' := (742, [zR 0, zR 8, zR 97, .inl i], [.inl (i + 2), zR 0, .inl x1, zR 8])) 4 (by decide) hz (zsteps_seg hg (by rw [show (.inl (i + 2) : zV) = .inl (w32 (i + 2)) from by rw [w32_id (by omega)]]; rfl)) ?_
  refine zG_iald (by decide) hz (hg _ _ rfl) rfl (.inr rfl) (by omega) ?_
  obtain ⟨x2, hx2⟩ : ∃ x : Int, x = M 0 (i + 2).toNat := ⟨_, rfl⟩
  rw [← hx2]
  have hr2 : qin x2 := by rw [hx2]; exact hJ.1.rng 0 _ (by decide) (by decide)
  show zG n (114, 4080270) 300 311 (743, [zR 0, zR 8, zR 97, .inl i], [.inl x2, .inl x1, zR 8]) M _
  refine zG_blk (c' := (747, [zR 0, zR 8, zR 97, .inl i], [.inl (i + 3), zR 0, .inl x2, .inl x1, zR 8])) 4 (by decide) hz (zsteps_seg hg (by rw [show (.inl (i + 3) : zV) = .inl (w32 (i + 3)) from by rw [w32_id (by omega)]]; rfl)) ?_
  refine zG_iald (by decide) hz (hg _ _ rfl) rfl (.inr rfl) (by omega) ?_
  obtain ⟨x3, hx3⟩ : ∃ x : Int, x = M 0 (i + 3).toNat := ⟨_, rfl⟩
  rw [← hx3]
  have hr3 : qin x3 := by rw [hx3]; exact hJ.1.rng 0 _ (by decide) (by decide)
  show zG n (114, 4080270) 300 311 (748, [zR 0, zR 8, zR 97, .inl i], [.inl x3, .inl x2, .inl x1, zR 8]) M _
  refine zG_blk (c' := (752, [zR 0, zR 8, zR 97, .inl i], [.inl (i + 4), zR 0, .inl x3, .inl x2, .inl x1, zR 8])) 4 (by decide) hz (zsteps_seg hg (by rw [show (.inl (i + 4) : zV) = .inl (w32 (i + 4)) from by rw [w32_id (by omega)]]; rfl)) ?_
  refine zG_iald (by decide) hz (hg _ _ rfl) rfl (.inr rfl) (by omega) ?_
  obtain ⟨x4, hx4⟩ : ∃ x : Int, x = M 0 (i + 4).toNat := ⟨_, rfl⟩
  rw [← hx4]
  have hr4 : qin x4 := by rw [hx4]; exact hJ.1.rng 0 _ (by decide) (by decide)
  show zG n (114, 4080270) 300 311 (753, [zR 0, zR 8, zR 97, .inl i], [.inl x4, .inl x3, .inl x2, .inl x1, zR 8]) M _
  refine zG_call (by decide) hz zp_133 (hg _ _ rfl) rfl (Nat.le_of_ble_eq_true rfl) ⟨Nat.le_of_ble_eq_true rfl, Nat.le_of_ble_eq_true rfl⟩ (zG.andH (qm_133_8 (by decide) hJ.1 x1 (by omega) x2 (by omega) x3 (by omega) x4 (by omega)) (fh_133_8 x1 x2 x3 x4)) (fun vr M1 hr => ?_)
  obtain ⟨⟨⟨hC1, hF1⟩, -⟩, rfl, hM1⟩ := hr
  have hi := hF1.hi rfl
  have hI := hJ.2.1.same hi
  have hc0 : ∀ j, M1 0 j = M 0 j := fun j => hF1 0 j (by decide)
  show zG n (114, 4080270) 300 311 (756, [zR 0, zR 8, zR 97, .inl i], [.inl (hf_133_8 M x1 x2 x3 x4).1]) M1 _
  refine zG_blk (c' := (762, [zR 0, zR 8, zR 97, .inl i], [.inl (i + 1), zR 0, zR 97])) 6 (by decide) hz (zsteps_seg hg (by rw [show (.inl (i + 1) : zV) = .inl (w32 (i + 1)) from by rw [w32_id (by omega)]]; rfl)) ?_
  refine zG_iald (by decide) hz (hg _ _ rfl) rfl (.inr rfl) (by omega) ?_
  rw [show M1 0 (i + 1).toNat = x1 from (hc0 _).trans hx1.symm]
  show zG n (114, 4080270) 300 311 (763, [zR 0, zR 8, zR 97, .inl i], [.inl x1, zR 97]) M1 _
  refine zG_blk (c' := (767, [zR 0, zR 8, zR 97, .inl i], [.inl (i + 2), zR 0, .inl x1, zR 97])) 4 (by decide) hz (zsteps_seg hg (by rw [show (.inl (i + 2) : zV) = .inl (w32 (i + 2)) from by rw [w32_id (by omega)]]; rfl)) ?_
  refine zG_iald (by decide) hz (hg _ _ rfl) rfl (.inr rfl) (by omega) ?_
  rw [show M1 0 (i + 2).toNat = x2 from (hc0 _).trans hx2.symm]
  show zG n (114, 4080270) 300 311 (768, [zR 0, zR 8, zR 97, .inl i], [.inl x2, .inl x1, zR 97]) M1 _
  refine zG_blk (c' := (772, [zR 0, zR 8, zR 97, .inl i], [.inl (i + 3), zR 0, .inl x2, .inl x1, zR 97])) 4 (by decide) hz (zsteps_seg hg (by rw [show (.inl (i + 3) : zV) = .inl (w32 (i + 3)) from by rw [w32_id (by omega)]]; rfl)) ?_
  refine zG_iald (by decide) hz (hg _ _ rfl) rfl (.inr rfl) (by omega) ?_
  rw [show M1 0 (i + 3).toNat = x3 from (hc0 _).trans hx3.symm]
  show zG n (114, 4080270) 300 311 (773, [zR 0, zR 8, zR 97, .inl i], [.inl x3, .inl x2, .inl x1, zR 97]) M1 _
  refine zG_blk (c' := (777, [zR 0, zR 8, zR 97, .inl i], [.inl (i + 4), zR 0, .inl x3, .inl x2, .inl x1, zR 97])) 4 (by decide) hz (zsteps_seg hg (by rw [show (.inl (i + 4) : zV) = .inl (w32 (i + 4)) from by rw [w32_id (by omega)]]; rfl)) ?_
  refine zG_iald (by decide) hz (hg _ _ rfl) rfl (.inr rfl) (by omega) ?_
  rw [show M1 0 (i + 4).toNat = x4 from (hc0 _).trans hx4.symm]
  show zG n (114, 4080270) 300 311 (778, [zR 0, zR 8, zR 97, .inl i], [.inl x4, .inl x3, .inl x2, .inl x1, zR 97]) M1 _
  refine zG_call (by decide) hz zp_205 (hg _ _ rfl) rfl (Nat.le_of_ble_eq_true rfl) ⟨Nat.le_of_ble_eq_true rfl, Nat.le_of_ble_eq_true rfl⟩ (zG.andH (qm_205_97 (by decide) hI x1 (by omega) x2 (by omega) x3 (by omega) x4 (by omega)) (fh_205_97 x1 x2 x3 x4)) (fun vr M2 hr => ?_)
  obtain ⟨⟨⟨hC2, hF2⟩, -⟩, rfl, hM2⟩ := hr
  have hm := hm_133 hJ.2.2.1 hJ.1.tb hJ.2.1.bd (a1 := x1) (a2 := x2) (a3 := x3) (a4 := x4)
  rw [← hM1] at hm
  rw [← hM2] at hm
  have hJ2 : qJ M2 := hJ.mut hC1 hF1 rfl rfl hC2 hF2 rfl (by decide) hm.2
  show zG n (114, 4080270) 300 311 (781, [zR 0, zR 8, zR 97, .inl i], [.inl (hf_205_97 M1 x1 x2 x3 x4).1]) M2 _
  refine zG_blk (c' := (2158, [zR 0, zR 8, zR 97, .inl i], [])) 2 (by decide) hz (zsteps_seg hg rfl) ?_
  exact K M2 hJ2
noncomputable def sg_11 : List zE := [(785, zi_28, 786, zx0),
  (786, zi_0, 787, zx0),
  (787, zi_1, 788, zx0),
  (788, zi_2, 789, zx0),
  (789, zi_4, 790, zx0),
  (790, zi_8, 791, zx0),
  (791, zi_0, 792, zx0),
  (792, zi_1, 793, zx0),
  (793, zi_11, 794, zx0),
  (794, zi_4, 795, zx0),
  (795, zi_8, 796, zx0),
  (796, zi_0, 797, zx0),
  (797, zi_1, 798, zx0),
  (798, zi_13, 799, zx0),
  (799, zi_4, 800, zx0),
  (800, zi_8, 801, zx0),
  (801, .invokevirtual 63, 804, (134, 4, 0, [11])),
  (804, zi_21, 805, zx0),
  (805, zi_39, 806, zx0),
  (806, zi_0, 807, zx0),
  (807, zi_1, 808, zx0),
  (808, zi_2, 809, zx0),
  (809, zi_4, 810, zx0),
  (810, zi_8, 811, zx0),
  (811, zi_0, 812, zx0),
  (812, zi_1, 813, zx0),
  (813, zi_11, 814, zx0),
  (814, zi_4, 815, zx0),
  (815, zi_8, 816, zx0),
  (816, zi_0, 817, zx0),
  (817, zi_1, 818, zx0),
  (818, zi_13, 819, zx0),
  (819, zi_4, 820, zx0),
  (820, zi_8, 821, zx0),
  (821, zi_166, 824, (206, 4, 0, [12])),
  (824, zi_21, 825, zx0),
  (825, .goto (1333), 828, zx_8)]
set_option maxRecDepth 100000 in
theorem sh_11 : zSeg zk_L_law sg_11 := zSeg_of 497 37 785 (by decide +kernel) rfl (by decide +kernel)
set_option maxRecDepth 100000 in
theorem qL_11 (hJ : qJ M) (hn : n ≤ 4096) (hi : 0 ≤ i ∧ i + 8 ≤ n) (K : ∀ M', qJ M' → zG n (114, 4080270) 300 311 (2158, [zR 0, zR 8, zR 97, .inl i], []) M' qLQ) : zG n (114, 4080270) 300 311 (785, [zR 0, zR 8, zR 97, .inl i], []) M qLQ := by
  have hz := zp_311
  have hg := sh_11
  refine zG_blk (c' := (790, [zR 0, zR 8, zR 97, .inl i], [.inl (i + 1), zR 0, zR 8])) 5 (by decide) hz (zsteps_seg hg (by rw [show (.inl (i + 1) : zV) = .inl (w32 (i + 1)) from by rw [w32_id (by omega)]]; rfl)) ?_
  refine zG_iald (by decide) hz (hg _ _ rfl) rfl (.inr rfl) (by omega) ?_
  obtain ⟨x1, hx1⟩ : ∃ x : Int, x = M 0 (i + 1).toNat := ⟨_, rfl⟩
  rw [← hx1]
  have hr1 : qin x1 := by rw [hx1]; exact hJ.1.rng 0 _ (by decide) (by decide)
  show zG n (114, 4080270) 300 311 (791, [zR 0, zR 8, zR 97, .inl i], [.inl x1, zR 8]) M _
  refine zG_blk (c' := (795, [zR 0, zR 8, zR 97, .inl i], [.inl (i + 2), zR 0, .inl x1, zR 8])) 4 (by decide) hz (zsteps_seg hg (by rw [show (.inl (i + 2) : zV) = .inl (w32 (i + 2)) from by rw [w32_id (by omega)]]; rfl)) ?_
  refine zG_iald (by decide) hz (hg _ _ rfl) rfl (.inr rfl) (by omega) ?_
  obtain ⟨x2, hx2⟩ : ∃ x : Int, x = M 0 (i + 2).toNat := ⟨_, rfl⟩
  rw [← hx2]
  have hr2 : qin x2 := by rw [hx2]; exact hJ.1.rng 0 _ (by decide) (by decide)
  show zG n (114, 4080270) 300 311 (796, [zR 0, zR 8, zR 97, .inl i], [.inl x2, .inl x1, zR 8]) M _
  refine zG_blk (c' := (800, [zR 0, zR 8, zR 97, .inl i], [.inl (i + 3), zR 0, .inl x2, .inl x1, zR 8])) 4 (by decide) hz (zsteps_seg hg (by rw [show (.inl (i + 3) : zV) = .inl (w32 (i + 3)) from by rw [w32_id (by omega)]]; rfl)) ?_
  refine zG_iald (by decide) hz (hg _ _ rfl) rfl (.inr rfl) (by omega) ?_
  obtain ⟨x3, hx3⟩ : ∃ x : Int, x = M 0 (i + 3).toNat := ⟨_, rfl⟩
  rw [← hx3]
  have hr3 : qin x3 := by rw [hx3]; exact hJ.1.rng 0 _ (by decide) (by decide)
  show zG n (114, 4080270) 300 311 (801, [zR 0, zR 8, zR 97, .inl i], [.inl x3, .inl x2, .inl x1, zR 8]) M _
  refine zG_call (by decide) hz zp_134 (hg _ _ rfl) rfl (Nat.le_of_ble_eq_true rfl) ⟨Nat.le_of_ble_eq_true rfl, Nat.le_of_ble_eq_true rfl⟩ (zG.andH (qm_134_8 (by decide) hJ.1 x1 (by omega) x2 (by omega) x3 (by omega)) (fh_134_8 x1 x2 x3)) (fun vr M1 hr => ?_)
  obtain ⟨⟨⟨hC1, hF1⟩, -⟩, rfl, hM1⟩ := hr
  have hi := hF1.hi rfl
  have hI := hJ.2.1.same hi
  have hc0 : ∀ j, M1 0 j = M 0 j := fun j => hF1 0 j (by decide)
  show zG n (114, 4080270) 300 311 (804, [zR 0, zR 8, zR 97, .inl i], [.inl (hf_134_8 M x1 x2 x3).1]) M1 _
  refine zG_blk (c' := (810, [zR 0, zR 8, zR 97, .inl i], [.inl (i + 1), zR 0, zR 97])) 6 (by decide) hz (zsteps_seg hg (by rw [show (.inl (i + 1) : zV) = .inl (w32 (i + 1)) from by rw [w32_id (by omega)]]; rfl)) ?_
  refine zG_iald (by decide) hz (hg _ _ rfl) rfl (.inr rfl) (by omega) ?_
  rw [show M1 0 (i + 1).toNat = x1 from (hc0 _).trans hx1.symm]
  show zG n (114, 4080270) 300 311 (811, [zR 0, zR 8, zR 97, .inl i], [.inl x1, zR 97]) M1 _
  refine zG_blk (c' := (815, [zR 0, zR 8, zR 97, .inl i], [.inl (i + 2), zR 0, .inl x1, zR 97])) 4 (by decide) hz (zsteps_seg hg (by rw [show (.inl (i + 2) : zV) = .inl (w32 (i + 2)) from by rw [w32_id (by omega)]]; rfl)) ?_
  refine zG_iald (by decide) hz (hg _ _ rfl) rfl (.inr rfl) (by omega) ?_
  rw [show M1 0 (i + 2).toNat = x2 from (hc0 _).trans hx2.symm]
  show zG n (114, 4080270) 300 311 (816, [zR 0, zR 8, zR 97, .inl i], [.inl x2, .inl x1, zR 97]) M1 _
  refine zG_blk (c' := (820, [zR 0, zR 8, zR 97, .inl i], [.inl (i + 3), zR 0, .inl x2, .inl x1, zR 97])) 4 (by decide) hz (zsteps_seg hg (by rw [show (.inl (i + 3) : zV) = .inl (w32 (i + 3)) from by rw [w32_id (by omega)]]; rfl)) ?_
  refine zG_iald (by decide) hz (hg _ _ rfl) rfl (.inr rfl) (by omega) ?_
  rw [show M1 0 (i + 3).toNat = x3 from (hc0 _).trans hx3.symm]
  show zG n (114, 4080270) 300 311 (821, [zR 0, zR 8, zR 97, .inl i], [.inl x3, .inl x2, .inl x1, zR 97]) M1 _
  refine zG_call (by decide) hz zp_206 (hg _ _ rfl) rfl (Nat.le_of_ble_eq_true rfl) ⟨Nat.le_of_ble_eq_true rfl, Nat.le_of_ble_eq_true rfl⟩ (zG.andH (qm_206_97 (by decide) hI x1 (by omega) x2 (by omega) x3 (by omega)) (fh_206_97 x1 x2 x3)) (fun vr M2 hr => ?_)
  obtain ⟨⟨⟨hC2, hF2⟩, -⟩, rfl, hM2⟩ := hr
  have hm := hm_134 hJ.2.2.1 hJ.1.tb hJ.2.1.bd (a1 := x1) (a2 := x2) (a3 := x3)
  rw [← hM1] at hm
  rw [← hM2] at hm
  have hJ2 : qJ M2 := hJ.mut hC1 hF1 rfl rfl hC2 hF2 rfl (by decide) hm.2
  show zG n (114, 4080270) 300 311 (824, [zR 0, zR 8, zR 97, .inl i], [.inl (hf_206_97 M1 x1 x2 x3).1]) M2 _
  refine zG_blk (c' := (2158, [zR 0, zR 8, zR 97, .inl i], [])) 2 (by decide) hz (zsteps_seg hg rfl) ?_
  exact K M2 hJ2
noncomputable def sg_12 : List zE := [(828, zi_28, 829, zx0),
  (829, zi_0, 830, zx0),
  (830, zi_1, 831, zx0),
  (831, zi_2, 832, zx0),
  (832, zi_4, 833, zx0),
  (833, zi_8, 834, zx0),
  (834, zi_0, 835, zx0),
  (835, zi_1, 836, zx0),
  (836, zi_11, 837, zx0),
  (837, zi_4, 838, zx0),
  (838, zi_8, 839, zx0),
  (839, zi_0, 840, zx0),
  (840, zi_1, 841, zx0),
  (841, zi_13, 842, zx0),
  (842, zi_4, 843, zx0),
  (843, zi_8, 844, zx0),
  (844, zi_520, 847, (135, 4, 0, [11])),
  (847, zi_21, 848, zx0),
  (848, zi_39, 849, zx0),
  (849, zi_0, 850, zx0),
  (850, zi_1, 851, zx0),
  (851, zi_2, 852, zx0),
  (852, zi_4, 853, zx0),
  (853, zi_8, 854, zx0),
  (854, zi_0, 855, zx0),
  (855, zi_1, 856, zx0),
  (856, zi_11, 857, zx0),
  (857, zi_4, 858, zx0),
  (858, zi_8, 859, zx0),
  (859, zi_0, 860, zx0),
  (860, zi_1, 861, zx0),
  (861, zi_13, 862, zx0),
  (862, zi_4, 863, zx0),
  (863, zi_8, 864, zx0),
  (864, zi_521, 867, (207, 4, 0, [12])),
  (867, zi_21, 868, zx0),
  (868, .goto (1290), 871, zx_8)]
set_option maxRecDepth 100000 in
theorem sh_12 : zSeg zk_L_law sg_12 := zSeg_of 534 37 828 (by decide +kernel) rfl (by decide +kernel)
set_option maxRecDepth 100000 in
theorem qL_12 (hJ : qJ M) (hn : n ≤ 4096) (hi : 0 ≤ i ∧ i + 8 ≤ n) (K : ∀ M', qJ M' → zG n (114, 4080270) 300 311 (2158, [zR 0, zR 8, zR 97, .inl i], []) M' qLQ) : zG n (114, 4080270) 300 311 (828, [zR 0, zR 8, zR 97, .inl i], []) M qLQ := by
  have hz := zp_311
  have hg := sh_12
  refine zG_blk (c' := (833, [zR 0, zR 8, zR 97, .inl i], [.inl (i + 1), zR 0, zR 8])) 5 (by decide) hz (zsteps_seg hg (by rw [show (.inl (i + 1) : zV) = .inl (w32 (i + 1)) from by rw [w32_id (by omega)]]; rfl)) ?_
  refine zG_iald (by decide) hz (hg _ _ rfl) rfl (.inr rfl) (by omega) ?_
  obtain ⟨x1, hx1⟩ : ∃ x : Int, x = M 0 (i + 1).toNat := ⟨_, rfl⟩
  rw [← hx1]
  have hr1 : qin x1 := by rw [hx1]; exact hJ.1.rng 0 _ (by decide) (by decide)
  show zG n (114, 4080270) 300 311 (834, [zR 0, zR 8, zR 97, .inl i], [.inl x1, zR 8]) M _
  refine zG_blk (c' := (838, [zR 0, zR 8, zR 97, .inl i], [.inl (i + 2), zR 0, .inl x1, zR 8])) 4 (by decide) hz (zsteps_seg hg (by rw [show (.inl (i + 2) : zV) = .inl (w32 (i + 2)) from by rw [w32_id (by omega)]]; rfl)) ?_
  refine zG_iald (by decide) hz (hg _ _ rfl) rfl (.inr rfl) (by omega) ?_
  obtain ⟨x2, hx2⟩ : ∃ x : Int, x = M 0 (i + 2).toNat := ⟨_, rfl⟩
  rw [← hx2]
  have hr2 : qin x2 := by rw [hx2]; exact hJ.1.rng 0 _ (by decide) (by decide)
  show zG n (114, 4080270) 300 311 (839, [zR 0, zR 8, zR 97, .inl i], [.inl x2, .inl x1, zR 8]) M _
  refine zG_blk (c' := (843, [zR 0, zR 8, zR 97, .inl i], [.inl (i + 3), zR 0, .inl x2, .inl x1, zR 8])) 4 (by decide) hz (zsteps_seg hg (by rw [show (.inl (i + 3) : zV) = .inl (w32 (i + 3)) from by rw [w32_id (by omega)]]; rfl)) ?_
  refine zG_iald (by decide) hz (hg _ _ rfl) rfl (.inr rfl) (by omega) ?_
  obtain ⟨x3, hx3⟩ : ∃ x : Int, x = M 0 (i + 3).toNat := ⟨_, rfl⟩
  rw [← hx3]
  have hr3 : qin x3 := by rw [hx3]; exact hJ.1.rng 0 _ (by decide) (by decide)
  show zG n (114, 4080270) 300 311 (844, [zR 0, zR 8, zR 97, .inl i], [.inl x3, .inl x2, .inl x1, zR 8]) M _
  refine zG_call (by decide) hz zp_135 (hg _ _ rfl) rfl (Nat.le_of_ble_eq_true rfl) ⟨Nat.le_of_ble_eq_true rfl, Nat.le_of_ble_eq_true rfl⟩ (zG.andH (qm_135_8 (by decide) hJ.1 x1 (by omega) x2 (by omega) x3 (by omega)) (fh_135_8 x1 x2 x3)) (fun vr M1 hr => ?_)
  obtain ⟨⟨⟨hC1, hF1⟩, -⟩, rfl, hM1⟩ := hr
  have hi := hF1.hi rfl
  have hI := hJ.2.1.same hi
  have hc0 : ∀ j, M1 0 j = M 0 j := fun j => hF1 0 j (by decide)
  show zG n (114, 4080270) 300 311 (847, [zR 0, zR 8, zR 97, .inl i], [.inl (hf_135_8 M x1 x2 x3).1]) M1 _
  refine zG_blk (c' := (853, [zR 0, zR 8, zR 97, .inl i], [.inl (i + 1), zR 0, zR 97])) 6 (by decide) hz (zsteps_seg hg (by rw [show (.inl (i + 1) : zV) = .inl (w32 (i + 1)) from by rw [w32_id (by omega)]]; rfl)) ?_
  refine zG_iald (by decide) hz (hg _ _ rfl) rfl (.inr rfl) (by omega) ?_
  rw [show M1 0 (i + 1).toNat = x1 from (hc0 _).trans hx1.symm]
  show zG n (114, 4080270) 300 311 (854, [zR 0, zR 8, zR 97, .inl i], [.inl x1, zR 97]) M1 _
  refine zG_blk (c' := (858, [zR 0, zR 8, zR 97, .inl i], [.inl (i + 2), zR 0, .inl x1, zR 97])) 4 (by decide) hz (zsteps_seg hg (by rw [show (.inl (i + 2) : zV) = .inl (w32 (i + 2)) from by rw [w32_id (by omega)]]; rfl)) ?_
  refine zG_iald (by decide) hz (hg _ _ rfl) rfl (.inr rfl) (by omega) ?_
  rw [show M1 0 (i + 2).toNat = x2 from (hc0 _).trans hx2.symm]
  show zG n (114, 4080270) 300 311 (859, [zR 0, zR 8, zR 97, .inl i], [.inl x2, .inl x1, zR 97]) M1 _
  refine zG_blk (c' := (863, [zR 0, zR 8, zR 97, .inl i], [.inl (i + 3), zR 0, .inl x2, .inl x1, zR 97])) 4 (by decide) hz (zsteps_seg hg (by rw [show (.inl (i + 3) : zV) = .inl (w32 (i + 3)) from by rw [w32_id (by omega)]]; rfl)) ?_
  refine zG_iald (by decide) hz (hg _ _ rfl) rfl (.inr rfl) (by omega) ?_
  rw [show M1 0 (i + 3).toNat = x3 from (hc0 _).trans hx3.symm]
  show zG n (114, 4080270) 300 311 (864, [zR 0, zR 8, zR 97, .inl i], [.inl x3, .inl x2, .inl x1, zR 97]) M1 _
  refine zG_call (by decide) hz zp_207 (hg _ _ rfl) rfl (Nat.le_of_ble_eq_true rfl) ⟨Nat.le_of_ble_eq_true rfl, Nat.le_of_ble_eq_true rfl⟩ (zG.andH (qm_207_97 (by decide) hI x1 (by omega) x2 (by omega) x3 (by omega)) (fh_207_97 x1 x2 x3)) (fun vr M2 hr => ?_)
  obtain ⟨⟨⟨hC2, hF2⟩, -⟩, rfl, hM2⟩ := hr
  have hm := hm_135 hJ.2.2.1 hJ.1.tb hJ.2.1.bd (a1 := x1) (a2 := x2) (a3 := x3)
  rw [← hM1] at hm
  rw [← hM2] at hm
  have hJ2 : qJ M2 := hJ.mut hC1 hF1 rfl rfl hC2 hF2 rfl (by decide) hm.2
  show zG n (114, 4080270) 300 311 (867, [zR 0, zR 8, zR 97, .inl i], [.inl (hf_207_97 M1 x1 x2 x3).1]) M2 _
  refine zG_blk (c' := (2158, [zR 0, zR 8, zR 97, .inl i], [])) 2 (by decide) hz (zsteps_seg hg rfl) ?_
  exact K M2 hJ2
noncomputable def sg_13 : List zE := [(871, zi_28, 872, zx0),
  (872, zi_0, 873, zx0),
  (873, zi_1, 874, zx0),
  (874, zi_2, 875, zx0),
  (875, zi_4, 876, zx0),
  (876, zi_8, 877, zx0),
  (877, zi_0, 878, zx0),
  (878, zi_1, 879, zx0),
  (879, zi_11, 880, zx0),
  (880, zi_4, 881, zx0),
  (881, zi_8, 882, zx0),
  (882, zi_426, 885, (136, 3, 0, [11])),
  (885, zi_21, 886, zx0),
  (886, zi_39, 887, zx0),
  (887, zi_0, 888, zx0),
  (888, zi_1, 889, zx0),
  (889, zi_2, 890, zx0),
  (890, zi_4, 891, zx0),
  (891, zi_8, 892, zx0),
  (892, zi_0, 893, zx0),
  (893, zi_1, 894, zx0),
  (894, zi_11, 895, zx0),
  (895, zi_4, 896, zx0),
  (896, zi_8, 897, zx0),
  (897, .invokevirtual 75, 900, (208, 3, 0, [12])),
  (900, zi_21, 901, zx0),
  (901, .goto (1257), 904, zx_8)]
set_option maxRecDepth 100000 in
theorem sh_13 : zSeg zk_L_law sg_13 := zSeg_of 571 27 871 (by decide +kernel) rfl (by decide +kernel)
set_option maxRecDepth 100000 in
theorem qL_13 (hJ : qJ M) (hn : n ≤ 4096) (hi : 0 ≤ i ∧ i + 8 ≤ n) (K : ∀ M', qJ M' → zG n (114, 4080270) 300 311 (2158, [zR 0, zR 8, zR 97, .inl i], []) M' qLQ) : zG n (114, 4080270) 300 311 (871, [zR 0, zR 8, zR 97, .inl i], []) M qLQ := by
  have hz := zp_311
  have hg := sh_13
  refine zG_blk (c' := (876, [zR 0, zR 8, zR 97, .inl i], [.inl (i + 1), zR 0, zR 8])) 5 (by decide) hz (zsteps_seg hg (by rw [show (.inl (i + 1) : zV) = .inl (w32 (i + 1)) from by rw [w32_id (by omega)]]; rfl)) ?_
  refine zG_iald (by decide) hz (hg _ _ rfl) rfl (.inr rfl) (by omega) ?_
  obtain ⟨x1, hx1⟩ : ∃ x : Int, x = M 0 (i + 1).toNat := ⟨_, rfl⟩
  rw [← hx1]
  have hr1 : qin x1 := by rw [hx1]; exact hJ.1.rng 0 _ (by decide) (by decide)
  show zG n (114, 4080270) 300 311 (877, [zR 0, zR 8, zR 97, .inl i], [.inl x1, zR 8]) M _
  refine zG_blk (c' := (881, [zR 0, zR 8, zR 97, .inl i], [.inl (i + 2), zR 0, .inl x1, zR 8])) 4 (by decide) hz (zsteps_seg hg (by rw [show (.inl (i + 2) : zV) = .inl (w32 (i + 2)) from by rw [w32_id (by omega)]]; rfl)) ?_
  refine zG_iald (by decide) hz (hg _ _ rfl) rfl (.inr rfl) (by omega) ?_
  obtain ⟨x2, hx2⟩ : ∃ x : Int, x = M 0 (i + 2).toNat := ⟨_, rfl⟩
  rw [← hx2]
  have hr2 : qin x2 := by rw [hx2]; exact hJ.1.rng 0 _ (by decide) (by decide)
  show zG n (114, 4080270) 300 311 (882, [zR 0, zR 8, zR 97, .inl i], [.inl x2, .inl x1, zR 8]) M _
  refine zG_call (by decide) hz zp_136 (hg _ _ rfl) rfl (Nat.le_of_ble_eq_true rfl) ⟨Nat.le_of_ble_eq_true rfl, Nat.le_of_ble_eq_true rfl⟩ (zG.andH (qm_136_8 (by decide) hJ.1 x1 (by omega) x2 (by omega)) (fh_136_8 x1 x2)) (fun vr M1 hr => ?_)
  obtain ⟨⟨⟨hC1, hF1⟩, -⟩, rfl, hM1⟩ := hr
  have hi := hF1.hi rfl
  have hI := hJ.2.1.same hi
  have hc0 : ∀ j, M1 0 j = M 0 j := fun j => hF1 0 j (by decide)
  show zG n (114, 4080270) 300 311 (885, [zR 0, zR 8, zR 97, .inl i], [.inl (hf_136_8 M x1 x2).1]) M1 _
  refine zG_blk (c' := (891, [zR 0, zR 8, zR 97, .inl i], [.inl (i + 1), zR 0, zR 97])) 6 (by decide) hz (zsteps_seg hg (by rw [show (.inl (i + 1) : zV) = .inl (w32 (i + 1)) from by rw [w32_id (by omega)]]; rfl)) ?_
  refine zG_iald (by decide) hz (hg _ _ rfl) rfl (.inr rfl) (by omega) ?_
  rw [show M1 0 (i + 1).toNat = x1 from (hc0 _).trans hx1.symm]
  show zG n (114, 4080270) 300 311 (892, [zR 0, zR 8, zR 97, .inl i], [.inl x1, zR 97]) M1 _
  refine zG_blk (c' := (896, [zR 0, zR 8, zR 97, .inl i], [.inl (i + 2), zR 0, .inl x1, zR 97])) 4 (by decide) hz (zsteps_seg hg (by rw [show (.inl (i + 2) : zV) = .inl (w32 (i + 2)) from by rw [w32_id (by omega)]]; rfl)) ?_
  refine zG_iald (by decide) hz (hg _ _ rfl) rfl (.inr rfl) (by omega) ?_
  rw [show M1 0 (i + 2).toNat = x2 from (hc0 _).trans hx2.symm]
  show zG n (114, 4080270) 300 311 (897, [zR 0, zR 8, zR 97, .inl i], [.inl x2, .inl x1, zR 97]) M1 _
  refine zG_call (by decide) hz zp_208 (hg _ _ rfl) rfl (Nat.le_of_ble_eq_true rfl) ⟨Nat.le_of_ble_eq_true rfl, Nat.le_of_ble_eq_true rfl⟩ (zG.andH (qm_208_97 (by decide) hI x1 (by omega) x2 (by omega)) (fh_208_97 x1 x2)) (fun vr M2 hr => ?_)
  obtain ⟨⟨⟨hC2, hF2⟩, -⟩, rfl, hM2⟩ := hr
  have hm := hm_136 hJ.2.2.1 hJ.1.tb hJ.2.1.bd (a1 := x1) (a2 := x2)
  rw [← hM1] at hm
  rw [← hM2] at hm
  have hJ2 : qJ M2 := hJ.mut hC1 hF1 rfl rfl hC2 hF2 rfl (by decide) hm.2
  show zG n (114, 4080270) 300 311 (900, [zR 0, zR 8, zR 97, .inl i], [.inl (hf_208_97 M1 x1 x2).1]) M2 _
  refine zG_blk (c' := (2158, [zR 0, zR 8, zR 97, .inl i], [])) 2 (by decide) hz (zsteps_seg hg rfl) ?_
  exact K M2 hJ2
noncomputable def sg_14 : List zE := [(904, zi_28, 905, zx0),
  (905, zi_0, 906, zx0),
  (906, zi_1, 907, zx0),
  (907, zi_2, 908, zx0),
  (908, zi_4, 909, zx0),
  (909, zi_8, 910, zx0),
  (910, zi_308, 913, (137, 2, 0, [11])),
  (913, zi_21, 914, zx0),
  (914, zi_39, 915, zx0),
  (915, zi_0, 916, zx0),
  (916, zi_1, 917, zx0),
  (917, zi_2, 918, zx0),
  (918, zi_4, 919, zx0),
  (919, zi_8, 920, zx0),
  (920, zi_389, 923, (209, 2, 0, [12])),
  (923, zi_21, 924, zx0),
  (924, .goto (1234), 927, zx_8)]
set_option maxRecDepth 100000 in
theorem sh_14 : zSeg zk_L_law sg_14 := zSeg_of 598 17 904 (by decide +kernel) rfl (by decide +kernel)
set_option maxRecDepth 100000 in
theorem qL_14 (hJ : qJ M) (hn : n ≤ 4096) (hi : 0 ≤ i ∧ i + 8 ≤ n) (K : ∀ M', qJ M' → zG n (114, 4080270) 300 311 (2158, [zR 0, zR 8, zR 97, .inl i], []) M' qLQ) : zG n (114, 4080270) 300 311 (904, [zR 0, zR 8, zR 97, .inl i], []) M qLQ := by
  have hz := zp_311
  have hg := sh_14
  refine zG_blk (c' := (909, [zR 0, zR 8, zR 97, .inl i], [.inl (i + 1), zR 0, zR 8])) 5 (by decide) hz (zsteps_seg hg (by rw [show (.inl (i + 1) : zV) = .inl (w32 (i + 1)) from by rw [w32_id (by omega)]]; rfl)) ?_
  refine zG_iald (by decide) hz (hg _ _ rfl) rfl (.inr rfl) (by omega) ?_
  obtain ⟨x1, hx1⟩ : ∃ x : Int, x = M 0 (i + 1).toNat := ⟨_, rfl⟩
  rw [← hx1]
  have hr1 : qin x1 := by rw [hx1]; exact hJ.1.rng 0 _ (by decide) (by decide)
  show zG n (114, 4080270) 300 311 (910, [zR 0, zR 8, zR 97, .inl i], [.inl x1, zR 8]) M _
  refine zG_call (by decide) hz zp_137 (hg _ _ rfl) rfl (Nat.le_of_ble_eq_true rfl) ⟨Nat.le_of_ble_eq_true rfl, Nat.le_of_ble_eq_true rfl⟩ (zG.andH (qm_137_8 (by decide) hJ.1 x1 (by omega)) (fh_137_8 x1)) (fun vr M1 hr => ?_)
  obtain ⟨⟨⟨hC1, hF1⟩, -⟩, rfl, hM1⟩ := hr
  have hi := hF1.hi rfl
  have hI := hJ.2.1.same hi
  have hc0 : ∀ j, M1 0 j = M 0 j := fun j => hF1 0 j (by decide)
  show zG n (114, 4080270) 300 311 (913, [zR 0, zR 8, zR 97, .inl i], [.inl (hf_137_8 M x1).1]) M1 _
  refine zG_blk (c' := (919, [zR 0, zR 8, zR 97, .inl i], [.inl (i + 1), zR 0, zR 97])) 6 (by decide) hz (zsteps_seg hg (by rw [show (.inl (i + 1) : zV) = .inl (w32 (i + 1)) from by rw [w32_id (by omega)]]; rfl)) ?_
  refine zG_iald (by decide) hz (hg _ _ rfl) rfl (.inr rfl) (by omega) ?_
  rw [show M1 0 (i + 1).toNat = x1 from (hc0 _).trans hx1.symm]
  show zG n (114, 4080270) 300 311 (920, [zR 0, zR 8, zR 97, .inl i], [.inl x1, zR 97]) M1 _
  refine zG_call (by decide) hz zp_209 (hg _ _ rfl) rfl (Nat.le_of_ble_eq_true rfl) ⟨Nat.le_of_ble_eq_true rfl, Nat.le_of_ble_eq_true rfl⟩ (zG.andH (qm_209_97 (by decide) hI x1 (by omega)) (fh_209_97 x1)) (fun vr M2 hr => ?_)
  obtain ⟨⟨⟨hC2, hF2⟩, -⟩, rfl, hM2⟩ := hr
  have hm := hm_137 hJ.2.2.1 hJ.1.tb hJ.2.1.bd (a1 := x1)
  rw [← hM1] at hm
  rw [← hM2] at hm
  have hJ2 : qJ M2 := hJ.mut hC1 hF1 rfl rfl hC2 hF2 rfl (by decide) hm.2
  show zG n (114, 4080270) 300 311 (923, [zR 0, zR 8, zR 97, .inl i], [.inl (hf_209_97 M1 x1).1]) M2 _
  refine zG_blk (c' := (2158, [zR 0, zR 8, zR 97, .inl i], [])) 2 (by decide) hz (zsteps_seg hg rfl) ?_
  exact K M2 hJ2
noncomputable def sg_15 : List zE := [(927, zi_28, 928, zx0),
  (928, zi_0, 929, zx0),
  (929, zi_1, 930, zx0),
  (930, zi_2, 931, zx0),
  (931, zi_4, 932, zx0),
  (932, zi_8, 933, zx0),
  (933, zi_0, 934, zx0),
  (934, zi_1, 935, zx0),
  (935, zi_11, 936, zx0),
  (936, zi_4, 937, zx0),
  (937, zi_8, 938, zx0),
  (938, zi_550, 941, (138, 3, 0, [11])),
  (941, zi_21, 942, zx0),
  (942, zi_39, 943, zx0),
  (943, zi_0, 944, zx0),
  (944, zi_1, 945, zx0),
  (945, zi_2, 946, zx0),
  (946, zi_4, 947, zx0),
  (947, zi_8, 948, zx0),
  (948, zi_0, 949, zx0),
  (949, zi_1, 950, zx0),
  (950, zi_11, 951, zx0),
  (951, zi_4, 952, zx0),
  (952, zi_8, 953, zx0),
  (953, zi_149, 956, (210, 3, 0, [12])),
  (956, zi_21, 957, zx0),
  (957, .goto (1201), 960, zx_8)]
set_option maxRecDepth 100000 in
theorem sh_15 : zSeg zk_L_law sg_15 := zSeg_of 615 27 927 (by decide +kernel) rfl (by decide +kernel)
set_option maxRecDepth 100000 in
theorem qL_15 (hJ : qJ M) (hn : n ≤ 4096) (hi : 0 ≤ i ∧ i + 8 ≤ n) (K : ∀ M', qJ M' → zG n (114, 4080270) 300 311 (2158, [zR 0, zR 8, zR 97, .inl i], []) M' qLQ) : zG n (114, 4080270) 300 311 (927, [zR 0, zR 8, zR 97, .inl i], []) M qLQ := by
  have hz := zp_311
  have hg := sh_15
  refine zG_blk (c' := (932, [zR 0, zR 8, zR 97, .inl i], [.inl (i + 1), zR 0, zR 8])) 5 (by decide) hz (zsteps_seg hg (by rw [show (.inl (i + 1) : zV) = .inl (w32 (i + 1)) from by rw [w32_id (by omega)]]; rfl)) ?_
  refine zG_iald (by decide) hz (hg _ _ rfl) rfl (.inr rfl) (by omega) ?_
  obtain ⟨x1, hx1⟩ : ∃ x : Int, x = M 0 (i + 1).toNat := ⟨_, rfl⟩
  rw [← hx1]
  have hr1 : qin x1 := by rw [hx1]; exact hJ.1.rng 0 _ (by decide) (by decide)
  show zG n (114, 4080270) 300 311 (933, [zR 0, zR 8, zR 97, .inl i], [.inl x1, zR 8]) M _
  refine zG_blk (c' := (937, [zR 0, zR 8, zR 97, .inl i], [.inl (i + 2), zR 0, .inl x1, zR 8])) 4 (by decide) hz (zsteps_seg hg (by rw [show (.inl (i + 2) : zV) = .inl (w32 (i + 2)) from by rw [w32_id (by omega)]]; rfl)) ?_
  refine zG_iald (by decide) hz (hg _ _ rfl) rfl (.inr rfl) (by omega) ?_
  obtain ⟨x2, hx2⟩ : ∃ x : Int, x = M 0 (i + 2).toNat := ⟨_, rfl⟩
  rw [← hx2]
  have hr2 : qin x2 := by rw [hx2]; exact hJ.1.rng 0 _ (by decide) (by decide)
  show zG n (114, 4080270) 300 311 (938, [zR 0, zR 8, zR 97, .inl i], [.inl x2, .inl x1, zR 8]) M _
  refine zG_call (by decide) hz zp_138 (hg _ _ rfl) rfl (Nat.le_of_ble_eq_true rfl) ⟨Nat.le_of_ble_eq_true rfl, Nat.le_of_ble_eq_true rfl⟩ (zG.andH (qm_138_8 (by decide) hJ.1 x1 (by omega) x2 (by omega)) (fh_138_8 x1 x2)) (fun vr M1 hr => ?_)
  obtain ⟨⟨hq, -⟩, rfl, -⟩ := hr
  replace hq := hq.symm; subst hq
  have hc0 : ∀ j, M 0 j = M 0 j := fun _ => rfl
  show zG n (114, 4080270) 300 311 (941, [zR 0, zR 8, zR 97, .inl i], [.inl (hf_138_8 M x1 x2)]) M _
  refine zG_blk (c' := (947, [zR 0, zR 8, zR 97, .inl i], [.inl (i + 1), zR 0, zR 97])) 6 (by decide) hz (zsteps_seg hg (by rw [show (.inl (i + 1) : zV) = .inl (w32 (i + 1)) from by rw [w32_id (by omega)]]; rfl)) ?_
  refine zG_iald (by decide) hz (hg _ _ rfl) rfl (.inr rfl) (by omega) ?_
  rw [show M 0 (i + 1).toNat = x1 from hx1.symm]
  show zG n (114, 4080270) 300 311 (948, [zR 0, zR 8, zR 97, .inl i], [.inl x1, zR 97]) M _
  refine zG_blk (c' := (952, [zR 0, zR 8, zR 97, .inl i], [.inl (i + 2), zR 0, .inl x1, zR 97])) 4 (by decide) hz (zsteps_seg hg (by rw [show (.inl (i + 2) : zV) = .inl (w32 (i + 2)) from by rw [w32_id (by omega)]]; rfl)) ?_
  refine zG_iald (by decide) hz (hg _ _ rfl) rfl (.inr rfl) (by omega) ?_
  rw [show M 0 (i + 2).toNat = x2 from hx2.symm]
  show zG n (114, 4080270) 300 311 (953, [zR 0, zR 8, zR 97, .inl i], [.inl x2, .inl x1, zR 97]) M _
  refine zG_call (by decide) hz zp_210 (hg _ _ rfl) rfl (Nat.le_of_ble_eq_true rfl) ⟨Nat.le_of_ble_eq_true rfl, Nat.le_of_ble_eq_true rfl⟩ (zG.andH (qm_210_97 (by decide) hJ.2.1 x1 (by omega) x2 (by omega)) (fh_210_97 x1 x2)) (fun vr M2 hr => ?_)
  obtain ⟨⟨hq, -⟩, rfl, -⟩ := hr
  replace hq := hq.symm; subst hq
  show zG n (114, 4080270) 300 311 (956, [zR 0, zR 8, zR 97, .inl i], [.inl (hf_210_97 M x1 x2)]) M _
  refine zG_blk (c' := (2158, [zR 0, zR 8, zR 97, .inl i], [])) 2 (by decide) hz (zsteps_seg hg rfl) ?_
  exact K M hJ
noncomputable def sg_16 : List zE := [(960, zi_28, 961, zx0),
  (961, zi_0, 962, zx0),
  (962, zi_1, 963, zx0),
  (963, zi_2, 964, zx0),
  (964, zi_4, 965, zx0),
  (965, zi_8, 966, zx0),
  (966, zi_0, 967, zx0),
  (967, zi_1, 968, zx0),
  (968, zi_11, 969, zx0),
  (969, zi_4, 970, zx0),
  (970, zi_8, 971, zx0),
  (971, zi_205, 974, (139, 3, 0, [11])),
  (974, zi_21, 975, zx0),
  (975, zi_39, 976, zx0),
  (976, zi_0, 977, zx0),
  (977, zi_1, 978, zx0),
  (978, zi_2, 979, zx0),
  (979, zi_4, 980, zx0),
  (980, zi_8, 981, zx0),
  (981, zi_0, 982, zx0),
  (982, zi_1, 983, zx0),
  (983, zi_11, 984, zx0),
  (984, zi_4, 985, zx0),
  (985, zi_8, 986, zx0),
  (986, .invokevirtual 87, 989, (212, 3, 0, [12])),
  (989, zi_21, 990, zx0),
  (990, .goto (1168), 993, zx_8)]
set_option maxRecDepth 100000 in
theorem sh_16 : zSeg zk_L_law sg_16 := zSeg_of 642 27 960 (by decide +kernel) rfl (by decide +kernel)
set_option maxRecDepth 100000 in
theorem qL_16 (hJ : qJ M) (hn : n ≤ 4096) (hi : 0 ≤ i ∧ i + 8 ≤ n) (K : ∀ M', qJ M' → zG n (114, 4080270) 300 311 (2158, [zR 0, zR 8, zR 97, .inl i], []) M' qLQ) : zG n (114, 4080270) 300 311 (960, [zR 0, zR 8, zR 97, .inl i], []) M qLQ := by
  have hz := zp_311
  have hg := sh_16
  refine zG_blk (c' := (965, [zR 0, zR 8, zR 97, .inl i], [.inl (i + 1), zR 0, zR 8])) 5 (by decide) hz (zsteps_seg hg (by rw [show (.inl (i + 1) : zV) = .inl (w32 (i + 1)) from by rw [w32_id (by omega)]]; rfl)) ?_
  refine zG_iald (by decide) hz (hg _ _ rfl) rfl (.inr rfl) (by omega) ?_
  obtain ⟨x1, hx1⟩ : ∃ x : Int, x = M 0 (i + 1).toNat := ⟨_, rfl⟩
  rw [← hx1]
  have hr1 : qin x1 := by rw [hx1]; exact hJ.1.rng 0 _ (by decide) (by decide)
  show zG n (114, 4080270) 300 311 (966, [zR 0, zR 8, zR 97, .inl i], [.inl x1, zR 8]) M _
  refine zG_blk (c' := (970, [zR 0, zR 8, zR 97, .inl i], [.inl (i + 2), zR 0, .inl x1, zR 8])) 4 (by decide) hz (zsteps_seg hg (by rw [show (.inl (i + 2) : zV) = .inl (w32 (i + 2)) from by rw [w32_id (by omega)]]; rfl)) ?_
  refine zG_iald (by decide) hz (hg _ _ rfl) rfl (.inr rfl) (by omega) ?_
  obtain ⟨x2, hx2⟩ : ∃ x : Int, x = M 0 (i + 2).toNat := ⟨_, rfl⟩
  rw [← hx2]
  have hr2 : qin x2 := by rw [hx2]; exact hJ.1.rng 0 _ (by decide) (by decide)
  show zG n (114, 4080270) 300 311 (971, [zR 0, zR 8, zR 97, .inl i], [.inl x2, .inl x1, zR 8]) M _
  refine zG_call (by decide) hz zp_139 (hg _ _ rfl) rfl (Nat.le_of_ble_eq_true rfl) ⟨Nat.le_of_ble_eq_true rfl, Nat.le_of_ble_eq_true rfl⟩ (qm_139_8 (by decide) hJ.1 x1 (by omega) x2 (by omega)) (fun vr M1 hr => ?_)
  obtain ⟨⟨hCM1, hFM1⟩, hr⟩ := hr
  have hJM1 : qJ M1 := hJ.cls hCM1 hFM1 rfl rfl
  have hc0 : ∀ j, M1 0 j = M 0 j := fun j => hFM1 0 j (by decide)
  obtain ⟨r1, rfl, -⟩ := hr
  show zG n (114, 4080270) 300 311 (974, [zR 0, zR 8, zR 97, .inl i], [.inl r1]) M1 _
  refine zG_blk (c' := (980, [zR 0, zR 8, zR 97, .inl i], [.inl (i + 1), zR 0, zR 97])) 6 (by decide) hz (zsteps_seg hg (by rw [show (.inl (i + 1) : zV) = .inl (w32 (i + 1)) from by rw [w32_id (by omega)]]; rfl)) ?_
  refine zG_iald (by decide) hz (hg _ _ rfl) rfl (.inr rfl) (by omega) ?_
  rw [show M1 0 (i + 1).toNat = x1 from (hc0 _).trans hx1.symm]
  show zG n (114, 4080270) 300 311 (981, [zR 0, zR 8, zR 97, .inl i], [.inl x1, zR 97]) M1 _
  refine zG_blk (c' := (985, [zR 0, zR 8, zR 97, .inl i], [.inl (i + 2), zR 0, .inl x1, zR 97])) 4 (by decide) hz (zsteps_seg hg (by rw [show (.inl (i + 2) : zV) = .inl (w32 (i + 2)) from by rw [w32_id (by omega)]]; rfl)) ?_
  refine zG_iald (by decide) hz (hg _ _ rfl) rfl (.inr rfl) (by omega) ?_
  rw [show M1 0 (i + 2).toNat = x2 from (hc0 _).trans hx2.symm]
  show zG n (114, 4080270) 300 311 (986, [zR 0, zR 8, zR 97, .inl i], [.inl x2, .inl x1, zR 97]) M1 _
  refine zG_call (by decide) hz zp_212 (hg _ _ rfl) rfl (Nat.le_of_ble_eq_true rfl) ⟨Nat.le_of_ble_eq_true rfl, Nat.le_of_ble_eq_true rfl⟩ (qm_212_97 (by decide) hJM1.2.1 x1 (by omega) x2 (by omega)) (fun vr M2 hr => ?_)
  obtain ⟨⟨hCM2, hFM2⟩, hr⟩ := hr
  have hJM2 : qJ M2 := hJM1.mdl hCM2 hFM2 rfl (by decide) (fun j _ _ _ _ => hFM2.ar 98 j (by decide) (by decide))
  obtain ⟨r2, hv9⟩ := hr
  first | (obtain ⟨rfl, -⟩ := hv9) | (obtain rfl := hv9)
  show zG n (114, 4080270) 300 311 (989, [zR 0, zR 8, zR 97, .inl i], [.inl r2]) M2 _
  refine zG_blk (c' := (2158, [zR 0, zR 8, zR 97, .inl i], [])) 2 (by decide) hz (zsteps_seg hg rfl) ?_
  exact K M2 hJM2
noncomputable def sg_17 : List zE := [(993, zi_28, 994, zx0),
  (994, zi_0, 995, zx0),
  (995, zi_1, 996, zx0),
  (996, zi_2, 997, zx0),
  (997, zi_4, 998, zx0),
  (998, zi_8, 999, zx0),
  (999, zi_0, 1000, zx0),
  (1000, zi_1, 1001, zx0),
  (1001, zi_11, 1002, zx0),
  (1002, zi_4, 1003, zx0),
  (1003, zi_8, 1004, zx0),
  (1004, zi_0, 1005, zx0),
  (1005, zi_1, 1006, zx0),
  (1006, zi_13, 1007, zx0),
  (1007, zi_4, 1008, zx0),
  (1008, zi_8, 1009, zx0),
  (1009, zi_390, 1012, (140, 4, 0, [11])),
  (1012, zi_21, 1013, zx0),
  (1013, zi_39, 1014, zx0),
  (1014, zi_0, 1015, zx0),
  (1015, zi_1, 1016, zx0),
  (1016, zi_2, 1017, zx0),
  (1017, zi_4, 1018, zx0),
  (1018, zi_8, 1019, zx0),
  (1019, zi_0, 1020, zx0),
  (1020, zi_1, 1021, zx0),
  (1021, zi_11, 1022, zx0),
  (1022, zi_4, 1023, zx0),
  (1023, zi_8, 1024, zx0),
  (1024, zi_0, 1025, zx0),
  (1025, zi_1, 1026, zx0),
  (1026, zi_13, 1027, zx0),
  (1027, zi_4, 1028, zx0),
  (1028, zi_8, 1029, zx0),
  (1029, zi_206, 1032, (217, 4, 0, [12])),
  (1032, zi_21, 1033, zx0),
  (1033, .goto (1125), 1036, zx_8)]
set_option maxRecDepth 100000 in
theorem sh_17 : zSeg zk_L_law sg_17 := zSeg_of 669 37 993 (by decide +kernel) rfl (by decide +kernel)
set_option maxRecDepth 100000 in
theorem qL_17 (hJ : qJ M) (hn : n ≤ 4096) (hi : 0 ≤ i ∧ i + 8 ≤ n) (K : ∀ M', qJ M' → zG n (114, 4080270) 300 311 (2158, [zR 0, zR 8, zR 97, .inl i], []) M' qLQ) : zG n (114, 4080270) 300 311 (993, [zR 0, zR 8, zR 97, .inl i], []) M qLQ := by
  have hz := zp_311
  have hg := sh_17
  refine zG_blk (c' := (998, [zR 0, zR 8, zR 97, .inl i], [.inl (i + 1), zR 0, zR 8])) 5 (by decide) hz (zsteps_seg hg (by rw [show (.inl (i + 1) : zV) = .inl (w32 (i + 1)) from by rw [w32_id (by omega)]]; rfl)) ?_
  refine zG_iald (by decide) hz (hg _ _ rfl) rfl (.inr rfl) (by omega) ?_
  obtain ⟨x1, hx1⟩ : ∃ x : Int, x = M 0 (i + 1).toNat := ⟨_, rfl⟩
  rw [← hx1]
  have hr1 : qin x1 := by rw [hx1]; exact hJ.1.rng 0 _ (by decide) (by decide)
  show zG n (114, 4080270) 300 311 (999, [zR 0, zR 8, zR 97, .inl i], [.inl x1, zR 8]) M _
  refine zG_blk (c' := (1003, [zR 0, zR 8, zR 97, .inl i], [.inl (i + 2), zR 0, .inl x1, zR 8])) 4 (by decide) hz (zsteps_seg hg (by rw [show (.inl (i + 2) : zV) = .inl (w32 (i + 2)) from by rw [w32_id (by omega)]]; rfl)) ?_
  refine zG_iald (by decide) hz (hg _ _ rfl) rfl (.inr rfl) (by omega) ?_
  obtain ⟨x2, hx2⟩ : ∃ x : Int, x = M 0 (i + 2).toNat := ⟨_, rfl⟩
  rw [← hx2]
  have hr2 : qin x2 := by rw [hx2]; exact hJ.1.rng 0 _ (by decide) (by decide)
  show zG n (114, 4080270) 300 311 (1004, [zR 0, zR 8, zR 97, .inl i], [.inl x2, .inl x1, zR 8]) M _
  refine zG_blk (c' := (1008, [zR 0, zR 8, zR 97, .inl i], [.inl (i + 3), zR 0, .inl x2, .inl x1, zR 8])) 4 (by decide) hz (zsteps_seg hg (by rw [show (.inl (i + 3) : zV) = .inl (w32 (i + 3)) from by rw [w32_id (by omega)]]; rfl)) ?_
  refine zG_iald (by decide) hz (hg _ _ rfl) rfl (.inr rfl) (by omega) ?_
  obtain ⟨x3, hx3⟩ : ∃ x : Int, x = M 0 (i + 3).toNat := ⟨_, rfl⟩
  rw [← hx3]
  have hr3 : qin x3 := by rw [hx3]; exact hJ.1.rng 0 _ (by decide) (by decide)
  show zG n (114, 4080270) 300 311 (1009, [zR 0, zR 8, zR 97, .inl i], [.inl x3, .inl x2, .inl x1, zR 8]) M _
  refine zG_call (by decide) hz zp_140 (hg _ _ rfl) rfl (Nat.le_of_ble_eq_true rfl) ⟨Nat.le_of_ble_eq_true rfl, Nat.le_of_ble_eq_true rfl⟩ (qm_140_8 (by decide) hJ.1 x1 (by omega) x2 (by omega) x3 (by omega)) (fun vr M1 hr => ?_)
  obtain ⟨⟨hCM1, hFM1⟩, hr⟩ := hr
  have hJM1 : qJ M1 := hJ.cls hCM1 hFM1 rfl rfl
  have hc0 : ∀ j, M1 0 j = M 0 j := fun j => hFM1 0 j (by decide)
  obtain ⟨r1, rfl, -⟩ := hr
  show zG n (114, 4080270) 300 311 (1012, [zR 0, zR 8, zR 97, .inl i], [.inl r1]) M1 _
  refine zG_blk (c' := (1018, [zR 0, zR 8, zR 97, .inl i], [.inl (i + 1), zR 0, zR 97])) 6 (by decide) hz (zsteps_seg hg (by rw [show (.inl (i + 1) : zV) = .inl (w32 (i + 1)) from by rw [w32_id (by omega)]]; rfl)) ?_
  refine zG_iald (by decide) hz (hg _ _ rfl) rfl (.inr rfl) (by omega) ?_
  rw [show M1 0 (i + 1).toNat = x1 from (hc0 _).trans hx1.symm]
  show zG n (114, 4080270) 300 311 (1019, [zR 0, zR 8, zR 97, .inl i], [.inl x1, zR 97]) M1 _
  refine zG_blk (c' := (1023, [zR 0, zR 8, zR 97, .inl i], [.inl (i + 2), zR 0, .inl x1, zR 97])) 4 (by decide) hz (zsteps_seg hg (by rw [show (.inl (i + 2) : zV) = .inl (w32 (i + 2)) from by rw [w32_id (by omega)]]; rfl)) ?_
  refine zG_iald (by decide) hz (hg _ _ rfl) rfl (.inr rfl) (by omega) ?_
  rw [show M1 0 (i + 2).toNat = x2 from (hc0 _).trans hx2.symm]
  show zG n (114, 4080270) 300 311 (1024, [zR 0, zR 8, zR 97, .inl i], [.inl x2, .inl x1, zR 97]) M1 _
  refine zG_blk (c' := (1028, [zR 0, zR 8, zR 97, .inl i], [.inl (i + 3), zR 0, .inl x2, .inl x1, zR 97])) 4 (by decide) hz (zsteps_seg hg (by rw [show (.inl (i + 3) : zV) = .inl (w32 (i + 3)) from by rw [w32_id (by omega)]]; rfl)) ?_
  refine zG_iald (by decide) hz (hg _ _ rfl) rfl (.inr rfl) (by omega) ?_
  rw [show M1 0 (i + 3).toNat = x3 from (hc0 _).trans hx3.symm]
  show zG n (114, 4080270) 300 311 (1029, [zR 0, zR 8, zR 97, .inl i], [.inl x3, .inl x2, .inl x1, zR 97]) M1 _
  refine zG_call (by decide) hz zp_217 (hg _ _ rfl) rfl (Nat.le_of_ble_eq_true rfl) ⟨Nat.le_of_ble_eq_true rfl, Nat.le_of_ble_eq_true rfl⟩ (qm_217_97 (by decide) hJM1.2.1 x1 (by omega) x2 (by omega) x3 (by omega)) (fun vr M2 hr => ?_)
  obtain ⟨⟨hCM2, hFM2⟩, hr⟩ := hr
  have hJM2 : qJ M2 := hJM1.mdl hCM2 hFM2 rfl (by decide) (fun j _ _ _ _ => hFM2.ar 98 j (by decide) (by decide))
  obtain ⟨r2, hv9⟩ := hr
  first | (obtain ⟨rfl, -⟩ := hv9) | (obtain rfl := hv9)
  show zG n (114, 4080270) 300 311 (1032, [zR 0, zR 8, zR 97, .inl i], [.inl r2]) M2 _
  refine zG_blk (c' := (2158, [zR 0, zR 8, zR 97, .inl i], [])) 2 (by decide) hz (zsteps_seg hg rfl) ?_
  exact K M2 hJM2
noncomputable def sg_18 : List zE := [(1036, zi_28, 1037, zx0),
  (1037, zi_0, 1038, zx0),
  (1038, zi_1, 1039, zx0),
  (1039, zi_2, 1040, zx0),
  (1040, zi_4, 1041, zx0),
  (1041, zi_8, 1042, zx0),
  (1042, zi_0, 1043, zx0),
  (1043, zi_1, 1044, zx0),
  (1044, zi_11, 1045, zx0),
  (1045, zi_4, 1046, zx0),
  (1046, zi_8, 1047, zx0),
  (1047, zi_0, 1048, zx0),
  (1048, zi_1, 1049, zx0),
  (1049, zi_13, 1050, zx0),
  (1050, zi_4, 1051, zx0),
  (1051, zi_8, 1052, zx0),
  (1052, zi_0, 1053, zx0),
  (1053, zi_1, 1054, zx0),
  (1054, zi_17, 1055, zx0),
  (1055, zi_4, 1056, zx0),
  (1056, zi_8, 1057, zx0),
  (1057, zi_302, 1060, (141, 5, 0, [11])),
  (1060, zi_21, 1061, zx0),
  (1061, zi_39, 1062, zx0),
  (1062, zi_0, 1063, zx0),
  (1063, zi_1, 1064, zx0),
  (1064, zi_2, 1065, zx0),
  (1065, zi_4, 1066, zx0),
  (1066, zi_8, 1067, zx0),
  (1067, zi_0, 1068, zx0),
  (1068, zi_1, 1069, zx0),
  (1069, zi_11, 1070, zx0),
  (1070, zi_4, 1071, zx0),
  (1071, zi_8, 1072, zx0),
  (1072, zi_0, 1073, zx0),
  (1073, zi_1, 1074, zx0),
  (1074, zi_13, 1075, zx0),
  (1075, zi_4, 1076, zx0),
  (1076, zi_8, 1077, zx0),
  (1077, zi_0, 1078, zx0),
  (1078, zi_1, 1079, zx0),
  (1079, zi_17, 1080, zx0),
  (1080, zi_4, 1081, zx0),
  (1081, zi_8, 1082, zx0),
  (1082, zi_498, 1085, (219, 5, 0, [12])),
  (1085, zi_21, 1086, zx0),
  (1086, .goto (1072), 1089, zx_8)]
set_option maxRecDepth 100000 in
theorem sh_18 : zSeg zk_L_law sg_18 := zSeg_of 706 47 1036 (by decide +kernel) rfl (by decide +kernel)
set_option maxRecDepth 100000 in
theorem qL_18 (hJ : qJ M) (hn : n ≤ 4096) (hi : 0 ≤ i ∧ i + 8 ≤ n) (K : ∀ M', qJ M' → zG n (114, 4080270) 300 311 (2158, [zR 0, zR 8, zR 97, .inl i], []) M' qLQ) : zG n (114, 4080270) 300 311 (1036, [zR 0, zR 8, zR 97, .inl i], []) M qLQ := by
  have hz := zp_311
  have hg := sh_18
  refine zG_blk (c' := (1041, [zR 0, zR 8, zR 97, .inl i], [.inl (i + 1), zR 0, zR 8])) 5 (by decide) hz (zsteps_seg hg (by rw [show (.inl (i + 1) : zV) = .inl (w32 (i + 1)) from by rw [w32_id (by omega)]]; rfl)) ?_
  refine zG_iald (by decide) hz (hg _ _ rfl) rfl (.inr rfl) (by omega) ?_
  obtain ⟨x1, hx1⟩ : ∃ x : Int, x = M 0 (i + 1).toNat := ⟨_, rfl⟩
  rw [← hx1]
  have hr1 : qin x1 := by rw [hx1]; exact hJ.1.rng 0 _ (by decide) (by decide)
  show zG n (114, 4080270) 300 311 (1042, [zR 0, zR 8, zR 97, .inl i], [.inl x1, zR 8]) M _
  refine zG_blk (c' := (1046, [zR 0, zR 8, zR 97, .inl i], [.inl (i + 2), zR 0, .inl x1, zR 8])) 4 (by decide) hz (zsteps_seg hg (by rw [show (.inl (i + 2) : zV) = .inl (w32 (i + 2)) from by rw [w32_id (by omega)]]; rfl)) ?_
  refine zG_iald (by decide) hz (hg _ _ rfl) rfl (.inr rfl) (by omega) ?_
  obtain ⟨x2, hx2⟩ : ∃ x : Int, x = M 0 (i + 2).toNat := ⟨_, rfl⟩
  rw [← hx2]
  have hr2 : qin x2 := by rw [hx2]; exact hJ.1.rng 0 _ (by decide) (by decide)
  show zG n (114, 4080270) 300 311 (1047, [zR 0, zR 8, zR 97, .inl i], [.inl x2, .inl x1, zR 8]) M _
  refine zG_blk (c' := (1051, [zR 0, zR 8, zR 97, .inl i], [.inl (i + 3), zR 0, .inl x2, .inl x1, zR 8])) 4 (by decide) hz (zsteps_seg hg (by rw [show (.inl (i + 3) : zV) = .inl (w32 (i + 3)) from by rw [w32_id (by omega)]]; rfl)) ?_
  refine zG_iald (by decide) hz (hg _ _ rfl) rfl (.inr rfl) (by omega) ?_
  obtain ⟨x3, hx3⟩ : ∃ x : Int, x = M 0 (i + 3).toNat := ⟨_, rfl⟩
  rw [← hx3]
  have hr3 : qin x3 := by rw [hx3]; exact hJ.1.rng 0 _ (by decide) (by decide)
  show zG n (114, 4080270) 300 311 (1052, [zR 0, zR 8, zR 97, .inl i], [.inl x3, .inl x2, .inl x1, zR 8]) M _
  refine zG_blk (c' := (1056, [zR 0, zR 8, zR 97, .inl i], [.inl (i + 4), zR 0, .inl x3, .inl x2, .inl x1, zR 8])) 4 (by decide) hz (zsteps_seg hg (by rw [show (.inl (i + 4) : zV) = .inl (w32 (i + 4)) from by rw [w32_id (by omega)]]; rfl)) ?_
  refine zG_iald (by decide) hz (hg _ _ rfl) rfl (.inr rfl) (by omega) ?_
  obtain ⟨x4, hx4⟩ : ∃ x : Int, x = M 0 (i + 4).toNat := ⟨_, rfl⟩
  rw [← hx4]
  have hr4 : qin x4 := by rw [hx4]; exact hJ.1.rng 0 _ (by decide) (by decide)
  show zG n (114, 4080270) 300 311 (1057, [zR 0, zR 8, zR 97, .inl i], [.inl x4, .inl x3, .inl x2, .inl x1, zR 8]) M _
  refine zG_call (by decide) hz zp_141 (hg _ _ rfl) rfl (Nat.le_of_ble_eq_true rfl) ⟨Nat.le_of_ble_eq_true rfl, Nat.le_of_ble_eq_true rfl⟩ (qm_141_8 (by decide) hJ.1 x1 (by omega) x2 (by omega) x3 (by omega) x4 (by omega)) (fun vr M1 hr => ?_)
  obtain ⟨⟨hCM1, hFM1⟩, hr⟩ := hr
  have hJM1 : qJ M1 := hJ.cls hCM1 hFM1 rfl rfl
  have hc0 : ∀ j, M1 0 j = M 0 j := fun j => hFM1 0 j (by decide)
  obtain ⟨r1, rfl, -⟩ := hr
  show zG n (114, 4080270) 300 311 (1060, [zR 0, zR 8, zR 97, .inl i], [.inl r1]) M1 _
  refine zG_blk (c' := (1066, [zR 0, zR 8, zR 97, .inl i], [.inl (i + 1), zR 0, zR 97])) 6 (by decide) hz (zsteps_seg hg (by rw [show (.inl (i + 1) : zV) = .inl (w32 (i + 1)) from by rw [w32_id (by omega)]]; rfl)) ?_
  refine zG_iald (by decide) hz (hg _ _ rfl) rfl (.inr rfl) (by omega) ?_
  rw [show M1 0 (i + 1).toNat = x1 from (hc0 _).trans hx1.symm]
  show zG n (114, 4080270) 300 311 (1067, [zR 0, zR 8, zR 97, .inl i], [.inl x1, zR 97]) M1 _
  refine zG_blk (c' := (1071, [zR 0, zR 8, zR 97, .inl i], [.inl (i + 2), zR 0, .inl x1, zR 97])) 4 (by decide) hz (zsteps_seg hg (by rw [show (.inl (i + 2) : zV) = .inl (w32 (i + 2)) from by rw [w32_id (by omega)]]; rfl)) ?_
  refine zG_iald (by decide) hz (hg _ _ rfl) rfl (.inr rfl) (by omega) ?_
  rw [show M1 0 (i + 2).toNat = x2 from (hc0 _).trans hx2.symm]
  show zG n (114, 4080270) 300 311 (1072, [zR 0, zR 8, zR 97, .inl i], [.inl x2, .inl x1, zR 97]) M1 _
  refine zG_blk (c' := (1076, [zR 0, zR 8, zR 97, .inl i], [.inl (i + 3), zR 0, .inl x2, .inl x1, zR 97])) 4 (by decide) hz (zsteps_seg hg (by rw [show (.inl (i + 3) : zV) = .inl (w32 (i + 3)) from by rw [w32_id (by omega)]]; rfl)) ?_
  refine zG_iald (by decide) hz (hg _ _ rfl) rfl (.inr rfl) (by omega) ?_
  rw [show M1 0 (i + 3).toNat = x3 from (hc0 _).trans hx3.symm]
  show zG n (114, 4080270) 300 311 (1077, [zR 0, zR 8, zR 97, .inl i], [.inl x3, .inl x2, .inl x1, zR 97]) M1 _
  refine zG_blk (c' := (1081, [zR 0, zR 8, zR 97, .inl i], [.inl (i + 4), zR 0, .inl x3, .inl x2, .inl x1, zR 97])) 4 (by decide) hz (zsteps_seg hg (by rw [show (.inl (i + 4) : zV) = .inl (w32 (i + 4)) from by rw [w32_id (by omega)]]; rfl)) ?_
  refine zG_iald (by decide) hz (hg _ _ rfl) rfl (.inr rfl) (by omega) ?_
  rw [show M1 0 (i + 4).toNat = x4 from (hc0 _).trans hx4.symm]
  show zG n (114, 4080270) 300 311 (1082, [zR 0, zR 8, zR 97, .inl i], [.inl x4, .inl x3, .inl x2, .inl x1, zR 97]) M1 _
  refine zG_call (by decide) hz zp_219 (hg _ _ rfl) rfl (Nat.le_of_ble_eq_true rfl) ⟨Nat.le_of_ble_eq_true rfl, Nat.le_of_ble_eq_true rfl⟩ (qm_219_97 (by decide) hJM1.2.1 x1 (by omega) x2 (by omega) x3 (by omega) x4 (by omega)) (fun vr M2 hr => ?_)
  obtain ⟨⟨hCM2, hFM2⟩, hr⟩ := hr
  have hJM2 : qJ M2 := hJM1.mdl hCM2 hFM2 rfl (by decide) (fun j _ _ _ _ => hFM2.ar 98 j (by decide) (by decide))
  obtain ⟨r2, hv9⟩ := hr
  first | (obtain ⟨rfl, -⟩ := hv9) | (obtain rfl := hv9)
  show zG n (114, 4080270) 300 311 (1085, [zR 0, zR 8, zR 97, .inl i], [.inl r2]) M2 _
  refine zG_blk (c' := (2158, [zR 0, zR 8, zR 97, .inl i], [])) 2 (by decide) hz (zsteps_seg hg rfl) ?_
  exact K M2 hJM2
noncomputable def sg_19 : List zE := [(1089, zi_28, 1090, zx0),
  (1090, zi_0, 1091, zx0),
  (1091, zi_1, 1092, zx0),
  (1092, zi_2, 1093, zx0),
  (1093, zi_4, 1094, zx0),
  (1094, zi_8, 1095, zx0),
  (1095, zi_0, 1096, zx0),
  (1096, zi_1, 1097, zx0),
  (1097, zi_11, 1098, zx0),
  (1098, zi_4, 1099, zx0),
  (1099, zi_8, 1100, zx0),
  (1100, zi_0, 1101, zx0),
  (1101, zi_1, 1102, zx0),
  (1102, zi_13, 1103, zx0),
  (1103, zi_4, 1104, zx0),
  (1104, zi_8, 1105, zx0),
  (1105, .invokevirtual 96, 1108, (142, 4, 0, [11])),
  (1108, zi_21, 1109, zx0),
  (1109, zi_39, 1110, zx0),
  (1110, zi_0, 1111, zx0),
  (1111, zi_1, 1112, zx0),
  (1112, zi_2, 1113, zx0),
  (1113, zi_4, 1114, zx0),
  (1114, zi_8, 1115, zx0),
  (1115, zi_0, 1116, zx0),
  (1116, zi_1, 1117, zx0),
  (1117, zi_11, 1118, zx0),
  (1118, zi_4, 1119, zx0),
  (1119, zi_8, 1120, zx0),
  (1120, zi_0, 1121, zx0),
  (1121, zi_1, 1122, zx0),
  (1122, zi_13, 1123, zx0),
  (1123, zi_4, 1124, zx0),
  (1124, zi_8, 1125, zx0),
  (1125, zi_500, 1128, (246, 4, 0, [12])),
  (1128, zi_21, 1129, zx0),
  (1129, .goto (1029), 1132, zx_8)]
set_option maxRecDepth 100000 in
theorem sh_19 : zSeg zk_L_law sg_19 := zSeg_of 753 37 1089 (by decide +kernel) rfl (by decide +kernel)
set_option maxRecDepth 100000 in
theorem qL_19 (hJ : qJ M) (hn : n ≤ 4096) (hi : 0 ≤ i ∧ i + 8 ≤ n) (K : ∀ M', qJ M' → zG n (114, 4080270) 300 311 (2158, [zR 0, zR 8, zR 97, .inl i], []) M' qLQ) : zG n (114, 4080270) 300 311 (1089, [zR 0, zR 8, zR 97, .inl i], []) M qLQ := by
  have hz := zp_311
  have hg := sh_19
  refine zG_blk (c' := (1094, [zR 0, zR 8, zR 97, .inl i], [.inl (i + 1), zR 0, zR 8])) 5 (by decide) hz (zsteps_seg hg (by rw [show (.inl (i + 1) : zV) = .inl (w32 (i + 1)) from by rw [w32_id (by omega)]]; rfl)) ?_
  refine zG_iald (by decide) hz (hg _ _ rfl) rfl (.inr rfl) (by omega) ?_
  obtain ⟨x1, hx1⟩ : ∃ x : Int, x = M 0 (i + 1).toNat := ⟨_, rfl⟩
  rw [← hx1]
  have hr1 : qin x1 := by rw [hx1]; exact hJ.1.rng 0 _ (by decide) (by decide)
  show zG n (114, 4080270) 300 311 (1095, [zR 0, zR 8, zR 97, .inl i], [.inl x1, zR 8]) M _
  refine zG_blk (c' := (1099, [zR 0, zR 8, zR 97, .inl i], [.inl (i + 2), zR 0, .inl x1, zR 8])) 4 (by decide) hz (zsteps_seg hg (by rw [show (.inl (i + 2) : zV) = .inl (w32 (i + 2)) from by rw [w32_id (by omega)]]; rfl)) ?_
  refine zG_iald (by decide) hz (hg _ _ rfl) rfl (.inr rfl) (by omega) ?_
  obtain ⟨x2, hx2⟩ : ∃ x : Int, x = M 0 (i + 2).toNat := ⟨_, rfl⟩
  rw [← hx2]
  have hr2 : qin x2 := by rw [hx2]; exact hJ.1.rng 0 _ (by decide) (by decide)
  show zG n (114, 4080270) 300 311 (1100, [zR 0, zR 8, zR 97, .inl i], [.inl x2, .inl x1, zR 8]) M _
  refine zG_blk (c' := (1104, [zR 0, zR 8, zR 97, .inl i], [.inl (i + 3), zR 0, .inl x2, .inl x1, zR 8])) 4 (by decide) hz (zsteps_seg hg (by rw [show (.inl (i + 3) : zV) = .inl (w32 (i + 3)) from by rw [w32_id (by omega)]]; rfl)) ?_
  refine zG_iald (by decide) hz (hg _ _ rfl) rfl (.inr rfl) (by omega) ?_
  obtain ⟨x3, hx3⟩ : ∃ x : Int, x = M 0 (i + 3).toNat := ⟨_, rfl⟩
  rw [← hx3]
  have hr3 : qin x3 := by rw [hx3]; exact hJ.1.rng 0 _ (by decide) (by decide)
  show zG n (114, 4080270) 300 311 (1105, [zR 0, zR 8, zR 97, .inl i], [.inl x3, .inl x2, .inl x1, zR 8]) M _
  refine zG_call (by decide) hz zp_142 (hg _ _ rfl) rfl (Nat.le_of_ble_eq_true rfl) ⟨Nat.le_of_ble_eq_true rfl, Nat.le_of_ble_eq_true rfl⟩ (qm_142_8 (by decide) hJ.1 x1 (by omega) x2 (by omega) x3 (by omega)) (fun vr M1 hr => ?_)
  obtain ⟨⟨hCM1, hFM1⟩, hr⟩ := hr
  have hJM1 : qJ M1 := hJ.cls hCM1 hFM1 rfl rfl
  have hc0 : ∀ j, M1 0 j = M 0 j := fun j => hFM1 0 j (by decide)
  obtain ⟨r1, rfl, -⟩ := hr
  show zG n (114, 4080270) 300 311 (1108, [zR 0, zR 8, zR 97, .inl i], [.inl r1]) M1 _
  refine zG_blk (c' := (1114, [zR 0, zR 8, zR 97, .inl i], [.inl (i + 1), zR 0, zR 97])) 6 (by decide) hz (zsteps_seg hg (by rw [show (.inl (i + 1) : zV) = .inl (w32 (i + 1)) from by rw [w32_id (by omega)]]; rfl)) ?_
  refine zG_iald (by decide) hz (hg _ _ rfl) rfl (.inr rfl) (by omega) ?_
  rw [show M1 0 (i + 1).toNat = x1 from (hc0 _).trans hx1.symm]
  show zG n (114, 4080270) 300 311 (1115, [zR 0, zR 8, zR 97, .inl i], [.inl x1, zR 97]) M1 _
  refine zG_blk (c' := (1119, [zR 0, zR 8, zR 97, .inl i], [.inl (i + 2), zR 0, .inl x1, zR 97])) 4 (by decide) hz (zsteps_seg hg (by rw [show (.inl (i + 2) : zV) = .inl (w32 (i + 2)) from by rw [w32_id (by omega)]]; rfl)) ?_
  refine zG_iald (by decide) hz (hg _ _ rfl) rfl (.inr rfl) (by omega) ?_
  rw [show M1 0 (i + 2).toNat = x2 from (hc0 _).trans hx2.symm]
  show zG n (114, 4080270) 300 311 (1120, [zR 0, zR 8, zR 97, .inl i], [.inl x2, .inl x1, zR 97]) M1 _
  refine zG_blk (c' := (1124, [zR 0, zR 8, zR 97, .inl i], [.inl (i + 3), zR 0, .inl x2, .inl x1, zR 97])) 4 (by decide) hz (zsteps_seg hg (by rw [show (.inl (i + 3) : zV) = .inl (w32 (i + 3)) from by rw [w32_id (by omega)]]; rfl)) ?_
  refine zG_iald (by decide) hz (hg _ _ rfl) rfl (.inr rfl) (by omega) ?_
  rw [show M1 0 (i + 3).toNat = x3 from (hc0 _).trans hx3.symm]
  show zG n (114, 4080270) 300 311 (1125, [zR 0, zR 8, zR 97, .inl i], [.inl x3, .inl x2, .inl x1, zR 97]) M1 _
  refine zG_call (by decide) hz zp_246 (hg _ _ rfl) rfl (Nat.le_of_ble_eq_true rfl) ⟨Nat.le_of_ble_eq_true rfl, Nat.le_of_ble_eq_true rfl⟩ (qm_246_97 (by decide) hJM1.2.1 x1 (by omega) x2 (by omega) x3 (by omega)) (fun vr M2 hr => ?_)
  obtain ⟨⟨hCM2, hFM2⟩, hr⟩ := hr
  have hJM2 : qJ M2 := hJM1.mdl hCM2 hFM2 rfl (by decide) (fun j _ _ _ _ => hFM2.ar 98 j (by decide) (by decide))
  obtain ⟨r2, hv9⟩ := hr
  first | (obtain ⟨rfl, -⟩ := hv9) | (obtain rfl := hv9)
  show zG n (114, 4080270) 300 311 (1128, [zR 0, zR 8, zR 97, .inl i], [.inl r2]) M2 _
  refine zG_blk (c' := (2158, [zR 0, zR 8, zR 97, .inl i], [])) 2 (by decide) hz (zsteps_seg hg rfl) ?_
  exact K M2 hJM2
noncomputable def sg_20 : List zE := [(1132, zi_28, 1133, zx0),
  (1133, zi_0, 1134, zx0),
  (1134, zi_1, 1135, zx0),
  (1135, zi_2, 1136, zx0),
  (1136, zi_4, 1137, zx0),
  (1137, zi_8, 1138, zx0),
  (1138, zi_0, 1139, zx0),
  (1139, zi_1, 1140, zx0),
  (1140, zi_11, 1141, zx0),
  (1141, zi_4, 1142, zx0),
  (1142, zi_8, 1143, zx0),
  (1143, zi_0, 1144, zx0),
  (1144, zi_1, 1145, zx0),
  (1145, zi_13, 1146, zx0),
  (1146, zi_4, 1147, zx0),
  (1147, zi_8, 1148, zx0),
  (1148, zi_391, 1151, (143, 4, 0, [11])),
  (1151, zi_21, 1152, zx0),
  (1152, zi_39, 1153, zx0),
  (1153, zi_0, 1154, zx0),
  (1154, zi_1, 1155, zx0),
  (1155, zi_2, 1156, zx0),
  (1156, zi_4, 1157, zx0),
  (1157, zi_8, 1158, zx0),
  (1158, zi_0, 1159, zx0),
  (1159, zi_1, 1160, zx0),
  (1160, zi_11, 1161, zx0),
  (1161, zi_4, 1162, zx0),
  (1162, zi_8, 1163, zx0),
  (1163, zi_0, 1164, zx0),
  (1164, zi_1, 1165, zx0),
  (1165, zi_13, 1166, zx0),
  (1166, zi_4, 1167, zx0),
  (1167, zi_8, 1168, zx0),
  (1168, .invokevirtual 103, 1171, (247, 4, 0, [12])),
  (1171, zi_21, 1172, zx0),
  (1172, .goto (986), 1175, zx_8)]
set_option maxRecDepth 100000 in
theorem sh_20 : zSeg zk_L_law sg_20 := zSeg_of 790 37 1132 (by decide +kernel) rfl (by decide +kernel)
set_option maxRecDepth 100000 in
theorem qL_20 (hJ : qJ M) (hn : n ≤ 4096) (hi : 0 ≤ i ∧ i + 8 ≤ n) (K : ∀ M', qJ M' → zG n (114, 4080270) 300 311 (2158, [zR 0, zR 8, zR 97, .inl i], []) M' qLQ) : zG n (114, 4080270) 300 311 (1132, [zR 0, zR 8, zR 97, .inl i], []) M qLQ := by
  have hz := zp_311
  have hg := sh_20
  refine zG_blk (c' := (1137, [zR 0, zR 8, zR 97, .inl i], [.inl (i + 1), zR 0, zR 8])) 5 (by decide) hz (zsteps_seg hg (by rw [show (.inl (i + 1) : zV) = .inl (w32 (i + 1)) from by rw [w32_id (by omega)]]; rfl)) ?_
  refine zG_iald (by decide) hz (hg _ _ rfl) rfl (.inr rfl) (by omega) ?_
  obtain ⟨x1, hx1⟩ : ∃ x : Int, x = M 0 (i + 1).toNat := ⟨_, rfl⟩
  rw [← hx1]
  have hr1 : qin x1 := by rw [hx1]; exact hJ.1.rng 0 _ (by decide) (by decide)
  show zG n (114, 4080270) 300 311 (1138, [zR 0, zR 8, zR 97, .inl i], [.inl x1, zR 8]) M _
  refine zG_blk (c' := (1142, [zR 0, zR 8, zR 97, .inl i], [.inl (i + 2), zR 0, .inl x1, zR 8])) 4 (by decide) hz (zsteps_seg hg (by rw [show (.inl (i + 2) : zV) = .inl (w32 (i + 2)) from by rw [w32_id (by omega)]]; rfl)) ?_
  refine zG_iald (by decide) hz (hg _ _ rfl) rfl (.inr rfl) (by omega) ?_
  obtain ⟨x2, hx2⟩ : ∃ x : Int, x = M 0 (i + 2).toNat := ⟨_, rfl⟩
  rw [← hx2]
  have hr2 : qin x2 := by rw [hx2]; exact hJ.1.rng 0 _ (by decide) (by decide)
  show zG n (114, 4080270) 300 311 (1143, [zR 0, zR 8, zR 97, .inl i], [.inl x2, .inl x1, zR 8]) M _
  refine zG_blk (c' := (1147, [zR 0, zR 8, zR 97, .inl i], [.inl (i + 3), zR 0, .inl x2, .inl x1, zR 8])) 4 (by decide) hz (zsteps_seg hg (by rw [show (.inl (i + 3) : zV) = .inl (w32 (i + 3)) from by rw [w32_id (by omega)]]; rfl)) ?_
  refine zG_iald (by decide) hz (hg _ _ rfl) rfl (.inr rfl) (by omega) ?_
  obtain ⟨x3, hx3⟩ : ∃ x : Int, x = M 0 (i + 3).toNat := ⟨_, rfl⟩
  rw [← hx3]
  have hr3 : qin x3 := by rw [hx3]; exact hJ.1.rng 0 _ (by decide) (by decide)
  show zG n (114, 4080270) 300 311 (1148, [zR 0, zR 8, zR 97, .inl i], [.inl x3, .inl x2, .inl x1, zR 8]) M _
  refine zG_call (by decide) hz zp_143 (hg _ _ rfl) rfl (Nat.le_of_ble_eq_true rfl) ⟨Nat.le_of_ble_eq_true rfl, Nat.le_of_ble_eq_true rfl⟩ (qm_143_8 (by decide) hJ.1 x1 (by omega) x2 (by omega) x3 (by omega)) (fun vr M1 hr => ?_)
  obtain ⟨⟨hCM1, hFM1⟩, hr⟩ := hr
  have hJM1 : qJ M1 := hJ.cls hCM1 hFM1 rfl rfl
  have hc0 : ∀ j, M1 0 j = M 0 j := fun j => hFM1 0 j (by decide)
  obtain ⟨r1, rfl, -⟩ := hr
  show zG n (114, 4080270) 300 311 (1151, [zR 0, zR 8, zR 97, .inl i], [.inl r1]) M1 _
  refine zG_blk (c' := (1157, [zR 0, zR 8, zR 97, .inl i], [.inl (i + 1), zR 0, zR 97])) 6 (by decide) hz (zsteps_seg hg (by rw [show (.inl (i + 1) : zV) = .inl (w32 (i + 1)) from by rw [w32_id (by omega)]]; rfl)) ?_
  refine zG_iald (by decide) hz (hg _ _ rfl) rfl (.inr rfl) (by omega) ?_
  rw [show M1 0 (i + 1).toNat = x1 from (hc0 _).trans hx1.symm]
  show zG n (114, 4080270) 300 311 (1158, [zR 0, zR 8, zR 97, .inl i], [.inl x1, zR 97]) M1 _
  refine zG_blk (c' := (1162, [zR 0, zR 8, zR 97, .inl i], [.inl (i + 2), zR 0, .inl x1, zR 97])) 4 (by decide) hz (zsteps_seg hg (by rw [show (.inl (i + 2) : zV) = .inl (w32 (i + 2)) from by rw [w32_id (by omega)]]; rfl)) ?_
  refine zG_iald (by decide) hz (hg _ _ rfl) rfl (.inr rfl) (by omega) ?_
  rw [show M1 0 (i + 2).toNat = x2 from (hc0 _).trans hx2.symm]
  show zG n (114, 4080270) 300 311 (1163, [zR 0, zR 8, zR 97, .inl i], [.inl x2, .inl x1, zR 97]) M1 _
  refine zG_blk (c' := (1167, [zR 0, zR 8, zR 97, .inl i], [.inl (i + 3), zR 0, .inl x2, .inl x1, zR 97])) 4 (by decide) hz (zsteps_seg hg (by rw [show (.inl (i + 3) : zV) = .inl (w32 (i + 3)) from by rw [w32_id (by omega)]]; rfl)) ?_
  refine zG_iald (by decide) hz (hg _ _ rfl) rfl (.inr rfl) (by omega) ?_
  rw [show M1 0 (i + 3).toNat = x3 from (hc0 _).trans hx3.symm]
  show zG n (114, 4080270) 300 311 (1168, [zR 0, zR 8, zR 97, .inl i], [.inl x3, .inl x2, .inl x1, zR 97]) M1 _
  refine zG_call (by decide) hz zp_247 (hg _ _ rfl) rfl (Nat.le_of_ble_eq_true rfl) ⟨Nat.le_of_ble_eq_true rfl, Nat.le_of_ble_eq_true rfl⟩ (qm_247_97 (by decide) hJM1.2.1 x1 (by omega) x2 (by omega) x3 (by omega)) (fun vr M2 hr => ?_)
  obtain ⟨⟨hCM2, hFM2⟩, hr⟩ := hr
  have hJM2 : qJ M2 := hJM1.mdl hCM2 hFM2 rfl (by decide) (fun j _ _ _ _ => hFM2.ar 98 j (by decide) (by decide))
  obtain ⟨r2, hv9⟩ := hr
  first | (obtain ⟨rfl, -⟩ := hv9) | (obtain rfl := hv9)
  show zG n (114, 4080270) 300 311 (1171, [zR 0, zR 8, zR 97, .inl i], [.inl r2]) M2 _
  refine zG_blk (c' := (2158, [zR 0, zR 8, zR 97, .inl i], [])) 2 (by decide) hz (zsteps_seg hg rfl) ?_
  exact K M2 hJM2
noncomputable def sg_21 : List zE := [(1175, zi_28, 1176, zx0),
  (1176, zi_0, 1177, zx0),
  (1177, zi_1, 1178, zx0),
  (1178, zi_2, 1179, zx0),
  (1179, zi_4, 1180, zx0),
  (1180, zi_8, 1181, zx0),
  (1181, zi_0, 1182, zx0),
  (1182, zi_1, 1183, zx0),
  (1183, zi_11, 1184, zx0),
  (1184, zi_4, 1185, zx0),
  (1185, zi_8, 1186, zx0),
  (1186, zi_0, 1187, zx0),
  (1187, zi_1, 1188, zx0),
  (1188, zi_13, 1189, zx0),
  (1189, zi_4, 1190, zx0),
  (1190, zi_8, 1191, zx0),
  (1191, zi_0, 1192, zx0),
  (1192, zi_1, 1193, zx0),
  (1193, zi_17, 1194, zx0),
  (1194, zi_4, 1195, zx0),
  (1195, zi_8, 1196, zx0),
  (1196, zi_470, 1199, (144, 5, 0, [11])),
  (1199, zi_256, 1200, zx0),
  (1200, zi_39, 1201, zx0),
  (1201, zi_0, 1202, zx0),
  (1202, zi_1, 1203, zx0),
  (1203, zi_2, 1204, zx0),
  (1204, zi_4, 1205, zx0),
  (1205, zi_8, 1206, zx0),
  (1206, zi_0, 1207, zx0),
  (1207, zi_1, 1208, zx0),
  (1208, zi_11, 1209, zx0),
  (1209, zi_4, 1210, zx0),
  (1210, zi_8, 1211, zx0),
  (1211, zi_0, 1212, zx0),
  (1212, zi_1, 1213, zx0),
  (1213, zi_13, 1214, zx0),
  (1214, zi_4, 1215, zx0),
  (1215, zi_8, 1216, zx0),
  (1216, zi_0, 1217, zx0),
  (1217, zi_1, 1218, zx0),
  (1218, zi_17, 1219, zx0),
  (1219, zi_4, 1220, zx0),
  (1220, zi_8, 1221, zx0),
  (1221, zi_181, 1224, (248, 5, 0, [12])),
  (1224, zi_256, 1225, zx0),
  (1225, .goto (933), 1228, zx_8)]
set_option maxRecDepth 100000 in
theorem sh_21 : zSeg zk_L_law sg_21 := zSeg_of 827 47 1175 (by decide +kernel) rfl (by decide +kernel)
set_option maxRecDepth 100000 in
theorem qL_21 (hJ : qJ M) (hn : n ≤ 4096) (hi : 0 ≤ i ∧ i + 8 ≤ n) (K : ∀ M', qJ M' → zG n (114, 4080270) 300 311 (2158, [zR 0, zR 8, zR 97, .inl i], []) M' qLQ) : zG n (114, 4080270) 300 311 (1175, [zR 0, zR 8, zR 97, .inl i], []) M qLQ := by
  have hz := zp_311
  have hg := sh_21
  refine zG_blk (c' := (1180, [zR 0, zR 8, zR 97, .inl i], [.inl (i + 1), zR 0, zR 8])) 5 (by decide) hz (zsteps_seg hg (by rw [show (.inl (i + 1) : zV) = .inl (w32 (i + 1)) from by rw [w32_id (by omega)]]; rfl)) ?_
  refine zG_iald (by decide) hz (hg _ _ rfl) rfl (.inr rfl) (by omega) ?_
  obtain ⟨x1, hx1⟩ : ∃ x : Int, x = M 0 (i + 1).toNat := ⟨_, rfl⟩
  rw [← hx1]
  have hr1 : qin x1 := by rw [hx1]; exact hJ.1.rng 0 _ (by decide) (by decide)
  show zG n (114, 4080270) 300 311 (1181, [zR 0, zR 8, zR 97, .inl i], [.inl x1, zR 8]) M _
  refine zG_blk (c' := (1185, [zR 0, zR 8, zR 97, .inl i], [.inl (i + 2), zR 0, .inl x1, zR 8])) 4 (by decide) hz (zsteps_seg hg (by rw [show (.inl (i + 2) : zV) = .inl (w32 (i + 2)) from by rw [w32_id (by omega)]]; rfl)) ?_
  refine zG_iald (by decide) hz (hg _ _ rfl) rfl (.inr rfl) (by omega) ?_
  obtain ⟨x2, hx2⟩ : ∃ x : Int, x = M 0 (i + 2).toNat := ⟨_, rfl⟩
  rw [← hx2]
  have hr2 : qin x2 := by rw [hx2]; exact hJ.1.rng 0 _ (by decide) (by decide)
  show zG n (114, 4080270) 300 311 (1186, [zR 0, zR 8, zR 97, .inl i], [.inl x2, .inl x1, zR 8]) M _
  refine zG_blk (c' := (1190, [zR 0, zR 8, zR 97, .inl i], [.inl (i + 3), zR 0, .inl x2, .inl x1, zR 8])) 4 (by decide) hz (zsteps_seg hg (by rw [show (.inl (i + 3) : zV) = .inl (w32 (i + 3)) from by rw [w32_id (by omega)]]; rfl)) ?_
  refine zG_iald (by decide) hz (hg _ _ rfl) rfl (.inr rfl) (by omega) ?_
  obtain ⟨x3, hx3⟩ : ∃ x : Int, x = M 0 (i + 3).toNat := ⟨_, rfl⟩
  rw [← hx3]
  have hr3 : qin x3 := by rw [hx3]; exact hJ.1.rng 0 _ (by decide) (by decide)
  show zG n (114, 4080270) 300 311 (1191, [zR 0, zR 8, zR 97, .inl i], [.inl x3, .inl x2, .inl x1, zR 8]) M _
  refine zG_blk (c' := (1195, [zR 0, zR 8, zR 97, .inl i], [.inl (i + 4), zR 0, .inl x3, .inl x2, .inl x1, zR 8])) 4 (by decide) hz (zsteps_seg hg (by rw [show (.inl (i + 4) : zV) = .inl (w32 (i + 4)) from by rw [w32_id (by omega)]]; rfl)) ?_
  refine zG_iald (by decide) hz (hg _ _ rfl) rfl (.inr rfl) (by omega) ?_
  obtain ⟨x4, hx4⟩ : ∃ x : Int, x = M 0 (i + 4).toNat := ⟨_, rfl⟩
  rw [← hx4]
  have hr4 : qin x4 := by rw [hx4]; exact hJ.1.rng 0 _ (by decide) (by decide)
  show zG n (114, 4080270) 300 311 (1196, [zR 0, zR 8, zR 97, .inl i], [.inl x4, .inl x3, .inl x2, .inl x1, zR 8]) M _
  refine zG_call (by decide) hz zp_144 (hg _ _ rfl) rfl (Nat.le_of_ble_eq_true rfl) ⟨Nat.le_of_ble_eq_true rfl, Nat.le_of_ble_eq_true rfl⟩ (qm_144_8 (by decide) hJ.1 x1 (by omega) x2 (by omega) x3 (by omega) x4 (by omega)) (fun vr M1 hr => ?_)
  obtain ⟨⟨hCM1, hFM1⟩, hr⟩ := hr
  have hJM1 : qJ M1 := hJ.cls hCM1 hFM1 rfl rfl
  have hc0 : ∀ j, M1 0 j = M 0 j := fun j => hFM1 0 j (by decide)
  obtain ⟨r1, rfl⟩ := hr
  show zG n (114, 4080270) 300 311 (1199, [zR 0, zR 8, zR 97, .inl i], [(.inr (.inl r1))]) M1 _
  refine zG_blk (c' := (1205, [zR 0, zR 8, zR 97, .inl i], [.inl (i + 1), zR 0, zR 97])) 6 (by decide) hz (zsteps_seg hg (by rw [show (.inl (i + 1) : zV) = .inl (w32 (i + 1)) from by rw [w32_id (by omega)]]; rfl)) ?_
  refine zG_iald (by decide) hz (hg _ _ rfl) rfl (.inr rfl) (by omega) ?_
  rw [show M1 0 (i + 1).toNat = x1 from (hc0 _).trans hx1.symm]
  show zG n (114, 4080270) 300 311 (1206, [zR 0, zR 8, zR 97, .inl i], [.inl x1, zR 97]) M1 _
  refine zG_blk (c' := (1210, [zR 0, zR 8, zR 97, .inl i], [.inl (i + 2), zR 0, .inl x1, zR 97])) 4 (by decide) hz (zsteps_seg hg (by rw [show (.inl (i + 2) : zV) = .inl (w32 (i + 2)) from by rw [w32_id (by omega)]]; rfl)) ?_
  refine zG_iald (by decide) hz (hg _ _ rfl) rfl (.inr rfl) (by omega) ?_
  rw [show M1 0 (i + 2).toNat = x2 from (hc0 _).trans hx2.symm]
  show zG n (114, 4080270) 300 311 (1211, [zR 0, zR 8, zR 97, .inl i], [.inl x2, .inl x1, zR 97]) M1 _
  refine zG_blk (c' := (1215, [zR 0, zR 8, zR 97, .inl i], [.inl (i + 3), zR 0, .inl x2, .inl x1, zR 97])) 4 (by decide) hz (zsteps_seg hg (by rw [show (.inl (i + 3) : zV) = .inl (w32 (i + 3)) from by rw [w32_id (by omega)]]; rfl)) ?_
  refine zG_iald (by decide) hz (hg _ _ rfl) rfl (.inr rfl) (by omega) ?_
  rw [show M1 0 (i + 3).toNat = x3 from (hc0 _).trans hx3.symm]
  show zG n (114, 4080270) 300 311 (1216, [zR 0, zR 8, zR 97, .inl i], [.inl x3, .inl x2, .inl x1, zR 97]) M1 _
  refine zG_blk (c' := (1220, [zR 0, zR 8, zR 97, .inl i], [.inl (i + 4), zR 0, .inl x3, .inl x2, .inl x1, zR 97])) 4 (by decide) hz (zsteps_seg hg (by rw [show (.inl (i + 4) : zV) = .inl (w32 (i + 4)) from by rw [w32_id (by omega)]]; rfl)) ?_
  refine zG_iald (by decide) hz (hg _ _ rfl) rfl (.inr rfl) (by omega) ?_
  rw [show M1 0 (i + 4).toNat = x4 from (hc0 _).trans hx4.symm]
  show zG n (114, 4080270) 300 311 (1221, [zR 0, zR 8, zR 97, .inl i], [.inl x4, .inl x3, .inl x2, .inl x1, zR 97]) M1 _
  refine zG_call (by decide) hz zp_248 (hg _ _ rfl) rfl (Nat.le_of_ble_eq_true rfl) ⟨Nat.le_of_ble_eq_true rfl, Nat.le_of_ble_eq_true rfl⟩ (qm_248_97 (by decide) hJM1.2.1 x1 (by omega) x2 (by omega) x3 (by omega) x4 (by omega)) (fun vr M2 hr => ?_)
  obtain ⟨⟨hCM2, hFM2⟩, hr⟩ := hr
  have hJM2 : qJ M2 := hJM1.mdl hCM2 hFM2 rfl (by decide) (fun j _ _ _ _ => hFM2.ar 98 j (by decide) (by decide))
  obtain ⟨r2, hv9⟩ := hr
  first | (obtain ⟨rfl, -⟩ := hv9) | (obtain rfl := hv9)
  show zG n (114, 4080270) 300 311 (1224, [zR 0, zR 8, zR 97, .inl i], [(.inr (.inl r2))]) M2 _
  refine zG_blk (c' := (2158, [zR 0, zR 8, zR 97, .inl i], [])) 2 (by decide) hz (zsteps_seg hg rfl) ?_
  exact K M2 hJM2
noncomputable def sg_22 : List zE := [(1228, zi_28, 1229, zx0),
  (1229, zi_0, 1230, zx0),
  (1230, zi_1, 1231, zx0),
  (1231, zi_2, 1232, zx0),
  (1232, zi_4, 1233, zx0),
  (1233, zi_8, 1234, zx0),
  (1234, zi_0, 1235, zx0),
  (1235, zi_1, 1236, zx0),
  (1236, zi_11, 1237, zx0),
  (1237, zi_4, 1238, zx0),
  (1238, zi_8, 1239, zx0),
  (1239, zi_0, 1240, zx0),
  (1240, zi_1, 1241, zx0),
  (1241, zi_13, 1242, zx0),
  (1242, zi_4, 1243, zx0),
  (1243, zi_8, 1244, zx0),
  (1244, .invokevirtual 109, 1247, (145, 4, 0, [11])),
  (1247, zi_21, 1248, zx0),
  (1248, zi_39, 1249, zx0),
  (1249, zi_0, 1250, zx0),
  (1250, zi_1, 1251, zx0),
  (1251, zi_2, 1252, zx0),
  (1252, zi_4, 1253, zx0),
  (1253, zi_8, 1254, zx0),
  (1254, zi_0, 1255, zx0),
  (1255, zi_1, 1256, zx0),
  (1256, zi_11, 1257, zx0),
  (1257, zi_4, 1258, zx0),
  (1258, zi_8, 1259, zx0),
  (1259, zi_0, 1260, zx0),
  (1260, zi_1, 1261, zx0),
  (1261, zi_13, 1262, zx0),
  (1262, zi_4, 1263, zx0),
  (1263, zi_8, 1264, zx0),
  (1264, .invokevirtual 112, 1267, (249, 4, 0, [12])),
  (1267, zi_21, 1268, zx0),
  (1268, .goto (890), 1271, zx_8)]
set_option maxRecDepth 100000 in
theorem sh_22 : zSeg zk_L_law sg_22 := zSeg_of 874 37 1228 (by decide +kernel) rfl (by decide +kernel)
set_option maxRecDepth 100000 in
theorem qL_22 (hJ : qJ M) (hn : n ≤ 4096) (hi : 0 ≤ i ∧ i + 8 ≤ n) (K : ∀ M', qJ M' → zG n (114, 4080270) 300 311 (2158, [zR 0, zR 8, zR 97, .inl i], []) M' qLQ) : zG n (114, 4080270) 300 311 (1228, [zR 0, zR 8, zR 97, .inl i], []) M qLQ := by
  have hz := zp_311
  have hg := sh_22
  refine zG_blk (c' := (1233, [zR 0, zR 8, zR 97, .inl i], [.inl (i + 1), zR 0, zR 8])) 5 (by decide) hz (zsteps_seg hg (by rw [show (.inl (i + 1) : zV) = .inl (w32 (i + 1)) from by rw [w32_id (by omega)]]; rfl)) ?_
  refine zG_iald (by decide) hz (hg _ _ rfl) rfl (.inr rfl) (by omega) ?_
  obtain ⟨x1, hx1⟩ : ∃ x : Int, x = M 0 (i + 1).toNat := ⟨_, rfl⟩
  rw [← hx1]
  have hr1 : qin x1 := by rw [hx1]; exact hJ.1.rng 0 _ (by decide) (by decide)
  show zG n (114, 4080270) 300 311 (1234, [zR 0, zR 8, zR 97, .inl i], [.inl x1, zR 8]) M _
  refine zG_blk (c' := (1238, [zR 0, zR 8, zR 97, .inl i], [.inl (i + 2), zR 0, .inl x1, zR 8])) 4 (by decide) hz (zsteps_seg hg (by rw [show (.inl (i + 2) : zV) = .inl (w32 (i + 2)) from by rw [w32_id (by omega)]]; rfl)) ?_
  refine zG_iald (by decide) hz (hg _ _ rfl) rfl (.inr rfl) (by omega) ?_
  obtain ⟨x2, hx2⟩ : ∃ x : Int, x = M 0 (i + 2).toNat := ⟨_, rfl⟩
  rw [← hx2]
  have hr2 : qin x2 := by rw [hx2]; exact hJ.1.rng 0 _ (by decide) (by decide)
  show zG n (114, 4080270) 300 311 (1239, [zR 0, zR 8, zR 97, .inl i], [.inl x2, .inl x1, zR 8]) M _
  refine zG_blk (c' := (1243, [zR 0, zR 8, zR 97, .inl i], [.inl (i + 3), zR 0, .inl x2, .inl x1, zR 8])) 4 (by decide) hz (zsteps_seg hg (by rw [show (.inl (i + 3) : zV) = .inl (w32 (i + 3)) from by rw [w32_id (by omega)]]; rfl)) ?_
  refine zG_iald (by decide) hz (hg _ _ rfl) rfl (.inr rfl) (by omega) ?_
  obtain ⟨x3, hx3⟩ : ∃ x : Int, x = M 0 (i + 3).toNat := ⟨_, rfl⟩
  rw [← hx3]
  have hr3 : qin x3 := by rw [hx3]; exact hJ.1.rng 0 _ (by decide) (by decide)
  show zG n (114, 4080270) 300 311 (1244, [zR 0, zR 8, zR 97, .inl i], [.inl x3, .inl x2, .inl x1, zR 8]) M _
  refine zG_call (by decide) hz zp_145 (hg _ _ rfl) rfl (Nat.le_of_ble_eq_true rfl) ⟨Nat.le_of_ble_eq_true rfl, Nat.le_of_ble_eq_true rfl⟩ (qm_145_8 (by decide) hJ.1 x1 (by omega) x2 (by omega) x3 (by omega)) (fun vr M1 hr => ?_)
  obtain ⟨⟨hCM1, hFM1⟩, hr⟩ := hr
  have hJM1 : qJ M1 := hJ.cls hCM1 hFM1 rfl rfl
  have hc0 : ∀ j, M1 0 j = M 0 j := fun j => hFM1 0 j (by decide)
  obtain ⟨r1, rfl, -⟩ := hr
  show zG n (114, 4080270) 300 311 (1247, [zR 0, zR 8, zR 97, .inl i], [.inl r1]) M1 _
  refine zG_blk (c' := (1253, [zR 0, zR 8, zR 97, .inl i], [.inl (i + 1), zR 0, zR 97])) 6 (by decide) hz (zsteps_seg hg (by rw [show (.inl (i + 1) : zV) = .inl (w32 (i + 1)) from by rw [w32_id (by omega)]]; rfl)) ?_
  refine zG_iald (by decide) hz (hg _ _ rfl) rfl (.inr rfl) (by omega) ?_
  rw [show M1 0 (i + 1).toNat = x1 from (hc0 _).trans hx1.symm]
  show zG n (114, 4080270) 300 311 (1254, [zR 0, zR 8, zR 97, .inl i], [.inl x1, zR 97]) M1 _
  refine zG_blk (c' := (1258, [zR 0, zR 8, zR 97, .inl i], [.inl (i + 2), zR 0, .inl x1, zR 97])) 4 (by decide) hz (zsteps_seg hg (by rw [show (.inl (i + 2) : zV) = .inl (w32 (i + 2)) from by rw [w32_id (by omega)]]; rfl)) ?_
  refine zG_iald (by decide) hz (hg _ _ rfl) rfl (.inr rfl) (by omega) ?_
  rw [show M1 0 (i + 2).toNat = x2 from (hc0 _).trans hx2.symm]
  show zG n (114, 4080270) 300 311 (1259, [zR 0, zR 8, zR 97, .inl i], [.inl x2, .inl x1, zR 97]) M1 _
  refine zG_blk (c' := (1263, [zR 0, zR 8, zR 97, .inl i], [.inl (i + 3), zR 0, .inl x2, .inl x1, zR 97])) 4 (by decide) hz (zsteps_seg hg (by rw [show (.inl (i + 3) : zV) = .inl (w32 (i + 3)) from by rw [w32_id (by omega)]]; rfl)) ?_
  refine zG_iald (by decide) hz (hg _ _ rfl) rfl (.inr rfl) (by omega) ?_
  rw [show M1 0 (i + 3).toNat = x3 from (hc0 _).trans hx3.symm]
  show zG n (114, 4080270) 300 311 (1264, [zR 0, zR 8, zR 97, .inl i], [.inl x3, .inl x2, .inl x1, zR 97]) M1 _
  refine zG_call (by decide) hz zp_249 (hg _ _ rfl) rfl (Nat.le_of_ble_eq_true rfl) ⟨Nat.le_of_ble_eq_true rfl, Nat.le_of_ble_eq_true rfl⟩ (qm_249_97 (by decide) hJM1.2.1 x1 (by omega) x2 (by omega) x3 (by omega)) (fun vr M2 hr => ?_)
  obtain ⟨⟨hCM2, hFM2⟩, hr⟩ := hr
  have hJM2 : qJ M2 := hJM1.mdl hCM2 hFM2 rfl (by decide) (fun j _ _ _ _ => hFM2.ar 98 j (by decide) (by decide))
  obtain ⟨r2, hv9⟩ := hr
  first | (obtain ⟨rfl, -⟩ := hv9) | (obtain rfl := hv9)
  show zG n (114, 4080270) 300 311 (1267, [zR 0, zR 8, zR 97, .inl i], [.inl r2]) M2 _
  refine zG_blk (c' := (2158, [zR 0, zR 8, zR 97, .inl i], [])) 2 (by decide) hz (zsteps_seg hg rfl) ?_
  exact K M2 hJM2
noncomputable def sg_23 : List zE := [(1271, zi_28, 1272, zx0),
  (1272, zi_0, 1273, zx0),
  (1273, zi_1, 1274, zx0),
  (1274, zi_2, 1275, zx0),
  (1275, zi_4, 1276, zx0),
  (1276, zi_8, 1277, zx0),
  (1277, zi_0, 1278, zx0),
  (1278, zi_1, 1279, zx0),
  (1279, zi_11, 1280, zx0),
  (1280, zi_4, 1281, zx0),
  (1281, zi_8, 1282, zx0),
  (1282, zi_0, 1283, zx0),
  (1283, zi_1, 1284, zx0),
  (1284, zi_13, 1285, zx0),
  (1285, zi_4, 1286, zx0),
  (1286, zi_8, 1287, zx0),
  (1287, .invokevirtual 113, 1290, (146, 4, 0, [11])),
  (1290, zi_21, 1291, zx0),
  (1291, zi_39, 1292, zx0),
  (1292, zi_0, 1293, zx0),
  (1293, zi_1, 1294, zx0),
  (1294, zi_2, 1295, zx0),
  (1295, zi_4, 1296, zx0),
  (1296, zi_8, 1297, zx0),
  (1297, zi_0, 1298, zx0),
  (1298, zi_1, 1299, zx0),
  (1299, zi_11, 1300, zx0),
  (1300, zi_4, 1301, zx0),
  (1301, zi_8, 1302, zx0),
  (1302, zi_0, 1303, zx0),
  (1303, zi_1, 1304, zx0),
  (1304, zi_13, 1305, zx0),
  (1305, zi_4, 1306, zx0),
  (1306, zi_8, 1307, zx0),
  (1307, .invokevirtual 116, 1310, (250, 4, 0, [12])),
  (1310, zi_21, 1311, zx0),
  (1311, .goto (847), 1314, zx_8)]
set_option maxRecDepth 100000 in
theorem sh_23 : zSeg zk_L_law sg_23 := zSeg_of 911 37 1271 (by decide +kernel) rfl (by decide +kernel)
set_option maxRecDepth 100000 in
theorem qL_23 (hJ : qJ M) (hn : n ≤ 4096) (hi : 0 ≤ i ∧ i + 8 ≤ n) (K : ∀ M', qJ M' → zG n (114, 4080270) 300 311 (2158, [zR 0, zR 8, zR 97, .inl i], []) M' qLQ) : zG n (114, 4080270) 300 311 (1271, [zR 0, zR 8, zR 97, .inl i], []) M qLQ := by
  have hz := zp_311
  have hg := sh_23
  refine zG_blk (c' := (1276, [zR 0, zR 8, zR 97, .inl i], [.inl (i + 1), zR 0, zR 8])) 5 (by decide) hz (zsteps_seg hg (by rw [show (.inl (i + 1) : zV) = .inl (w32 (i + 1)) from by rw [w32_id (by omega)]]; rfl)) ?_
  refine zG_iald (by decide) hz (hg _ _ rfl) rfl (.inr rfl) (by omega) ?_
  obtain ⟨x1, hx1⟩ : ∃ x : Int, x = M 0 (i + 1).toNat := ⟨_, rfl⟩
  rw [← hx1]
  have hr1 : qin x1 := by rw [hx1]; exact hJ.1.rng 0 _ (by decide) (by decide)
  show zG n (114, 4080270) 300 311 (1277, [zR 0, zR 8, zR 97, .inl i], [.inl x1, zR 8]) M _
  refine zG_blk (c' := (1281, [zR 0, zR 8, zR 97, .inl i], [.inl (i + 2), zR 0, .inl x1, zR 8])) 4 (by decide) hz (zsteps_seg hg (by rw [show (.inl (i + 2) : zV) = .inl (w32 (i + 2)) from by rw [w32_id (by omega)]]; rfl)) ?_
  refine zG_iald (by decide) hz (hg _ _ rfl) rfl (.inr rfl) (by omega) ?_
  obtain ⟨x2, hx2⟩ : ∃ x : Int, x = M 0 (i + 2).toNat := ⟨_, rfl⟩
  rw [← hx2]
  have hr2 : qin x2 := by rw [hx2]; exact hJ.1.rng 0 _ (by decide) (by decide)
  show zG n (114, 4080270) 300 311 (1282, [zR 0, zR 8, zR 97, .inl i], [.inl x2, .inl x1, zR 8]) M _
  refine zG_blk (c' := (1286, [zR 0, zR 8, zR 97, .inl i], [.inl (i + 3), zR 0, .inl x2, .inl x1, zR 8])) 4 (by decide) hz (zsteps_seg hg (by rw [show (.inl (i + 3) : zV) = .inl (w32 (i + 3)) from by rw [w32_id (by omega)]]; rfl)) ?_
  refine zG_iald (by decide) hz (hg _ _ rfl) rfl (.inr rfl) (by omega) ?_
  obtain ⟨x3, hx3⟩ : ∃ x : Int, x = M 0 (i + 3).toNat := ⟨_, rfl⟩
  rw [← hx3]
  have hr3 : qin x3 := by rw [hx3]; exact hJ.1.rng 0 _ (by decide) (by decide)
  show zG n (114, 4080270) 300 311 (1287, [zR 0, zR 8, zR 97, .inl i], [.inl x3, .inl x2, .inl x1, zR 8]) M _
  refine zG_call (by decide) hz zp_146 (hg _ _ rfl) rfl (Nat.le_of_ble_eq_true rfl) ⟨Nat.le_of_ble_eq_true rfl, Nat.le_of_ble_eq_true rfl⟩ (qm_146_8 (by decide) hJ.1 x1 (by omega) x2 (by omega) x3 (by omega)) (fun vr M1 hr => ?_)
  obtain ⟨⟨hCM1, hFM1⟩, hr⟩ := hr
  have hJM1 : qJ M1 := hJ.cls hCM1 hFM1 rfl rfl
  have hc0 : ∀ j, M1 0 j = M 0 j := fun j => hFM1 0 j (by decide)
  obtain ⟨r1, rfl, -⟩ := hr
  show zG n (114, 4080270) 300 311 (1290, [zR 0, zR 8, zR 97, .inl i], [.inl r1]) M1 _
  refine zG_blk (c' := (1296, [zR 0, zR 8, zR 97, .inl i], [.inl (i + 1), zR 0, zR 97])) 6 (by decide) hz (zsteps_seg hg (by rw [show (.inl (i + 1) : zV) = .inl (w32 (i + 1)) from by rw [w32_id (by omega)]]; rfl)) ?_
  refine zG_iald (by decide) hz (hg _ _ rfl) rfl (.inr rfl) (by omega) ?_
  rw [show M1 0 (i + 1).toNat = x1 from (hc0 _).trans hx1.symm]
  show zG n (114, 4080270) 300 311 (1297, [zR 0, zR 8, zR 97, .inl i], [.inl x1, zR 97]) M1 _
  refine zG_blk (c' := (1301, [zR 0, zR 8, zR 97, .inl i], [.inl (i + 2), zR 0, .inl x1, zR 97])) 4 (by decide) hz (zsteps_seg hg (by rw [show (.inl (i + 2) : zV) = .inl (w32 (i + 2)) from by rw [w32_id (by omega)]]; rfl)) ?_
  refine zG_iald (by decide) hz (hg _ _ rfl) rfl (.inr rfl) (by omega) ?_
  rw [show M1 0 (i + 2).toNat = x2 from (hc0 _).trans hx2.symm]
  show zG n (114, 4080270) 300 311 (1302, [zR 0, zR 8, zR 97, .inl i], [.inl x2, .inl x1, zR 97]) M1 _
  refine zG_blk (c' := (1306, [zR 0, zR 8, zR 97, .inl i], [.inl (i + 3), zR 0, .inl x2, .inl x1, zR 97])) 4 (by decide) hz (zsteps_seg hg (by rw [show (.inl (i + 3) : zV) = .inl (w32 (i + 3)) from by rw [w32_id (by omega)]]; rfl)) ?_
  refine zG_iald (by decide) hz (hg _ _ rfl) rfl (.inr rfl) (by omega) ?_
  rw [show M1 0 (i + 3).toNat = x3 from (hc0 _).trans hx3.symm]
  show zG n (114, 4080270) 300 311 (1307, [zR 0, zR 8, zR 97, .inl i], [.inl x3, .inl x2, .inl x1, zR 97]) M1 _
  refine zG_call (by decide) hz zp_250 (hg _ _ rfl) rfl (Nat.le_of_ble_eq_true rfl) ⟨Nat.le_of_ble_eq_true rfl, Nat.le_of_ble_eq_true rfl⟩ (qm_250_97 (by decide) hJM1.2.1 x1 (by omega) x2 (by omega) x3 (by omega)) (fun vr M2 hr => ?_)
  obtain ⟨⟨hCM2, hFM2⟩, hr⟩ := hr
  have hJM2 : qJ M2 := hJM1.mdl hCM2 hFM2 rfl (by decide) (fun j _ _ _ _ => hFM2.ar 98 j (by decide) (by decide))
  obtain ⟨r2, hv9⟩ := hr
  first | (obtain ⟨rfl, -⟩ := hv9) | (obtain rfl := hv9)
  show zG n (114, 4080270) 300 311 (1310, [zR 0, zR 8, zR 97, .inl i], [.inl r2]) M2 _
  refine zG_blk (c' := (2158, [zR 0, zR 8, zR 97, .inl i], [])) 2 (by decide) hz (zsteps_seg hg rfl) ?_
  exact K M2 hJM2
noncomputable def sg_24 : List zE := [(1314, zi_28, 1315, zx0),
  (1315, zi_0, 1316, zx0),
  (1316, zi_1, 1317, zx0),
  (1317, zi_2, 1318, zx0),
  (1318, zi_4, 1319, zx0),
  (1319, zi_8, 1320, zx0),
  (1320, zi_0, 1321, zx0),
  (1321, zi_1, 1322, zx0),
  (1322, zi_11, 1323, zx0),
  (1323, zi_4, 1324, zx0),
  (1324, zi_8, 1325, zx0),
  (1325, zi_0, 1326, zx0),
  (1326, zi_1, 1327, zx0),
  (1327, zi_13, 1328, zx0),
  (1328, zi_4, 1329, zx0),
  (1329, zi_8, 1330, zx0),
  (1330, zi_208, 1333, (147, 4, 0, [11])),
  (1333, zi_21, 1334, zx0),
  (1334, zi_39, 1335, zx0),
  (1335, zi_0, 1336, zx0),
  (1336, zi_1, 1337, zx0),
  (1337, zi_2, 1338, zx0),
  (1338, zi_4, 1339, zx0),
  (1339, zi_8, 1340, zx0),
  (1340, zi_0, 1341, zx0),
  (1341, zi_1, 1342, zx0),
  (1342, zi_11, 1343, zx0),
  (1343, zi_4, 1344, zx0),
  (1344, zi_8, 1345, zx0),
  (1345, zi_0, 1346, zx0),
  (1346, zi_1, 1347, zx0),
  (1347, zi_13, 1348, zx0),
  (1348, zi_4, 1349, zx0),
  (1349, zi_8, 1350, zx0),
  (1350, zi_136, 1353, (251, 4, 0, [12])),
  (1353, zi_21, 1354, zx0),
  (1354, .goto (804), 1357, zx_8)]
set_option maxRecDepth 100000 in
theorem sh_24 : zSeg zk_L_law sg_24 := zSeg_of 948 37 1314 (by decide +kernel) rfl (by decide +kernel)
set_option maxRecDepth 100000 in
theorem qL_24 (hJ : qJ M) (hn : n ≤ 4096) (hi : 0 ≤ i ∧ i + 8 ≤ n) (K : ∀ M', qJ M' → zG n (114, 4080270) 300 311 (2158, [zR 0, zR 8, zR 97, .inl i], []) M' qLQ) : zG n (114, 4080270) 300 311 (1314, [zR 0, zR 8, zR 97, .inl i], []) M qLQ := by
  have hz := zp_311
  have hg := sh_24
  refine zG_blk (c' := (1319, [zR 0, zR 8, zR 97, .inl i], [.inl (i + 1), zR 0, zR 8])) 5 (by decide) hz (zsteps_seg hg (by rw [show (.inl (i + 1) : zV) = .inl (w32 (i + 1)) from by rw [w32_id (by omega)]]; rfl)) ?_
  refine zG_iald (by decide) hz (hg _ _ rfl) rfl (.inr rfl) (by omega) ?_
  obtain ⟨x1, hx1⟩ : ∃ x : Int, x = M 0 (i + 1).toNat := ⟨_, rfl⟩
  rw [← hx1]
  have hr1 : qin x1 := by rw [hx1]; exact hJ.1.rng 0 _ (by decide) (by decide)
  show zG n (114, 4080270) 300 311 (1320, [zR 0, zR 8, zR 97, .inl i], [.inl x1, zR 8]) M _
  refine zG_blk (c' := (1324, [zR 0, zR 8, zR 97, .inl i], [.inl (i + 2), zR 0, .inl x1, zR 8])) 4 (by decide) hz (zsteps_seg hg (by rw [show (.inl (i + 2) : zV) = .inl (w32 (i + 2)) from by rw [w32_id (by omega)]]; rfl)) ?_
  refine zG_iald (by decide) hz (hg _ _ rfl) rfl (.inr rfl) (by omega) ?_
  obtain ⟨x2, hx2⟩ : ∃ x : Int, x = M 0 (i + 2).toNat := ⟨_, rfl⟩
  rw [← hx2]
  have hr2 : qin x2 := by rw [hx2]; exact hJ.1.rng 0 _ (by decide) (by decide)
  show zG n (114, 4080270) 300 311 (1325, [zR 0, zR 8, zR 97, .inl i], [.inl x2, .inl x1, zR 8]) M _
  refine zG_blk (c' := (1329, [zR 0, zR 8, zR 97, .inl i], [.inl (i + 3), zR 0, .inl x2, .inl x1, zR 8])) 4 (by decide) hz (zsteps_seg hg (by rw [show (.inl (i + 3) : zV) = .inl (w32 (i + 3)) from by rw [w32_id (by omega)]]; rfl)) ?_
  refine zG_iald (by decide) hz (hg _ _ rfl) rfl (.inr rfl) (by omega) ?_
  obtain ⟨x3, hx3⟩ : ∃ x : Int, x = M 0 (i + 3).toNat := ⟨_, rfl⟩
  rw [← hx3]
  have hr3 : qin x3 := by rw [hx3]; exact hJ.1.rng 0 _ (by decide) (by decide)
  show zG n (114, 4080270) 300 311 (1330, [zR 0, zR 8, zR 97, .inl i], [.inl x3, .inl x2, .inl x1, zR 8]) M _
  refine zG_call (by decide) hz zp_147 (hg _ _ rfl) rfl (Nat.le_of_ble_eq_true rfl) ⟨Nat.le_of_ble_eq_true rfl, Nat.le_of_ble_eq_true rfl⟩ (qm_147_8 (by decide) hJ.1 x1 (by omega) x2 (by omega) x3 (by omega)) (fun vr M1 hr => ?_)
  obtain ⟨⟨hCM1, hFM1⟩, hr⟩ := hr
  have hJM1 : qJ M1 := hJ.cls hCM1 hFM1 rfl rfl
  have hc0 : ∀ j, M1 0 j = M 0 j := fun j => hFM1 0 j (by decide)
  obtain ⟨r1, rfl, -⟩ := hr
  show zG n (114, 4080270) 300 311 (1333, [zR 0, zR 8, zR 97, .inl i], [.inl r1]) M1 _
  refine zG_blk (c' := (1339, [zR 0, zR 8, zR 97, .inl i], [.inl (i + 1), zR 0, zR 97])) 6 (by decide) hz (zsteps_seg hg (by rw [show (.inl (i + 1) : zV) = .inl (w32 (i + 1)) from by rw [w32_id (by omega)]]; rfl)) ?_
  refine zG_iald (by decide) hz (hg _ _ rfl) rfl (.inr rfl) (by omega) ?_
  rw [show M1 0 (i + 1).toNat = x1 from (hc0 _).trans hx1.symm]
  show zG n (114, 4080270) 300 311 (1340, [zR 0, zR 8, zR 97, .inl i], [.inl x1, zR 97]) M1 _
  refine zG_blk (c' := (1344, [zR 0, zR 8, zR 97, .inl i], [.inl (i + 2), zR 0, .inl x1, zR 97])) 4 (by decide) hz (zsteps_seg hg (by rw [show (.inl (i + 2) : zV) = .inl (w32 (i + 2)) from by rw [w32_id (by omega)]]; rfl)) ?_
  refine zG_iald (by decide) hz (hg _ _ rfl) rfl (.inr rfl) (by omega) ?_
  rw [show M1 0 (i + 2).toNat = x2 from (hc0 _).trans hx2.symm]
  show zG n (114, 4080270) 300 311 (1345, [zR 0, zR 8, zR 97, .inl i], [.inl x2, .inl x1, zR 97]) M1 _
  refine zG_blk (c' := (1349, [zR 0, zR 8, zR 97, .inl i], [.inl (i + 3), zR 0, .inl x2, .inl x1, zR 97])) 4 (by decide) hz (zsteps_seg hg (by rw [show (.inl (i + 3) : zV) = .inl (w32 (i + 3)) from by rw [w32_id (by omega)]]; rfl)) ?_
  refine zG_iald (by decide) hz (hg _ _ rfl) rfl (.inr rfl) (by omega) ?_
  rw [show M1 0 (i + 3).toNat = x3 from (hc0 _).trans hx3.symm]
  show zG n (114, 4080270) 300 311 (1350, [zR 0, zR 8, zR 97, .inl i], [.inl x3, .inl x2, .inl x1, zR 97]) M1 _
  refine zG_call (by decide) hz zp_251 (hg _ _ rfl) rfl (Nat.le_of_ble_eq_true rfl) ⟨Nat.le_of_ble_eq_true rfl, Nat.le_of_ble_eq_true rfl⟩ (qn_251_97 (by decide) hJM1.2.1 x1 (by omega) x2 (by omega) x3 (by omega)) (fun vr M2 hr => ?_)
  obtain ⟨⟨hCM2, hFM2⟩, hr⟩ := hr
  have h9 : ∀ j, M2 98 j = M1 98 j := by
    obtain ⟨x9, -, -, h8, h9⟩ := hr
    intro j
    by_cases hj : (j : Int) = 154 + 5 * x1
    · rw [show j = (154 + 5 * x1).toNat by omega]; exact h8
    · exact h9 j hj
  have hJM2 : qJ M2 := hJM1.mdl hCM2 hFM2 rfl (by decide) (fun j _ _ _ _ => h9 j)
  obtain ⟨r2, hv9⟩ := hr
  first | (obtain ⟨rfl, -⟩ := hv9) | (obtain rfl := hv9)
  show zG n (114, 4080270) 300 311 (1353, [zR 0, zR 8, zR 97, .inl i], [.inl r2]) M2 _
  refine zG_blk (c' := (2158, [zR 0, zR 8, zR 97, .inl i], [])) 2 (by decide) hz (zsteps_seg hg rfl) ?_
  exact K M2 hJM2
noncomputable def sg_25 : List zE := [(1357, zi_28, 1358, zx0),
  (1358, zi_0, 1359, zx0),
  (1359, zi_1, 1360, zx0),
  (1360, zi_2, 1361, zx0),
  (1361, zi_4, 1362, zx0),
  (1362, zi_8, 1363, zx0),
  (1363, zi_0, 1364, zx0),
  (1364, zi_1, 1365, zx0),
  (1365, zi_11, 1366, zx0),
  (1366, zi_4, 1367, zx0),
  (1367, zi_8, 1368, zx0),
  (1368, zi_487, 1371, (148, 3, 0, [11])),
  (1371, zi_21, 1372, zx0),
  (1372, zi_39, 1373, zx0),
  (1373, zi_0, 1374, zx0),
  (1374, zi_1, 1375, zx0),
  (1375, zi_2, 1376, zx0),
  (1376, zi_4, 1377, zx0),
  (1377, zi_8, 1378, zx0),
  (1378, zi_0, 1379, zx0),
  (1379, zi_1, 1380, zx0),
  (1380, zi_11, 1381, zx0),
  (1381, zi_4, 1382, zx0),
  (1382, zi_8, 1383, zx0),
  (1383, .invokevirtual 124, 1386, (253, 3, 0, [12])),
  (1386, zi_21, 1387, zx0),
  (1387, .goto (771), 1390, zx_8)]
set_option maxRecDepth 100000 in
theorem sh_25 : zSeg zk_L_law sg_25 := zSeg_of 985 27 1357 (by decide +kernel) rfl (by decide +kernel)
set_option maxRecDepth 100000 in
theorem qL_25 (hJ : qJ M) (hn : n ≤ 4096) (hi : 0 ≤ i ∧ i + 8 ≤ n) (K : ∀ M', qJ M' → zG n (114, 4080270) 300 311 (2158, [zR 0, zR 8, zR 97, .inl i], []) M' qLQ) : zG n (114, 4080270) 300 311 (1357, [zR 0, zR 8, zR 97, .inl i], []) M qLQ := by
  have hz := zp_311
  have hg := sh_25
  refine zG_blk (c' := (1362, [zR 0, zR 8, zR 97, .inl i], [.inl (i + 1), zR 0, zR 8])) 5 (by decide) hz (zsteps_seg hg (by rw [show (.inl (i + 1) : zV) = .inl (w32 (i + 1)) from by rw [w32_id (by omega)]]; rfl)) ?_
  refine zG_iald (by decide) hz (hg _ _ rfl) rfl (.inr rfl) (by omega) ?_
  obtain ⟨x1, hx1⟩ : ∃ x : Int, x = M 0 (i + 1).toNat := ⟨_, rfl⟩
  rw [← hx1]
  have hr1 : qin x1 := by rw [hx1]; exact hJ.1.rng 0 _ (by decide) (by decide)
  show zG n (114, 4080270) 300 311 (1363, [zR 0, zR 8, zR 97, .inl i], [.inl x1, zR 8]) M _
  refine zG_blk (c' := (1367, [zR 0, zR 8, zR 97, .inl i], [.inl (i + 2), zR 0, .inl x1, zR 8])) 4 (by decide) hz (zsteps_seg hg (by rw [show (.inl (i + 2) : zV) = .inl (w32 (i + 2)) from by rw [w32_id (by omega)]]; rfl)) ?_
  refine zG_iald (by decide) hz (hg _ _ rfl) rfl (.inr rfl) (by omega) ?_
  obtain ⟨x2, hx2⟩ : ∃ x : Int, x = M 0 (i + 2).toNat := ⟨_, rfl⟩
  rw [← hx2]
  have hr2 : qin x2 := by rw [hx2]; exact hJ.1.rng 0 _ (by decide) (by decide)
  show zG n (114, 4080270) 300 311 (1368, [zR 0, zR 8, zR 97, .inl i], [.inl x2, .inl x1, zR 8]) M _
  refine zG_call (by decide) hz zp_148 (hg _ _ rfl) rfl (Nat.le_of_ble_eq_true rfl) ⟨Nat.le_of_ble_eq_true rfl, Nat.le_of_ble_eq_true rfl⟩ (zG.andH (qm_148_8 (by decide) hJ.1 x1 (by omega) x2 (by omega)) (fh_148_8 x1 x2)) (fun vr M1 hr => ?_)
  obtain ⟨⟨⟨hC1, hF1⟩, -⟩, rfl, hM1⟩ := hr
  have hi := hF1.hi rfl
  have hI := hJ.2.1.same hi
  have hc0 : ∀ j, M1 0 j = M 0 j := fun j => hF1 0 j (by decide)
  show zG n (114, 4080270) 300 311 (1371, [zR 0, zR 8, zR 97, .inl i], [.inl (hf_148_8 M x1 x2).1]) M1 _
  refine zG_blk (c' := (1377, [zR 0, zR 8, zR 97, .inl i], [.inl (i + 1), zR 0, zR 97])) 6 (by decide) hz (zsteps_seg hg (by rw [show (.inl (i + 1) : zV) = .inl (w32 (i + 1)) from by rw [w32_id (by omega)]]; rfl)) ?_
  refine zG_iald (by decide) hz (hg _ _ rfl) rfl (.inr rfl) (by omega) ?_
  rw [show M1 0 (i + 1).toNat = x1 from (hc0 _).trans hx1.symm]
  show zG n (114, 4080270) 300 311 (1378, [zR 0, zR 8, zR 97, .inl i], [.inl x1, zR 97]) M1 _
  refine zG_blk (c' := (1382, [zR 0, zR 8, zR 97, .inl i], [.inl (i + 2), zR 0, .inl x1, zR 97])) 4 (by decide) hz (zsteps_seg hg (by rw [show (.inl (i + 2) : zV) = .inl (w32 (i + 2)) from by rw [w32_id (by omega)]]; rfl)) ?_
  refine zG_iald (by decide) hz (hg _ _ rfl) rfl (.inr rfl) (by omega) ?_
  rw [show M1 0 (i + 2).toNat = x2 from (hc0 _).trans hx2.symm]
  show zG n (114, 4080270) 300 311 (1383, [zR 0, zR 8, zR 97, .inl i], [.inl x2, .inl x1, zR 97]) M1 _
  refine zG_call (by decide) hz zp_253 (hg _ _ rfl) rfl (Nat.le_of_ble_eq_true rfl) ⟨Nat.le_of_ble_eq_true rfl, Nat.le_of_ble_eq_true rfl⟩ (zG.andH (qm_253_97 (by decide) hI x1 (by omega) x2 (by omega)) (fh_253_97 x1 x2)) (fun vr M2 hr => ?_)
  obtain ⟨⟨⟨hC2, hF2⟩, -⟩, rfl, hM2⟩ := hr
  have hm := hm_148 hJ.2.2.1 hJ.1.tb hJ.2.1.bd (a1 := x1) (a2 := x2) hJ.2.1.tl
  rw [← hM1] at hm
  rw [← hM2] at hm
  have hJ2 : qJ M2 := hJ.mut hC1 hF1 rfl rfl hC2 hF2 rfl (by decide) hm.2
  show zG n (114, 4080270) 300 311 (1386, [zR 0, zR 8, zR 97, .inl i], [.inl (hf_253_97 M1 x1 x2).1]) M2 _
  refine zG_blk (c' := (2158, [zR 0, zR 8, zR 97, .inl i], [])) 2 (by decide) hz (zsteps_seg hg rfl) ?_
  exact K M2 hJ2
noncomputable def sg_26 : List zE := [(1390, zi_28, 1391, zx0),
  (1391, zi_0, 1392, zx0),
  (1392, zi_1, 1393, zx0),
  (1393, zi_2, 1394, zx0),
  (1394, zi_4, 1395, zx0),
  (1395, zi_8, 1396, zx0),
  (1396, zi_150, 1399, (149, 2, 0, [11])),
  (1399, zi_21, 1400, zx0),
  (1400, zi_39, 1401, zx0),
  (1401, zi_0, 1402, zx0),
  (1402, zi_1, 1403, zx0),
  (1403, zi_2, 1404, zx0),
  (1404, zi_4, 1405, zx0),
  (1405, zi_8, 1406, zx0),
  (1406, .invokevirtual 128, 1409, (254, 2, 0, [12])),
  (1409, zi_21, 1410, zx0),
  (1410, .goto (748), 1413, zx_8)]
set_option maxRecDepth 100000 in
theorem sh_26 : zSeg zk_L_law sg_26 := zSeg_of 1012 17 1390 (by decide +kernel) rfl (by decide +kernel)
set_option maxRecDepth 100000 in
theorem qL_26 (hJ : qJ M) (hn : n ≤ 4096) (hi : 0 ≤ i ∧ i + 8 ≤ n) (K : ∀ M', qJ M' → zG n (114, 4080270) 300 311 (2158, [zR 0, zR 8, zR 97, .inl i], []) M' qLQ) : zG n (114, 4080270) 300 311 (1390, [zR 0, zR 8, zR 97, .inl i], []) M qLQ := by
  have hz := zp_311
  have hg := sh_26
  refine zG_blk (c' := (1395, [zR 0, zR 8, zR 97, .inl i], [.inl (i + 1), zR 0, zR 8])) 5 (by decide) hz (zsteps_seg hg (by rw [show (.inl (i + 1) : zV) = .inl (w32 (i + 1)) from by rw [w32_id (by omega)]]; rfl)) ?_
  refine zG_iald (by decide) hz (hg _ _ rfl) rfl (.inr rfl) (by omega) ?_
  obtain ⟨x1, hx1⟩ : ∃ x : Int, x = M 0 (i + 1).toNat := ⟨_, rfl⟩
  rw [← hx1]
  have hr1 : qin x1 := by rw [hx1]; exact hJ.1.rng 0 _ (by decide) (by decide)
  show zG n (114, 4080270) 300 311 (1396, [zR 0, zR 8, zR 97, .inl i], [.inl x1, zR 8]) M _
  refine zG_call (by decide) hz zp_149 (hg _ _ rfl) rfl (Nat.le_of_ble_eq_true rfl) ⟨Nat.le_of_ble_eq_true rfl, Nat.le_of_ble_eq_true rfl⟩ (zG.andH (qm_149_8 (by decide) hJ.1 x1 (by omega)) (fh_149_8 x1)) (fun vr M1 hr => ?_)
  obtain ⟨⟨⟨hC1, hF1⟩, -⟩, rfl, hM1⟩ := hr
  have hi := hF1.hi rfl
  have hI := hJ.2.1.same hi
  have hc0 : ∀ j, M1 0 j = M 0 j := fun j => hF1 0 j (by decide)
  show zG n (114, 4080270) 300 311 (1399, [zR 0, zR 8, zR 97, .inl i], [.inl (hf_149_8 M x1).1]) M1 _
  refine zG_blk (c' := (1405, [zR 0, zR 8, zR 97, .inl i], [.inl (i + 1), zR 0, zR 97])) 6 (by decide) hz (zsteps_seg hg (by rw [show (.inl (i + 1) : zV) = .inl (w32 (i + 1)) from by rw [w32_id (by omega)]]; rfl)) ?_
  refine zG_iald (by decide) hz (hg _ _ rfl) rfl (.inr rfl) (by omega) ?_
  rw [show M1 0 (i + 1).toNat = x1 from (hc0 _).trans hx1.symm]
  show zG n (114, 4080270) 300 311 (1406, [zR 0, zR 8, zR 97, .inl i], [.inl x1, zR 97]) M1 _
  refine zG_call (by decide) hz zp_254 (hg _ _ rfl) rfl (Nat.le_of_ble_eq_true rfl) ⟨Nat.le_of_ble_eq_true rfl, Nat.le_of_ble_eq_true rfl⟩ (zG.andH (qm_254_97 (by decide) hI x1 (by omega)) (fh_254_97 x1)) (fun vr M2 hr => ?_)
  obtain ⟨⟨⟨hC2, hF2⟩, -⟩, rfl, hM2⟩ := hr
  have hm := hm_149 hJ.2.2.1 hJ.1.tb hJ.2.1.bd (a1 := x1) hJ.2.1.tl
  rw [← hM1] at hm
  rw [← hM2] at hm
  have hJ2 : qJ M2 := hJ.mut hC1 hF1 rfl rfl hC2 hF2 rfl (by decide) hm.2
  show zG n (114, 4080270) 300 311 (1409, [zR 0, zR 8, zR 97, .inl i], [.inl (hf_254_97 M1 x1).1]) M2 _
  refine zG_blk (c' := (2158, [zR 0, zR 8, zR 97, .inl i], [])) 2 (by decide) hz (zsteps_seg hg rfl) ?_
  exact K M2 hJ2
noncomputable def sg_27 : List zE := [(1413, zi_28, 1414, zx0),
  (1414, zi_0, 1415, zx0),
  (1415, zi_1, 1416, zx0),
  (1416, zi_2, 1417, zx0),
  (1417, zi_4, 1418, zx0),
  (1418, zi_8, 1419, zx0),
  (1419, zi_154, 1422, (150, 2, 0, [11])),
  (1422, zi_21, 1423, zx0),
  (1423, zi_39, 1424, zx0),
  (1424, zi_0, 1425, zx0),
  (1425, zi_1, 1426, zx0),
  (1426, zi_2, 1427, zx0),
  (1427, zi_4, 1428, zx0),
  (1428, zi_8, 1429, zx0),
  (1429, .invokevirtual 132, 1432, (255, 2, 0, [12])),
  (1432, zi_21, 1433, zx0),
  (1433, .goto (725), 1436, zx_8)]
set_option maxRecDepth 100000 in
theorem sh_27 : zSeg zk_L_law sg_27 := zSeg_of 1029 17 1413 (by decide +kernel) rfl (by decide +kernel)
set_option maxRecDepth 100000 in
theorem qL_27 (hJ : qJ M) (hn : n ≤ 4096) (hi : 0 ≤ i ∧ i + 8 ≤ n) (K : ∀ M', qJ M' → zG n (114, 4080270) 300 311 (2158, [zR 0, zR 8, zR 97, .inl i], []) M' qLQ) : zG n (114, 4080270) 300 311 (1413, [zR 0, zR 8, zR 97, .inl i], []) M qLQ := by
  have hz := zp_311
  have hg := sh_27
  refine zG_blk (c' := (1418, [zR 0, zR 8, zR 97, .inl i], [.inl (i + 1), zR 0, zR 8])) 5 (by decide) hz (zsteps_seg hg (by rw [show (.inl (i + 1) : zV) = .inl (w32 (i + 1)) from by rw [w32_id (by omega)]]; rfl)) ?_
  refine zG_iald (by decide) hz (hg _ _ rfl) rfl (.inr rfl) (by omega) ?_
  obtain ⟨x1, hx1⟩ : ∃ x : Int, x = M 0 (i + 1).toNat := ⟨_, rfl⟩
  rw [← hx1]
  have hr1 : qin x1 := by rw [hx1]; exact hJ.1.rng 0 _ (by decide) (by decide)
  show zG n (114, 4080270) 300 311 (1419, [zR 0, zR 8, zR 97, .inl i], [.inl x1, zR 8]) M _
  refine zG_call (by decide) hz zp_150 (hg _ _ rfl) rfl (Nat.le_of_ble_eq_true rfl) ⟨Nat.le_of_ble_eq_true rfl, Nat.le_of_ble_eq_true rfl⟩ (qm_150_8 (by decide) hJ.1 x1 (by omega)) (fun vr M1 hr => ?_)
  obtain ⟨⟨hCM1, hFM1⟩, hr⟩ := hr
  have hJM1 : qJ M1 := hJ.cls hCM1 hFM1 rfl rfl
  have hc0 : ∀ j, M1 0 j = M 0 j := fun j => hFM1 0 j (by decide)
  obtain ⟨r1, rfl, -⟩ := hr
  show zG n (114, 4080270) 300 311 (1422, [zR 0, zR 8, zR 97, .inl i], [.inl r1]) M1 _
  refine zG_blk (c' := (1428, [zR 0, zR 8, zR 97, .inl i], [.inl (i + 1), zR 0, zR 97])) 6 (by decide) hz (zsteps_seg hg (by rw [show (.inl (i + 1) : zV) = .inl (w32 (i + 1)) from by rw [w32_id (by omega)]]; rfl)) ?_
  refine zG_iald (by decide) hz (hg _ _ rfl) rfl (.inr rfl) (by omega) ?_
  rw [show M1 0 (i + 1).toNat = x1 from (hc0 _).trans hx1.symm]
  show zG n (114, 4080270) 300 311 (1429, [zR 0, zR 8, zR 97, .inl i], [.inl x1, zR 97]) M1 _
  refine zG_call (by decide) hz zp_255 (hg _ _ rfl) rfl (Nat.le_of_ble_eq_true rfl) ⟨Nat.le_of_ble_eq_true rfl, Nat.le_of_ble_eq_true rfl⟩ (qm_255_97 (by decide) hJM1.2.1 x1 (by omega)) (fun vr M2 hr => ?_)
  obtain ⟨⟨hCM2, hFM2⟩, hr⟩ := hr
  have hJM2 : qJ M2 := hJM1.mdl hCM2 hFM2 rfl (by decide) (fun j _ _ _ _ => hFM2.ar 98 j (by decide) (by decide))
  obtain ⟨r2, hv9⟩ := hr
  first | (obtain ⟨rfl, -⟩ := hv9) | (obtain rfl := hv9)
  show zG n (114, 4080270) 300 311 (1432, [zR 0, zR 8, zR 97, .inl i], [.inl r2]) M2 _
  refine zG_blk (c' := (2158, [zR 0, zR 8, zR 97, .inl i], [])) 2 (by decide) hz (zsteps_seg hg rfl) ?_
  exact K M2 hJM2
noncomputable def sg_28 : List zE := [(1436, zi_28, 1437, zx0),
  (1437, zi_0, 1438, zx0),
  (1438, zi_1, 1439, zx0),
  (1439, zi_2, 1440, zx0),
  (1440, zi_4, 1441, zx0),
  (1441, zi_8, 1442, zx0),
  (1442, zi_0, 1443, zx0),
  (1443, zi_1, 1444, zx0),
  (1444, zi_11, 1445, zx0),
  (1445, zi_4, 1446, zx0),
  (1446, zi_8, 1447, zx0),
  (1447, zi_0, 1448, zx0),
  (1448, zi_1, 1449, zx0),
  (1449, zi_13, 1450, zx0),
  (1450, zi_4, 1451, zx0),
  (1451, zi_8, 1452, zx0),
  (1452, zi_0, 1453, zx0),
  (1453, zi_1, 1454, zx0),
  (1454, zi_17, 1455, zx0),
  (1455, zi_4, 1456, zx0),
  (1456, zi_8, 1457, zx0),
  (1457, zi_0, 1458, zx0),
  (1458, zi_1, 1459, zx0),
  (1459, zi_32, 1460, zx0),
  (1460, zi_4, 1461, zx0),
  (1461, zi_8, 1462, zx0),
  (1462, zi_94, 1465, (151, 6, 0, [11])),
  (1465, zi_256, 1466, zx0),
  (1466, zi_39, 1467, zx0),
  (1467, zi_0, 1468, zx0),
  (1468, zi_1, 1469, zx0),
  (1469, zi_2, 1470, zx0),
  (1470, zi_4, 1471, zx0),
  (1471, zi_8, 1472, zx0),
  (1472, zi_0, 1473, zx0),
  (1473, zi_1, 1474, zx0),
  (1474, zi_11, 1475, zx0),
  (1475, zi_4, 1476, zx0),
  (1476, zi_8, 1477, zx0),
  (1477, zi_0, 1478, zx0),
  (1478, zi_1, 1479, zx0),
  (1479, zi_13, 1480, zx0),
  (1480, zi_4, 1481, zx0),
  (1481, zi_8, 1482, zx0),
  (1482, zi_0, 1483, zx0),
  (1483, zi_1, 1484, zx0),
  (1484, zi_17, 1485, zx0),
  (1485, zi_4, 1486, zx0),
  (1486, zi_8, 1487, zx0),
  (1487, zi_0, 1488, zx0),
  (1488, zi_1, 1489, zx0),
  (1489, zi_32, 1490, zx0),
  (1490, zi_4, 1491, zx0),
  (1491, zi_8, 1492, zx0),
  (1492, zi_394, 1495, (256, 6, 0, [12])),
  (1495, zi_256, 1496, zx0),
  (1496, .goto (662), 1499, zx_8)]
set_option maxRecDepth 100000 in
theorem sh_28 : zSeg zk_L_law sg_28 := zSeg_of 1046 57 1436 (by decide +kernel) rfl (by decide +kernel)
set_option maxRecDepth 100000 in
theorem qL_28 (hJ : qJ M) (hn : n ≤ 4096) (hi : 0 ≤ i ∧ i + 8 ≤ n) (K : ∀ M', qJ M' → zG n (114, 4080270) 300 311 (2158, [zR 0, zR 8, zR 97, .inl i], []) M' qLQ) : zG n (114, 4080270) 300 311 (1436, [zR 0, zR 8, zR 97, .inl i], []) M qLQ := by
  have hz := zp_311
  have hg := sh_28
  refine zG_blk (c' := (1441, [zR 0, zR 8, zR 97, .inl i], [.inl (i + 1), zR 0, zR 8])) 5 (by decide) hz (zsteps_seg hg (by rw [show (.inl (i + 1) : zV) = .inl (w32 (i + 1)) from by rw [w32_id (by omega)]]; rfl)) ?_
  refine zG_iald (by decide) hz (hg _ _ rfl) rfl (.inr rfl) (by omega) ?_
  obtain ⟨x1, hx1⟩ : ∃ x : Int, x = M 0 (i + 1).toNat := ⟨_, rfl⟩
  rw [← hx1]
  have hr1 : qin x1 := by rw [hx1]; exact hJ.1.rng 0 _ (by decide) (by decide)
  show zG n (114, 4080270) 300 311 (1442, [zR 0, zR 8, zR 97, .inl i], [.inl x1, zR 8]) M _
  refine zG_blk (c' := (1446, [zR 0, zR 8, zR 97, .inl i], [.inl (i + 2), zR 0, .inl x1, zR 8])) 4 (by decide) hz (zsteps_seg hg (by rw [show (.inl (i + 2) : zV) = .inl (w32 (i + 2)) from by rw [w32_id (by omega)]]; rfl)) ?_
  refine zG_iald (by decide) hz (hg _ _ rfl) rfl (.inr rfl) (by omega) ?_
  obtain ⟨x2, hx2⟩ : ∃ x : Int, x = M 0 (i + 2).toNat := ⟨_, rfl⟩
  rw [← hx2]
  have hr2 : qin x2 := by rw [hx2]; exact hJ.1.rng 0 _ (by decide) (by decide)
  show zG n (114, 4080270) 300 311 (1447, [zR 0, zR 8, zR 97, .inl i], [.inl x2, .inl x1, zR 8]) M _
  refine zG_blk (c' := (1451, [zR 0, zR 8, zR 97, .inl i], [.inl (i + 3), zR 0, .inl x2, .inl x1, zR 8])) 4 (by decide) hz (zsteps_seg hg (by rw [show (.inl (i + 3) : zV) = .inl (w32 (i + 3)) from by rw [w32_id (by omega)]]; rfl)) ?_
  refine zG_iald (by decide) hz (hg _ _ rfl) rfl (.inr rfl) (by omega) ?_
  obtain ⟨x3, hx3⟩ : ∃ x : Int, x = M 0 (i + 3).toNat := ⟨_, rfl⟩
  rw [← hx3]
  have hr3 : qin x3 := by rw [hx3]; exact hJ.1.rng 0 _ (by decide) (by decide)
  show zG n (114, 4080270) 300 311 (1452, [zR 0, zR 8, zR 97, .inl i], [.inl x3, .inl x2, .inl x1, zR 8]) M _
  refine zG_blk (c' := (1456, [zR 0, zR 8, zR 97, .inl i], [.inl (i + 4), zR 0, .inl x3, .inl x2, .inl x1, zR 8])) 4 (by decide) hz (zsteps_seg hg (by rw [show (.inl (i + 4) : zV) = .inl (w32 (i + 4)) from by rw [w32_id (by omega)]]; rfl)) ?_
  refine zG_iald (by decide) hz (hg _ _ rfl) rfl (.inr rfl) (by omega) ?_
  obtain ⟨x4, hx4⟩ : ∃ x : Int, x = M 0 (i + 4).toNat := ⟨_, rfl⟩
  rw [← hx4]
  have hr4 : qin x4 := by rw [hx4]; exact hJ.1.rng 0 _ (by decide) (by decide)
  show zG n (114, 4080270) 300 311 (1457, [zR 0, zR 8, zR 97, .inl i], [.inl x4, .inl x3, .inl x2, .inl x1, zR 8]) M _
  refine zG_blk (c' := (1461, [zR 0, zR 8, zR 97, .inl i], [.inl (i + 5), zR 0, .inl x4, .inl x3, .inl x2, .inl x1, zR 8])) 4 (by decide) hz (zsteps_seg hg (by rw [show (.inl (i + 5) : zV) = .inl (w32 (i + 5)) from by rw [w32_id (by omega)]]; rfl)) ?_
  refine zG_iald (by decide) hz (hg _ _ rfl) rfl (.inr rfl) (by omega) ?_
  obtain ⟨x5, hx5⟩ : ∃ x : Int, x = M 0 (i + 5).toNat := ⟨_, rfl⟩
  rw [← hx5]
  have hr5 : qin x5 := by rw [hx5]; exact hJ.1.rng 0 _ (by decide) (by decide)
  show zG n (114, 4080270) 300 311 (1462, [zR 0, zR 8, zR 97, .inl i], [.inl x5, .inl x4, .inl x3, .inl x2, .inl x1, zR 8]) M _
  refine zG_call (by decide) hz zp_151 (hg _ _ rfl) rfl (Nat.le_of_ble_eq_true rfl) ⟨Nat.le_of_ble_eq_true rfl, Nat.le_of_ble_eq_true rfl⟩ (qm_151_8 (by decide) hJ.1 x1 (by omega) x2 (by omega) x3 (by omega) x4 (by omega) x5 (by omega)) (fun vr M1 hr => ?_)
  obtain ⟨⟨hCM1, hFM1⟩, hr⟩ := hr
  have hJM1 : qJ M1 := hJ.cls hCM1 hFM1 rfl rfl
  have hc0 : ∀ j, M1 0 j = M 0 j := fun j => hFM1 0 j (by decide)
  obtain ⟨r1, rfl⟩ := hr
  show zG n (114, 4080270) 300 311 (1465, [zR 0, zR 8, zR 97, .inl i], [(.inr (.inl r1))]) M1 _
  refine zG_blk (c' := (1471, [zR 0, zR 8, zR 97, .inl i], [.inl (i + 1), zR 0, zR 97])) 6 (by decide) hz (zsteps_seg hg (by rw [show (.inl (i + 1) : zV) = .inl (w32 (i + 1)) from by rw [w32_id (by omega)]]; rfl)) ?_
  refine zG_iald (by decide) hz (hg _ _ rfl) rfl (.inr rfl) (by omega) ?_
  rw [show M1 0 (i + 1).toNat = x1 from (hc0 _).trans hx1.symm]
  show zG n (114, 4080270) 300 311 (1472, [zR 0, zR 8, zR 97, .inl i], [.inl x1, zR 97]) M1 _
  refine zG_blk (c' := (1476, [zR 0, zR 8, zR 97, .inl i], [.inl (i + 2), zR 0, .inl x1, zR 97])) 4 (by decide) hz (zsteps_seg hg (by rw [show (.inl (i + 2) : zV) = .inl (w32 (i + 2)) from by rw [w32_id (by omega)]]; rfl)) ?_
  refine zG_iald (by decide) hz (hg _ _ rfl) rfl (.inr rfl) (by omega) ?_
  rw [show M1 0 (i + 2).toNat = x2 from (hc0 _).trans hx2.symm]
  show zG n (114, 4080270) 300 311 (1477, [zR 0, zR 8, zR 97, .inl i], [.inl x2, .inl x1, zR 97]) M1 _
  refine zG_blk (c' := (1481, [zR 0, zR 8, zR 97, .inl i], [.inl (i + 3), zR 0, .inl x2, .inl x1, zR 97])) 4 (by decide) hz (zsteps_seg hg (by rw [show (.inl (i + 3) : zV) = .inl (w32 (i + 3)) from by rw [w32_id (by omega)]]; rfl)) ?_
  refine zG_iald (by decide) hz (hg _ _ rfl) rfl (.inr rfl) (by omega) ?_
  rw [show M1 0 (i + 3).toNat = x3 from (hc0 _).trans hx3.symm]
  show zG n (114, 4080270) 300 311 (1482, [zR 0, zR 8, zR 97, .inl i], [.inl x3, .inl x2, .inl x1, zR 97]) M1 _
  refine zG_blk (c' := (1486, [zR 0, zR 8, zR 97, .inl i], [.inl (i + 4), zR 0, .inl x3, .inl x2, .inl x1, zR 97])) 4 (by decide) hz (zsteps_seg hg (by rw [show (.inl (i + 4) : zV) = .inl (w32 (i + 4)) from by rw [w32_id (by omega)]]; rfl)) ?_
  refine zG_iald (by decide) hz (hg _ _ rfl) rfl (.inr rfl) (by omega) ?_
  rw [show M1 0 (i + 4).toNat = x4 from (hc0 _).trans hx4.symm]
  show zG n (114, 4080270) 300 311 (1487, [zR 0, zR 8, zR 97, .inl i], [.inl x4, .inl x3, .inl x2, .inl x1, zR 97]) M1 _
  refine zG_blk (c' := (1491, [zR 0, zR 8, zR 97, .inl i], [.inl (i + 5), zR 0, .inl x4, .inl x3, .inl x2, .inl x1, zR 97])) 4 (by decide) hz (zsteps_seg hg (by rw [show (.inl (i + 5) : zV) = .inl (w32 (i + 5)) from by rw [w32_id (by omega)]]; rfl)) ?_
  refine zG_iald (by decide) hz (hg _ _ rfl) rfl (.inr rfl) (by omega) ?_
  rw [show M1 0 (i + 5).toNat = x5 from (hc0 _).trans hx5.symm]
  show zG n (114, 4080270) 300 311 (1492, [zR 0, zR 8, zR 97, .inl i], [.inl x5, .inl x4, .inl x3, .inl x2, .inl x1, zR 97]) M1 _
  refine zG_call (by decide) hz zp_256 (hg _ _ rfl) rfl (Nat.le_of_ble_eq_true rfl) ⟨Nat.le_of_ble_eq_true rfl, Nat.le_of_ble_eq_true rfl⟩ (qm_256_97 (by decide) hJM1.2.1 x1 (by omega) x2 (by omega) x3 (by omega) x4 (by omega) x5 (by omega)) (fun vr M2 hr => ?_)
  obtain ⟨⟨hCM2, hFM2⟩, hr⟩ := hr
  have hJM2 : qJ M2 := hJM1.mdl hCM2 hFM2 rfl (by decide) (fun j _ _ _ _ => hFM2.ar 98 j (by decide) (by decide))
  obtain ⟨r2, hv9⟩ := hr
  first | (obtain ⟨rfl, -⟩ := hv9) | (obtain rfl := hv9)
  show zG n (114, 4080270) 300 311 (1495, [zR 0, zR 8, zR 97, .inl i], [(.inr (.inl r2))]) M2 _
  refine zG_blk (c' := (2158, [zR 0, zR 8, zR 97, .inl i], [])) 2 (by decide) hz (zsteps_seg hg rfl) ?_
  exact K M2 hJM2
noncomputable def sg_29 : List zE := [(1499, zi_28, 1500, zx0),
  (1500, zi_0, 1501, zx0),
  (1501, zi_1, 1502, zx0),
  (1502, zi_2, 1503, zx0),
  (1503, zi_4, 1504, zx0),
  (1504, zi_8, 1505, zx0),
  (1505, zi_0, 1506, zx0),
  (1506, zi_1, 1507, zx0),
  (1507, zi_11, 1508, zx0),
  (1508, zi_4, 1509, zx0),
  (1509, zi_8, 1510, zx0),
  (1510, zi_0, 1511, zx0),
  (1511, zi_1, 1512, zx0),
  (1512, zi_13, 1513, zx0),
  (1513, zi_4, 1514, zx0),
  (1514, zi_8, 1515, zx0),
  (1515, zi_0, 1516, zx0),
  (1516, zi_1, 1517, zx0),
  (1517, zi_17, 1518, zx0),
  (1518, zi_4, 1519, zx0),
  (1519, zi_8, 1520, zx0),
  (1520, zi_53, 1523, (1527, 0, 0, [])),
  (1523, zi_2, 1524, zx0),
  (1524, zi_15, 1527, (1528, 0, 0, [])),
  (1527, zi_5, 1528, zx0),
  (1528, .invokevirtual 138, 1531, (152, 5, 0, [11])),
  (1531, zi_21, 1532, zx0),
  (1532, zi_39, 1533, zx0),
  (1533, zi_0, 1534, zx0),
  (1534, zi_1, 1535, zx0),
  (1535, zi_2, 1536, zx0),
  (1536, zi_4, 1537, zx0),
  (1537, zi_8, 1538, zx0),
  (1538, zi_0, 1539, zx0),
  (1539, zi_1, 1540, zx0),
  (1540, zi_11, 1541, zx0),
  (1541, zi_4, 1542, zx0),
  (1542, zi_8, 1543, zx0),
  (1543, zi_0, 1544, zx0),
  (1544, zi_1, 1545, zx0),
  (1545, zi_13, 1546, zx0),
  (1546, zi_4, 1547, zx0),
  (1547, zi_8, 1548, zx0),
  (1548, zi_0, 1549, zx0),
  (1549, zi_1, 1550, zx0),
  (1550, zi_17, 1551, zx0),
  (1551, zi_4, 1552, zx0),
  (1552, zi_8, 1553, zx0),
  (1553, zi_53, 1556, (1560, 0, 0, [])),
  (1556, zi_2, 1557, zx0),
  (1557, zi_15, 1560, (1561, 0, 0, [])),
  (1560, zi_5, 1561, zx0),
  (1561, zi_321, 1564, (257, 5, 0, [12])),
  (1564, zi_21, 1565, zx0),
  (1565, .goto (593), 1568, zx_8)]
set_option maxRecDepth 100000 in
theorem sh_29 : zSeg zk_L_law sg_29 := zSeg_of 1103 55 1499 (by decide +kernel) rfl (by decide +kernel)
set_option maxRecDepth 100000 in
theorem qL_29 (hJ : qJ M) (hn : n ≤ 4096) (hi : 0 ≤ i ∧ i + 8 ≤ n) (K : ∀ M', qJ M' → zG n (114, 4080270) 300 311 (2158, [zR 0, zR 8, zR 97, .inl i], []) M' qLQ) : zG n (114, 4080270) 300 311 (1499, [zR 0, zR 8, zR 97, .inl i], []) M qLQ := by
  have hz := zp_311
  have hg := sh_29
  refine zG_blk (c' := (1504, [zR 0, zR 8, zR 97, .inl i], [.inl (i + 1), zR 0, zR 8])) 5 (by decide) hz (zsteps_seg hg (by rw [show (.inl (i + 1) : zV) = .inl (w32 (i + 1)) from by rw [w32_id (by omega)]]; rfl)) ?_
  refine zG_iald (by decide) hz (hg _ _ rfl) rfl (.inr rfl) (by omega) ?_
  obtain ⟨x1, hx1⟩ : ∃ x : Int, x = M 0 (i + 1).toNat := ⟨_, rfl⟩
  rw [← hx1]
  have hr1 : qin x1 := by rw [hx1]; exact hJ.1.rng 0 _ (by decide) (by decide)
  show zG n (114, 4080270) 300 311 (1505, [zR 0, zR 8, zR 97, .inl i], [.inl x1, zR 8]) M _
  refine zG_blk (c' := (1509, [zR 0, zR 8, zR 97, .inl i], [.inl (i + 2), zR 0, .inl x1, zR 8])) 4 (by decide) hz (zsteps_seg hg (by rw [show (.inl (i + 2) : zV) = .inl (w32 (i + 2)) from by rw [w32_id (by omega)]]; rfl)) ?_
  refine zG_iald (by decide) hz (hg _ _ rfl) rfl (.inr rfl) (by omega) ?_
  obtain ⟨x2, hx2⟩ : ∃ x : Int, x = M 0 (i + 2).toNat := ⟨_, rfl⟩
  rw [← hx2]
  have hr2 : qin x2 := by rw [hx2]; exact hJ.1.rng 0 _ (by decide) (by decide)
  show zG n (114, 4080270) 300 311 (1510, [zR 0, zR 8, zR 97, .inl i], [.inl x2, .inl x1, zR 8]) M _
  refine zG_blk (c' := (1514, [zR 0, zR 8, zR 97, .inl i], [.inl (i + 3), zR 0, .inl x2, .inl x1, zR 8])) 4 (by decide) hz (zsteps_seg hg (by rw [show (.inl (i + 3) : zV) = .inl (w32 (i + 3)) from by rw [w32_id (by omega)]]; rfl)) ?_
  refine zG_iald (by decide) hz (hg _ _ rfl) rfl (.inr rfl) (by omega) ?_
  obtain ⟨x3, hx3⟩ : ∃ x : Int, x = M 0 (i + 3).toNat := ⟨_, rfl⟩
  rw [← hx3]
  have hr3 : qin x3 := by rw [hx3]; exact hJ.1.rng 0 _ (by decide) (by decide)
  show zG n (114, 4080270) 300 311 (1515, [zR 0, zR 8, zR 97, .inl i], [.inl x3, .inl x2, .inl x1, zR 8]) M _
  refine zG_blk (c' := (1519, [zR 0, zR 8, zR 97, .inl i], [.inl (i + 4), zR 0, .inl x3, .inl x2, .inl x1, zR 8])) 4 (by decide) hz (zsteps_seg hg (by rw [show (.inl (i + 4) : zV) = .inl (w32 (i + 4)) from by rw [w32_id (by omega)]]; rfl)) ?_
  refine zG_iald (by decide) hz (hg _ _ rfl) rfl (.inr rfl) (by omega) ?_
  obtain ⟨x4, hx4⟩ : ∃ x : Int, x = M 0 (i + 4).toNat := ⟨_, rfl⟩
  rw [← hx4]
  have hr4 : qin x4 := by rw [hx4]; exact hJ.1.rng 0 _ (by decide) (by decide)
  show zG n (114, 4080270) 300 311 (1520, [zR 0, zR 8, zR 97, .inl i], [.inl x4, .inl x3, .inl x2, .inl x1, zR 8]) M _
  have j1528 : ∀ b1520 : Int, ((x4 = 0 ∧ b1520 = 0) ∨ (¬ x4 = 0 ∧ b1520 = 1)) → zG n (114, 4080270) 300 311 (1528, [zR 0, zR 8, zR 97, .inl i], [.inl b1520, .inl x3, .inl x2, .inl x1, zR 8]) M qLQ := by
    intro b1520 hb1520
    refine zG_call (by decide) hz zp_152 (hg _ _ rfl) rfl (Nat.le_of_ble_eq_true rfl) ⟨Nat.le_of_ble_eq_true rfl, Nat.le_of_ble_eq_true rfl⟩ (qm_152_8 (by decide) hJ.1 x1 (by omega) x2 (by omega) x3 (by omega) b1520 (by omega)) (fun vr M1 hr => ?_)
    obtain ⟨⟨hCM1, hFM1⟩, hr⟩ := hr
    have hJM1 : qJ M1 := hJ.cls hCM1 hFM1 rfl rfl
    have hc0 : ∀ j, M1 0 j = M 0 j := fun j => hFM1 0 j (by decide)
    obtain ⟨r1, rfl, -⟩ := hr
    show zG n (114, 4080270) 300 311 (1531, [zR 0, zR 8, zR 97, .inl i], [.inl r1]) M1 _
    refine zG_blk (c' := (1537, [zR 0, zR 8, zR 97, .inl i], [.inl (i + 1), zR 0, zR 97])) 6 (by decide) hz (zsteps_seg hg (by rw [show (.inl (i + 1) : zV) = .inl (w32 (i + 1)) from by rw [w32_id (by omega)]]; rfl)) ?_
    refine zG_iald (by decide) hz (hg _ _ rfl) rfl (.inr rfl) (by omega) ?_
    rw [show M1 0 (i + 1).toNat = x1 from (hc0 _).trans hx1.symm]
    show zG n (114, 4080270) 300 311 (1538, [zR 0, zR 8, zR 97, .inl i], [.inl x1, zR 97]) M1 _
    refine zG_blk (c' := (1542, [zR 0, zR 8, zR 97, .inl i], [.inl (i + 2), zR 0, .inl x1, zR 97])) 4 (by decide) hz (zsteps_seg hg (by rw [show (.inl (i + 2) : zV) = .inl (w32 (i + 2)) from by rw [w32_id (by omega)]]; rfl)) ?_
    refine zG_iald (by decide) hz (hg _ _ rfl) rfl (.inr rfl) (by omega) ?_
    rw [show M1 0 (i + 2).toNat = x2 from (hc0 _).trans hx2.symm]
    show zG n (114, 4080270) 300 311 (1543, [zR 0, zR 8, zR 97, .inl i], [.inl x2, .inl x1, zR 97]) M1 _
    refine zG_blk (c' := (1547, [zR 0, zR 8, zR 97, .inl i], [.inl (i + 3), zR 0, .inl x2, .inl x1, zR 97])) 4 (by decide) hz (zsteps_seg hg (by rw [show (.inl (i + 3) : zV) = .inl (w32 (i + 3)) from by rw [w32_id (by omega)]]; rfl)) ?_
    refine zG_iald (by decide) hz (hg _ _ rfl) rfl (.inr rfl) (by omega) ?_
    rw [show M1 0 (i + 3).toNat = x3 from (hc0 _).trans hx3.symm]
    show zG n (114, 4080270) 300 311 (1548, [zR 0, zR 8, zR 97, .inl i], [.inl x3, .inl x2, .inl x1, zR 97]) M1 _
    refine zG_blk (c' := (1552, [zR 0, zR 8, zR 97, .inl i], [.inl (i + 4), zR 0, .inl x3, .inl x2, .inl x1, zR 97])) 4 (by decide) hz (zsteps_seg hg (by rw [show (.inl (i + 4) : zV) = .inl (w32 (i + 4)) from by rw [w32_id (by omega)]]; rfl)) ?_
    refine zG_iald (by decide) hz (hg _ _ rfl) rfl (.inr rfl) (by omega) ?_
    rw [show M1 0 (i + 4).toNat = x4 from (hc0 _).trans hx4.symm]
    show zG n (114, 4080270) 300 311 (1553, [zR 0, zR 8, zR 97, .inl i], [.inl x4, .inl x3, .inl x2, .inl x1, zR 97]) M1 _
    have j1561 : zG n (114, 4080270) 300 311 (1561, [zR 0, zR 8, zR 97, .inl i], [.inl b1520, .inl x3, .inl x2, .inl x1, zR 97]) M1 qLQ := by
      refine zG_call (by decide) hz zp_257 (hg _ _ rfl) rfl (Nat.le_of_ble_eq_true rfl) ⟨Nat.le_of_ble_eq_true rfl, Nat.le_of_ble_eq_true rfl⟩ (qn_257_97 (by decide) hJM1.2.1 x1 (by omega) x2 (by omega) x3 (by omega) b1520 (by omega)) (fun vr M2 hr => ?_)
      obtain ⟨⟨hCM2, hFM2⟩, hr⟩ := hr
      have h9 : ∀ j : Nat, j ≠ 5 ∧ ((j : Int) < 4000 ∨ 5640 ≤ j) → M2 98 j = M1 98 j := by obtain ⟨x9, -, -, h9⟩ := hr; exact h9
      have hJM2 : qJ M2 := hJM1.mdl hCM2 hFM2 rfl (by decide) (fun j _ h5 h6 _ => h9 j (by omega))
      obtain ⟨r2, hv9⟩ := hr
      first | (obtain ⟨rfl, -⟩ := hv9) | (obtain rfl := hv9)
      show zG n (114, 4080270) 300 311 (1564, [zR 0, zR 8, zR 97, .inl i], [.inl r2]) M2 _
      refine zG_blk (c' := (2158, [zR 0, zR 8, zR 97, .inl i], [])) 2 (by decide) hz (zsteps_seg hg rfl) ?_
      exact K M2 hJM2
    refine zG_if_eq (by decide) hz (hg _ _ rfl) (fun hb => ?_) (fun hb => ?_)
    · exact zG_blk (c' := (1561, [zR 0, zR 8, zR 97, .inl i], [.inl b1520, .inl x3, .inl x2, .inl x1, zR 97])) 1 (by decide) hz (zsteps_seg hg (by rw [show b1520 = 0 by omega]; rfl)) j1561
    · exact zG_blk (c' := (1561, [zR 0, zR 8, zR 97, .inl i], [.inl b1520, .inl x3, .inl x2, .inl x1, zR 97])) 2 (by decide) hz (zsteps_seg hg (by rw [show b1520 = 1 by omega]; rfl)) j1561
  refine zG_if_eq (by decide) hz (hg _ _ rfl) (fun hb => ?_) (fun hb => ?_)
  · exact zG_blk (c' := (1528, [zR 0, zR 8, zR 97, .inl i], [.inl 0, .inl x3, .inl x2, .inl x1, zR 8])) 1 (by decide) hz (zsteps_seg hg rfl) (j1528 0 (.inl ⟨hb, rfl⟩))
  · exact zG_blk (c' := (1528, [zR 0, zR 8, zR 97, .inl i], [.inl 1, .inl x3, .inl x2, .inl x1, zR 8])) 2 (by decide) hz (zsteps_seg hg rfl) (j1528 1 (.inr ⟨hb, rfl⟩))
noncomputable def sg_30 : List zE := [(1568, zi_28, 1569, zx0),
  (1569, zi_0, 1570, zx0),
  (1570, zi_1, 1571, zx0),
  (1571, zi_2, 1572, zx0),
  (1572, zi_4, 1573, zx0),
  (1573, zi_8, 1574, zx0),
  (1574, zi_0, 1575, zx0),
  (1575, zi_1, 1576, zx0),
  (1576, zi_11, 1577, zx0),
  (1577, zi_4, 1578, zx0),
  (1578, zi_8, 1579, zx0),
  (1579, zi_352, 1582, (153, 3, 0, [11])),
  (1582, zi_21, 1583, zx0),
  (1583, zi_39, 1584, zx0),
  (1584, zi_0, 1585, zx0),
  (1585, zi_1, 1586, zx0),
  (1586, zi_2, 1587, zx0),
  (1587, zi_4, 1588, zx0),
  (1588, zi_8, 1589, zx0),
  (1589, zi_0, 1590, zx0),
  (1590, zi_1, 1591, zx0),
  (1591, zi_11, 1592, zx0),
  (1592, zi_4, 1593, zx0),
  (1593, zi_8, 1594, zx0),
  (1594, zi_585, 1597, (258, 3, 0, [12])),
  (1597, zi_21, 1598, zx0),
  (1598, .goto (560), 1601, zx_8)]
set_option maxRecDepth 100000 in
theorem sh_30 : zSeg zk_L_law sg_30 := zSeg_of 1158 27 1568 (by decide +kernel) rfl (by decide +kernel)
set_option maxRecDepth 100000 in
theorem qL_30 (hJ : qJ M) (hn : n ≤ 4096) (hi : 0 ≤ i ∧ i + 8 ≤ n) (K : ∀ M', qJ M' → zG n (114, 4080270) 300 311 (2158, [zR 0, zR 8, zR 97, .inl i], []) M' qLQ) : zG n (114, 4080270) 300 311 (1568, [zR 0, zR 8, zR 97, .inl i], []) M qLQ := by
  have hz := zp_311
  have hg := sh_30
  refine zG_blk (c' := (1573, [zR 0, zR 8, zR 97, .inl i], [.inl (i + 1), zR 0, zR 8])) 5 (by decide) hz (zsteps_seg hg (by rw [show (.inl (i + 1) : zV) = .inl (w32 (i + 1)) from by rw [w32_id (by omega)]]; rfl)) ?_
  refine zG_iald (by decide) hz (hg _ _ rfl) rfl (.inr rfl) (by omega) ?_
  obtain ⟨x1, hx1⟩ : ∃ x : Int, x = M 0 (i + 1).toNat := ⟨_, rfl⟩
  rw [← hx1]
  have hr1 : qin x1 := by rw [hx1]; exact hJ.1.rng 0 _ (by decide) (by decide)
  show zG n (114, 4080270) 300 311 (1574, [zR 0, zR 8, zR 97, .inl i], [.inl x1, zR 8]) M _
  refine zG_blk (c' := (1578, [zR 0, zR 8, zR 97, .inl i], [.inl (i + 2), zR 0, .inl x1, zR 8])) 4 (by decide) hz (zsteps_seg hg (by rw [show (.inl (i + 2) : zV) = .inl (w32 (i + 2)) from by rw [w32_id (by omega)]]; rfl)) ?_
  refine zG_iald (by decide) hz (hg _ _ rfl) rfl (.inr rfl) (by omega) ?_
  obtain ⟨x2, hx2⟩ : ∃ x : Int, x = M 0 (i + 2).toNat := ⟨_, rfl⟩
  rw [← hx2]
  have hr2 : qin x2 := by rw [hx2]; exact hJ.1.rng 0 _ (by decide) (by decide)
  show zG n (114, 4080270) 300 311 (1579, [zR 0, zR 8, zR 97, .inl i], [.inl x2, .inl x1, zR 8]) M _
  refine zG_call (by decide) hz zp_153 (hg _ _ rfl) rfl (Nat.le_of_ble_eq_true rfl) ⟨Nat.le_of_ble_eq_true rfl, Nat.le_of_ble_eq_true rfl⟩ (zG.andH (qm_153_8 (by decide) hJ.1 x1 (by omega) x2 (by omega)) (fh_153_8 x1 x2)) (fun vr M1 hr => ?_)
  obtain ⟨⟨⟨hC1, hF1⟩, -⟩, rfl, hM1⟩ := hr
  have hi := hF1.hi rfl
  have hI := hJ.2.1.same hi
  have hc0 : ∀ j, M1 0 j = M 0 j := fun j => hF1 0 j (by decide)
  show zG n (114, 4080270) 300 311 (1582, [zR 0, zR 8, zR 97, .inl i], [.inl (hf_153_8 M x1 x2).1]) M1 _
  refine zG_blk (c' := (1588, [zR 0, zR 8, zR 97, .inl i], [.inl (i + 1), zR 0, zR 97])) 6 (by decide) hz (zsteps_seg hg (by rw [show (.inl (i + 1) : zV) = .inl (w32 (i + 1)) from by rw [w32_id (by omega)]]; rfl)) ?_
  refine zG_iald (by decide) hz (hg _ _ rfl) rfl (.inr rfl) (by omega) ?_
  rw [show M1 0 (i + 1).toNat = x1 from (hc0 _).trans hx1.symm]
  show zG n (114, 4080270) 300 311 (1589, [zR 0, zR 8, zR 97, .inl i], [.inl x1, zR 97]) M1 _
  refine zG_blk (c' := (1593, [zR 0, zR 8, zR 97, .inl i], [.inl (i + 2), zR 0, .inl x1, zR 97])) 4 (by decide) hz (zsteps_seg hg (by rw [show (.inl (i + 2) : zV) = .inl (w32 (i + 2)) from by rw [w32_id (by omega)]]; rfl)) ?_
  refine zG_iald (by decide) hz (hg _ _ rfl) rfl (.inr rfl) (by omega) ?_
  rw [show M1 0 (i + 2).toNat = x2 from (hc0 _).trans hx2.symm]
  show zG n (114, 4080270) 300 311 (1594, [zR 0, zR 8, zR 97, .inl i], [.inl x2, .inl x1, zR 97]) M1 _
  refine zG_call (by decide) hz zp_258 (hg _ _ rfl) rfl (Nat.le_of_ble_eq_true rfl) ⟨Nat.le_of_ble_eq_true rfl, Nat.le_of_ble_eq_true rfl⟩ (zG.andH (qm_258_97 (by decide) hI x1 (by omega) x2 (by omega)) (fh_258_97 x1 x2)) (fun vr M2 hr => ?_)
  obtain ⟨⟨⟨hC2, hF2⟩, -⟩, rfl, hM2⟩ := hr
  have hm := hm_153 hJ.2.2.1 hJ.1.tb hJ.2.1.bd (a1 := x1) (a2 := x2)
  rw [← hM1] at hm
  rw [← hM2] at hm
  have hJ2 : qJ M2 := hJ.mut hC1 hF1 rfl rfl hC2 hF2 rfl (by decide) hm
  show zG n (114, 4080270) 300 311 (1597, [zR 0, zR 8, zR 97, .inl i], [.inl (hf_258_97 M1 x1 x2).1]) M2 _
  refine zG_blk (c' := (2158, [zR 0, zR 8, zR 97, .inl i], [])) 2 (by decide) hz (zsteps_seg hg rfl) ?_
  exact K M2 hJ2
noncomputable def sg_31 : List zE := [(1601, zi_28, 1602, zx0),
  (1602, zi_0, 1603, zx0),
  (1603, zi_1, 1604, zx0),
  (1604, zi_2, 1605, zx0),
  (1605, zi_4, 1606, zx0),
  (1606, zi_8, 1607, zx0),
  (1607, zi_0, 1608, zx0),
  (1608, zi_1, 1609, zx0),
  (1609, zi_11, 1610, zx0),
  (1610, zi_4, 1611, zx0),
  (1611, zi_8, 1612, zx0),
  (1612, .invokevirtual 147, 1615, (154, 3, 0, [11])),
  (1615, zi_21, 1616, zx0),
  (1616, zi_39, 1617, zx0),
  (1617, zi_0, 1618, zx0),
  (1618, zi_1, 1619, zx0),
  (1619, zi_2, 1620, zx0),
  (1620, zi_4, 1621, zx0),
  (1621, zi_8, 1622, zx0),
  (1622, zi_0, 1623, zx0),
  (1623, zi_1, 1624, zx0),
  (1624, zi_11, 1625, zx0),
  (1625, zi_4, 1626, zx0),
  (1626, zi_8, 1627, zx0),
  (1627, .invokevirtual 150, 1630, (259, 3, 0, [12])),
  (1630, zi_21, 1631, zx0),
  (1631, .goto (527), 1634, zx_8)]
set_option maxRecDepth 100000 in
theorem sh_31 : zSeg zk_L_law sg_31 := zSeg_of 1185 27 1601 (by decide +kernel) rfl (by decide +kernel)
set_option maxRecDepth 100000 in
theorem qL_31 (hJ : qJ M) (hn : n ≤ 4096) (hi : 0 ≤ i ∧ i + 8 ≤ n) (K : ∀ M', qJ M' → zG n (114, 4080270) 300 311 (2158, [zR 0, zR 8, zR 97, .inl i], []) M' qLQ) : zG n (114, 4080270) 300 311 (1601, [zR 0, zR 8, zR 97, .inl i], []) M qLQ := by
  have hz := zp_311
  have hg := sh_31
  refine zG_blk (c' := (1606, [zR 0, zR 8, zR 97, .inl i], [.inl (i + 1), zR 0, zR 8])) 5 (by decide) hz (zsteps_seg hg (by rw [show (.inl (i + 1) : zV) = .inl (w32 (i + 1)) from by rw [w32_id (by omega)]]; rfl)) ?_
  refine zG_iald (by decide) hz (hg _ _ rfl) rfl (.inr rfl) (by omega) ?_
  obtain ⟨x1, hx1⟩ : ∃ x : Int, x = M 0 (i + 1).toNat := ⟨_, rfl⟩
  rw [← hx1]
  have hr1 : qin x1 := by rw [hx1]; exact hJ.1.rng 0 _ (by decide) (by decide)
  show zG n (114, 4080270) 300 311 (1607, [zR 0, zR 8, zR 97, .inl i], [.inl x1, zR 8]) M _
  refine zG_blk (c' := (1611, [zR 0, zR 8, zR 97, .inl i], [.inl (i + 2), zR 0, .inl x1, zR 8])) 4 (by decide) hz (zsteps_seg hg (by rw [show (.inl (i + 2) : zV) = .inl (w32 (i + 2)) from by rw [w32_id (by omega)]]; rfl)) ?_
  refine zG_iald (by decide) hz (hg _ _ rfl) rfl (.inr rfl) (by omega) ?_
  obtain ⟨x2, hx2⟩ : ∃ x : Int, x = M 0 (i + 2).toNat := ⟨_, rfl⟩
  rw [← hx2]
  have hr2 : qin x2 := by rw [hx2]; exact hJ.1.rng 0 _ (by decide) (by decide)
  show zG n (114, 4080270) 300 311 (1612, [zR 0, zR 8, zR 97, .inl i], [.inl x2, .inl x1, zR 8]) M _
  refine zG_call (by decide) hz zp_154 (hg _ _ rfl) rfl (Nat.le_of_ble_eq_true rfl) ⟨Nat.le_of_ble_eq_true rfl, Nat.le_of_ble_eq_true rfl⟩ (qm_154_8 (by decide) hJ.1 x1 (by omega) x2 (by omega)) (fun vr M1 hr => ?_)
  obtain ⟨hq, hr⟩ := hr
  replace hq := hq.symm; subst hq
  have hc0 : ∀ j, M 0 j = M 0 j := fun _ => rfl
  obtain ⟨r1, rfl, -⟩ := hr
  show zG n (114, 4080270) 300 311 (1615, [zR 0, zR 8, zR 97, .inl i], [.inl r1]) M _
  refine zG_blk (c' := (1621, [zR 0, zR 8, zR 97, .inl i], [.inl (i + 1), zR 0, zR 97])) 6 (by decide) hz (zsteps_seg hg (by rw [show (.inl (i + 1) : zV) = .inl (w32 (i + 1)) from by rw [w32_id (by omega)]]; rfl)) ?_
  refine zG_iald (by decide) hz (hg _ _ rfl) rfl (.inr rfl) (by omega) ?_
  rw [show M 0 (i + 1).toNat = x1 from hx1.symm]
  show zG n (114, 4080270) 300 311 (1622, [zR 0, zR 8, zR 97, .inl i], [.inl x1, zR 97]) M _
  refine zG_blk (c' := (1626, [zR 0, zR 8, zR 97, .inl i], [.inl (i + 2), zR 0, .inl x1, zR 97])) 4 (by decide) hz (zsteps_seg hg (by rw [show (.inl (i + 2) : zV) = .inl (w32 (i + 2)) from by rw [w32_id (by omega)]]; rfl)) ?_
  refine zG_iald (by decide) hz (hg _ _ rfl) rfl (.inr rfl) (by omega) ?_
  rw [show M 0 (i + 2).toNat = x2 from hx2.symm]
  show zG n (114, 4080270) 300 311 (1627, [zR 0, zR 8, zR 97, .inl i], [.inl x2, .inl x1, zR 97]) M _
  refine zG_call (by decide) hz zp_259 (hg _ _ rfl) rfl (Nat.le_of_ble_eq_true rfl) ⟨Nat.le_of_ble_eq_true rfl, Nat.le_of_ble_eq_true rfl⟩ (qm_259_97 (by decide) hJ.2.1 x1 (by omega) x2 (by omega)) (fun vr M2 hr => ?_)
  obtain ⟨hq, hr⟩ := hr
  replace hq := hq.symm; subst hq
  obtain ⟨r2, hv9⟩ := hr
  first | (obtain ⟨rfl, -⟩ := hv9) | (obtain rfl := hv9)
  show zG n (114, 4080270) 300 311 (1630, [zR 0, zR 8, zR 97, .inl i], [.inl r2]) M _
  refine zG_blk (c' := (2158, [zR 0, zR 8, zR 97, .inl i], [])) 2 (by decide) hz (zsteps_seg hg rfl) ?_
  exact K M hJ
noncomputable def sg_32 : List zE := [(1634, zi_28, 1635, zx0),
  (1635, zi_0, 1636, zx0),
  (1636, zi_1, 1637, zx0),
  (1637, zi_2, 1638, zx0),
  (1638, zi_4, 1639, zx0),
  (1639, zi_8, 1640, zx0),
  (1640, zi_0, 1641, zx0),
  (1641, zi_1, 1642, zx0),
  (1642, zi_11, 1643, zx0),
  (1643, zi_4, 1644, zx0),
  (1644, zi_8, 1645, zx0),
  (1645, zi_0, 1646, zx0),
  (1646, zi_1, 1647, zx0),
  (1647, zi_13, 1648, zx0),
  (1648, zi_4, 1649, zx0),
  (1649, zi_8, 1650, zx0),
  (1650, zi_0, 1651, zx0),
  (1651, zi_1, 1652, zx0),
  (1652, zi_17, 1653, zx0),
  (1653, zi_4, 1654, zx0),
  (1654, zi_8, 1655, zx0),
  (1655, zi_0, 1656, zx0),
  (1656, zi_1, 1657, zx0),
  (1657, zi_32, 1658, zx0),
  (1658, zi_4, 1659, zx0),
  (1659, zi_8, 1660, zx0),
  (1660, zi_0, 1661, zx0),
  (1661, zi_1, 1662, zx0),
  (1662, zi_37, 1664, zx0),
  (1664, zi_4, 1665, zx0),
  (1665, zi_8, 1666, zx0),
  (1666, .invokevirtual 151, 1669, (155, 7, 0, [11])),
  (1669, zi_21, 1670, zx0),
  (1670, zi_39, 1671, zx0),
  (1671, zi_0, 1672, zx0),
  (1672, zi_1, 1673, zx0),
  (1673, zi_2, 1674, zx0),
  (1674, zi_4, 1675, zx0),
  (1675, zi_8, 1676, zx0),
  (1676, zi_0, 1677, zx0),
  (1677, zi_1, 1678, zx0),
  (1678, zi_11, 1679, zx0),
  (1679, zi_4, 1680, zx0),
  (1680, zi_8, 1681, zx0),
  (1681, zi_0, 1682, zx0),
  (1682, zi_1, 1683, zx0),
  (1683, zi_13, 1684, zx0),
  (1684, zi_4, 1685, zx0),
  (1685, zi_8, 1686, zx0),
  (1686, zi_0, 1687, zx0),
  (1687, zi_1, 1688, zx0),
  (1688, zi_17, 1689, zx0),
  (1689, zi_4, 1690, zx0),
  (1690, zi_8, 1691, zx0),
  (1691, zi_0, 1692, zx0),
  (1692, zi_1, 1693, zx0),
  (1693, zi_32, 1694, zx0),
  (1694, zi_4, 1695, zx0),
  (1695, zi_8, 1696, zx0),
  (1696, zi_0, 1697, zx0),
  (1697, zi_1, 1698, zx0),
  (1698, zi_37, 1700, zx0),
  (1700, zi_4, 1701, zx0),
  (1701, zi_8, 1702, zx0),
  (1702, .invokevirtual 154, 1705, (268, 7, 0, [12])),
  (1705, zi_21, 1706, zx0),
  (1706, .goto (452), 1709, zx_8)]
set_option maxRecDepth 100000 in
theorem sh_32 : zSeg zk_L_law sg_32 := zSeg_of 1212 67 1634 (by decide +kernel) rfl (by decide +kernel)
set_option maxRecDepth 100000 in
theorem qL_32 (hJ : qJ M) (hn : n ≤ 4096) (hi : 0 ≤ i ∧ i + 8 ≤ n) (K : ∀ M', qJ M' → zG n (114, 4080270) 300 311 (2158, [zR 0, zR 8, zR 97, .inl i], []) M' qLQ) : zG n (114, 4080270) 300 311 (1634, [zR 0, zR 8, zR 97, .inl i], []) M qLQ := by
  have hz := zp_311
  have hg := sh_32
  refine zG_blk (c' := (1639, [zR 0, zR 8, zR 97, .inl i], [.inl (i + 1), zR 0, zR 8])) 5 (by decide) hz (zsteps_seg hg (by rw [show (.inl (i + 1) : zV) = .inl (w32 (i + 1)) from by rw [w32_id (by omega)]]; rfl)) ?_
  refine zG_iald (by decide) hz (hg _ _ rfl) rfl (.inr rfl) (by omega) ?_
  obtain ⟨x1, hx1⟩ : ∃ x : Int, x = M 0 (i + 1).toNat := ⟨_, rfl⟩
  rw [← hx1]
  have hr1 : qin x1 := by rw [hx1]; exact hJ.1.rng 0 _ (by decide) (by decide)
  show zG n (114, 4080270) 300 311 (1640, [zR 0, zR 8, zR 97, .inl i], [.inl x1, zR 8]) M _
  refine zG_blk (c' := (1644, [zR 0, zR 8, zR 97, .inl i], [.inl (i + 2), zR 0, .inl x1, zR 8])) 4 (by decide) hz (zsteps_seg hg (by rw [show (.inl (i + 2) : zV) = .inl (w32 (i + 2)) from by rw [w32_id (by omega)]]; rfl)) ?_
  refine zG_iald (by decide) hz (hg _ _ rfl) rfl (.inr rfl) (by omega) ?_
  obtain ⟨x2, hx2⟩ : ∃ x : Int, x = M 0 (i + 2).toNat := ⟨_, rfl⟩
  rw [← hx2]
  have hr2 : qin x2 := by rw [hx2]; exact hJ.1.rng 0 _ (by decide) (by decide)
  show zG n (114, 4080270) 300 311 (1645, [zR 0, zR 8, zR 97, .inl i], [.inl x2, .inl x1, zR 8]) M _
  refine zG_blk (c' := (1649, [zR 0, zR 8, zR 97, .inl i], [.inl (i + 3), zR 0, .inl x2, .inl x1, zR 8])) 4 (by decide) hz (zsteps_seg hg (by rw [show (.inl (i + 3) : zV) = .inl (w32 (i + 3)) from by rw [w32_id (by omega)]]; rfl)) ?_
  refine zG_iald (by decide) hz (hg _ _ rfl) rfl (.inr rfl) (by omega) ?_
  obtain ⟨x3, hx3⟩ : ∃ x : Int, x = M 0 (i + 3).toNat := ⟨_, rfl⟩
  rw [← hx3]
  have hr3 : qin x3 := by rw [hx3]; exact hJ.1.rng 0 _ (by decide) (by decide)
  show zG n (114, 4080270) 300 311 (1650, [zR 0, zR 8, zR 97, .inl i], [.inl x3, .inl x2, .inl x1, zR 8]) M _
  refine zG_blk (c' := (1654, [zR 0, zR 8, zR 97, .inl i], [.inl (i + 4), zR 0, .inl x3, .inl x2, .inl x1, zR 8])) 4 (by decide) hz (zsteps_seg hg (by rw [show (.inl (i + 4) : zV) = .inl (w32 (i + 4)) from by rw [w32_id (by omega)]]; rfl)) ?_
  refine zG_iald (by decide) hz (hg _ _ rfl) rfl (.inr rfl) (by omega) ?_
  obtain ⟨x4, hx4⟩ : ∃ x : Int, x = M 0 (i + 4).toNat := ⟨_, rfl⟩
  rw [← hx4]
  have hr4 : qin x4 := by rw [hx4]; exact hJ.1.rng 0 _ (by decide) (by decide)
  show zG n (114, 4080270) 300 311 (1655, [zR 0, zR 8, zR 97, .inl i], [.inl x4, .inl x3, .inl x2, .inl x1, zR 8]) M _
  refine zG_blk (c' := (1659, [zR 0, zR 8, zR 97, .inl i], [.inl (i + 5), zR 0, .inl x4, .inl x3, .inl x2, .inl x1, zR 8])) 4 (by decide) hz (zsteps_seg hg (by rw [show (.inl (i + 5) : zV) = .inl (w32 (i + 5)) from by rw [w32_id (by omega)]]; rfl)) ?_
  refine zG_iald (by decide) hz (hg _ _ rfl) rfl (.inr rfl) (by omega) ?_
  obtain ⟨x5, hx5⟩ : ∃ x : Int, x = M 0 (i + 5).toNat := ⟨_, rfl⟩
  rw [← hx5]
  have hr5 : qin x5 := by rw [hx5]; exact hJ.1.rng 0 _ (by decide) (by decide)
  show zG n (114, 4080270) 300 311 (1660, [zR 0, zR 8, zR 97, .inl i], [.inl x5, .inl x4, .inl x3, .inl x2, .inl x1, zR 8]) M _
  refine zG_blk (c' := (1665, [zR 0, zR 8, zR 97, .inl i], [.inl (i + 6), zR 0, .inl x5, .inl x4, .inl x3, .inl x2, .inl x1, zR 8])) 4 (by decide) hz (zsteps_seg hg (by rw [show (.inl (i + 6) : zV) = .inl (w32 (i + 6)) from by rw [w32_id (by omega)]]; rfl)) ?_
  refine zG_iald (by decide) hz (hg _ _ rfl) rfl (.inr rfl) (by omega) ?_
  obtain ⟨x6, hx6⟩ : ∃ x : Int, x = M 0 (i + 6).toNat := ⟨_, rfl⟩
  rw [← hx6]
  have hr6 : qin x6 := by rw [hx6]; exact hJ.1.rng 0 _ (by decide) (by decide)
  show zG n (114, 4080270) 300 311 (1666, [zR 0, zR 8, zR 97, .inl i], [.inl x6, .inl x5, .inl x4, .inl x3, .inl x2, .inl x1, zR 8]) M _
  refine zG_call (by decide) hz zp_155 (hg _ _ rfl) rfl (Nat.le_of_ble_eq_true rfl) ⟨Nat.le_of_ble_eq_true rfl, Nat.le_of_ble_eq_true rfl⟩ (qm_155_8 (by decide) hJ.1 x1 (by omega) x2 (by omega) x3 (by omega) x4 (by omega) x5 (by omega) x6 (by omega)) (fun vr M1 hr => ?_)
  obtain ⟨⟨hCM1, hFM1⟩, hr⟩ := hr
  have hJM1 : qJ M1 := hJ.cls hCM1 hFM1 rfl rfl
  have hc0 : ∀ j, M1 0 j = M 0 j := fun j => hFM1 0 j (by decide)
  obtain ⟨r1, rfl, -⟩ := hr
  show zG n (114, 4080270) 300 311 (1669, [zR 0, zR 8, zR 97, .inl i], [.inl r1]) M1 _
  refine zG_blk (c' := (1675, [zR 0, zR 8, zR 97, .inl i], [.inl (i + 1), zR 0, zR 97])) 6 (by decide) hz (zsteps_seg hg (by rw [show (.inl (i + 1) : zV) = .inl (w32 (i + 1)) from by rw [w32_id (by omega)]]; rfl)) ?_
  refine zG_iald (by decide) hz (hg _ _ rfl) rfl (.inr rfl) (by omega) ?_
  rw [show M1 0 (i + 1).toNat = x1 from (hc0 _).trans hx1.symm]
  show zG n (114, 4080270) 300 311 (1676, [zR 0, zR 8, zR 97, .inl i], [.inl x1, zR 97]) M1 _
  refine zG_blk (c' := (1680, [zR 0, zR 8, zR 97, .inl i], [.inl (i + 2), zR 0, .inl x1, zR 97])) 4 (by decide) hz (zsteps_seg hg (by rw [show (.inl (i + 2) : zV) = .inl (w32 (i + 2)) from by rw [w32_id (by omega)]]; rfl)) ?_
  refine zG_iald (by decide) hz (hg _ _ rfl) rfl (.inr rfl) (by omega) ?_
  rw [show M1 0 (i + 2).toNat = x2 from (hc0 _).trans hx2.symm]
  show zG n (114, 4080270) 300 311 (1681, [zR 0, zR 8, zR 97, .inl i], [.inl x2, .inl x1, zR 97]) M1 _
  refine zG_blk (c' := (1685, [zR 0, zR 8, zR 97, .inl i], [.inl (i + 3), zR 0, .inl x2, .inl x1, zR 97])) 4 (by decide) hz (zsteps_seg hg (by rw [show (.inl (i + 3) : zV) = .inl (w32 (i + 3)) from by rw [w32_id (by omega)]]; rfl)) ?_
  refine zG_iald (by decide) hz (hg _ _ rfl) rfl (.inr rfl) (by omega) ?_
  rw [show M1 0 (i + 3).toNat = x3 from (hc0 _).trans hx3.symm]
  show zG n (114, 4080270) 300 311 (1686, [zR 0, zR 8, zR 97, .inl i], [.inl x3, .inl x2, .inl x1, zR 97]) M1 _
  refine zG_blk (c' := (1690, [zR 0, zR 8, zR 97, .inl i], [.inl (i + 4), zR 0, .inl x3, .inl x2, .inl x1, zR 97])) 4 (by decide) hz (zsteps_seg hg (by rw [show (.inl (i + 4) : zV) = .inl (w32 (i + 4)) from by rw [w32_id (by omega)]]; rfl)) ?_
  refine zG_iald (by decide) hz (hg _ _ rfl) rfl (.inr rfl) (by omega) ?_
  rw [show M1 0 (i + 4).toNat = x4 from (hc0 _).trans hx4.symm]
  show zG n (114, 4080270) 300 311 (1691, [zR 0, zR 8, zR 97, .inl i], [.inl x4, .inl x3, .inl x2, .inl x1, zR 97]) M1 _
  refine zG_blk (c' := (1695, [zR 0, zR 8, zR 97, .inl i], [.inl (i + 5), zR 0, .inl x4, .inl x3, .inl x2, .inl x1, zR 97])) 4 (by decide) hz (zsteps_seg hg (by rw [show (.inl (i + 5) : zV) = .inl (w32 (i + 5)) from by rw [w32_id (by omega)]]; rfl)) ?_
  refine zG_iald (by decide) hz (hg _ _ rfl) rfl (.inr rfl) (by omega) ?_
  rw [show M1 0 (i + 5).toNat = x5 from (hc0 _).trans hx5.symm]
  show zG n (114, 4080270) 300 311 (1696, [zR 0, zR 8, zR 97, .inl i], [.inl x5, .inl x4, .inl x3, .inl x2, .inl x1, zR 97]) M1 _
  refine zG_blk (c' := (1701, [zR 0, zR 8, zR 97, .inl i], [.inl (i + 6), zR 0, .inl x5, .inl x4, .inl x3, .inl x2, .inl x1, zR 97])) 4 (by decide) hz (zsteps_seg hg (by rw [show (.inl (i + 6) : zV) = .inl (w32 (i + 6)) from by rw [w32_id (by omega)]]; rfl)) ?_
  refine zG_iald (by decide) hz (hg _ _ rfl) rfl (.inr rfl) (by omega) ?_
  rw [show M1 0 (i + 6).toNat = x6 from (hc0 _).trans hx6.symm]
  show zG n (114, 4080270) 300 311 (1702, [zR 0, zR 8, zR 97, .inl i], [.inl x6, .inl x5, .inl x4, .inl x3, .inl x2, .inl x1, zR 97]) M1 _
  refine zG_call (by decide) hz zp_268 (hg _ _ rfl) rfl (Nat.le_of_ble_eq_true rfl) ⟨Nat.le_of_ble_eq_true rfl, Nat.le_of_ble_eq_true rfl⟩ (qm_268_97 (by decide) hJM1.2.1 x1 (by omega) x2 (by omega) x3 (by omega) x4 (by omega) x5 (by omega) x6 (by omega)) (fun vr M2 hr => ?_)
  obtain ⟨⟨hCM2, hFM2⟩, hr⟩ := hr
  have hJM2 : qJ M2 := hJM1.mdl hCM2 hFM2 rfl (by decide) (fun j _ _ _ _ => hFM2.ar 98 j (by decide) (by decide))
  obtain ⟨r2, hv9⟩ := hr
  first | (obtain ⟨rfl, -⟩ := hv9) | (obtain rfl := hv9)
  show zG n (114, 4080270) 300 311 (1705, [zR 0, zR 8, zR 97, .inl i], [.inl r2]) M2 _
  refine zG_blk (c' := (2158, [zR 0, zR 8, zR 97, .inl i], [])) 2 (by decide) hz (zsteps_seg hg rfl) ?_
  exact K M2 hJM2
noncomputable def sg_33 : List zE := [(1709, zi_28, 1710, zx0),
  (1710, zi_0, 1711, zx0),
  (1711, zi_1, 1712, zx0),
  (1712, zi_2, 1713, zx0),
  (1713, zi_4, 1714, zx0),
  (1714, zi_8, 1715, zx0),
  (1715, zi_0, 1716, zx0),
  (1716, zi_1, 1717, zx0),
  (1717, zi_11, 1718, zx0),
  (1718, zi_4, 1719, zx0),
  (1719, zi_8, 1720, zx0),
  (1720, zi_0, 1721, zx0),
  (1721, zi_1, 1722, zx0),
  (1722, zi_13, 1723, zx0),
  (1723, zi_4, 1724, zx0),
  (1724, zi_8, 1725, zx0),
  (1725, zi_0, 1726, zx0),
  (1726, zi_1, 1727, zx0),
  (1727, zi_17, 1728, zx0),
  (1728, zi_4, 1729, zx0),
  (1729, zi_8, 1730, zx0),
  (1730, zi_0, 1731, zx0),
  (1731, zi_1, 1732, zx0),
  (1732, zi_32, 1733, zx0),
  (1733, zi_4, 1734, zx0),
  (1734, zi_8, 1735, zx0),
  (1735, zi_0, 1736, zx0),
  (1736, zi_1, 1737, zx0),
  (1737, zi_37, 1739, zx0),
  (1739, zi_4, 1740, zx0),
  (1740, zi_8, 1741, zx0),
  (1741, zi_0, 1742, zx0),
  (1742, zi_1, 1743, zx0),
  (1743, zi_46, 1745, zx0),
  (1745, zi_4, 1746, zx0),
  (1746, zi_8, 1747, zx0),
  (1747, zi_322, 1750, (156, 8, 0, [11])),
  (1750, zi_21, 1751, zx0),
  (1751, zi_39, 1752, zx0),
  (1752, zi_0, 1753, zx0),
  (1753, zi_1, 1754, zx0),
  (1754, zi_2, 1755, zx0),
  (1755, zi_4, 1756, zx0),
  (1756, zi_8, 1757, zx0),
  (1757, zi_0, 1758, zx0),
  (1758, zi_1, 1759, zx0),
  (1759, zi_11, 1760, zx0),
  (1760, zi_4, 1761, zx0),
  (1761, zi_8, 1762, zx0),
  (1762, zi_0, 1763, zx0),
  (1763, zi_1, 1764, zx0),
  (1764, zi_13, 1765, zx0),
  (1765, zi_4, 1766, zx0),
  (1766, zi_8, 1767, zx0),
  (1767, zi_0, 1768, zx0),
  (1768, zi_1, 1769, zx0),
  (1769, zi_17, 1770, zx0),
  (1770, zi_4, 1771, zx0),
  (1771, zi_8, 1772, zx0),
  (1772, zi_0, 1773, zx0),
  (1773, zi_1, 1774, zx0),
  (1774, zi_32, 1775, zx0),
  (1775, zi_4, 1776, zx0),
  (1776, zi_8, 1777, zx0),
  (1777, zi_0, 1778, zx0),
  (1778, zi_1, 1779, zx0),
  (1779, zi_37, 1781, zx0),
  (1781, zi_4, 1782, zx0),
  (1782, zi_8, 1783, zx0),
  (1783, zi_0, 1784, zx0),
  (1784, zi_1, 1785, zx0),
  (1785, zi_46, 1787, zx0),
  (1787, zi_4, 1788, zx0),
  (1788, zi_8, 1789, zx0),
  (1789, zi_243, 1792, (270, 8, 0, [12])),
  (1792, zi_21, 1793, zx0),
  (1793, .goto (365), 1796, zx_8)]
set_option maxRecDepth 100000 in
theorem sh_33 : zSeg zk_L_law sg_33 := zSeg_of 1279 77 1709 (by decide +kernel) rfl (by decide +kernel)
set_option maxRecDepth 100000 in
theorem qL_33 (hJ : qJ M) (hn : n ≤ 4096) (hi : 0 ≤ i ∧ i + 8 ≤ n) (K : ∀ M', qJ M' → zG n (114, 4080270) 300 311 (2158, [zR 0, zR 8, zR 97, .inl i], []) M' qLQ) : zG n (114, 4080270) 300 311 (1709, [zR 0, zR 8, zR 97, .inl i], []) M qLQ := by
  have hz := zp_311
  have hg := sh_33
  refine zG_blk (c' := (1714, [zR 0, zR 8, zR 97, .inl i], [.inl (i + 1), zR 0, zR 8])) 5 (by decide) hz (zsteps_seg hg (by rw [show (.inl (i + 1) : zV) = .inl (w32 (i + 1)) from by rw [w32_id (by omega)]]; rfl)) ?_
  refine zG_iald (by decide) hz (hg _ _ rfl) rfl (.inr rfl) (by omega) ?_
  obtain ⟨x1, hx1⟩ : ∃ x : Int, x = M 0 (i + 1).toNat := ⟨_, rfl⟩
  rw [← hx1]
  have hr1 : qin x1 := by rw [hx1]; exact hJ.1.rng 0 _ (by decide) (by decide)
  show zG n (114, 4080270) 300 311 (1715, [zR 0, zR 8, zR 97, .inl i], [.inl x1, zR 8]) M _
  refine zG_blk (c' := (1719, [zR 0, zR 8, zR 97, .inl i], [.inl (i + 2), zR 0, .inl x1, zR 8])) 4 (by decide) hz (zsteps_seg hg (by rw [show (.inl (i + 2) : zV) = .inl (w32 (i + 2)) from by rw [w32_id (by omega)]]; rfl)) ?_
  refine zG_iald (by decide) hz (hg _ _ rfl) rfl (.inr rfl) (by omega) ?_
  obtain ⟨x2, hx2⟩ : ∃ x : Int, x = M 0 (i + 2).toNat := ⟨_, rfl⟩
  rw [← hx2]
  have hr2 : qin x2 := by rw [hx2]; exact hJ.1.rng 0 _ (by decide) (by decide)
  show zG n (114, 4080270) 300 311 (1720, [zR 0, zR 8, zR 97, .inl i], [.inl x2, .inl x1, zR 8]) M _
  refine zG_blk (c' := (1724, [zR 0, zR 8, zR 97, .inl i], [.inl (i + 3), zR 0, .inl x2, .inl x1, zR 8])) 4 (by decide) hz (zsteps_seg hg (by rw [show (.inl (i + 3) : zV) = .inl (w32 (i + 3)) from by rw [w32_id (by omega)]]; rfl)) ?_
  refine zG_iald (by decide) hz (hg _ _ rfl) rfl (.inr rfl) (by omega) ?_
  obtain ⟨x3, hx3⟩ : ∃ x : Int, x = M 0 (i + 3).toNat := ⟨_, rfl⟩
  rw [← hx3]
  have hr3 : qin x3 := by rw [hx3]; exact hJ.1.rng 0 _ (by decide) (by decide)
  show zG n (114, 4080270) 300 311 (1725, [zR 0, zR 8, zR 97, .inl i], [.inl x3, .inl x2, .inl x1, zR 8]) M _
  refine zG_blk (c' := (1729, [zR 0, zR 8, zR 97, .inl i], [.inl (i + 4), zR 0, .inl x3, .inl x2, .inl x1, zR 8])) 4 (by decide) hz (zsteps_seg hg (by rw [show (.inl (i + 4) : zV) = .inl (w32 (i + 4)) from by rw [w32_id (by omega)]]; rfl)) ?_
  refine zG_iald (by decide) hz (hg _ _ rfl) rfl (.inr rfl) (by omega) ?_
  obtain ⟨x4, hx4⟩ : ∃ x : Int, x = M 0 (i + 4).toNat := ⟨_, rfl⟩
  rw [← hx4]
  have hr4 : qin x4 := by rw [hx4]; exact hJ.1.rng 0 _ (by decide) (by decide)
  show zG n (114, 4080270) 300 311 (1730, [zR 0, zR 8, zR 97, .inl i], [.inl x4, .inl x3, .inl x2, .inl x1, zR 8]) M _
  refine zG_blk (c' := (1734, [zR 0, zR 8, zR 97, .inl i], [.inl (i + 5), zR 0, .inl x4, .inl x3, .inl x2, .inl x1, zR 8])) 4 (by decide) hz (zsteps_seg hg (by rw [show (.inl (i + 5) : zV) = .inl (w32 (i + 5)) from by rw [w32_id (by omega)]]; rfl)) ?_
  refine zG_iald (by decide) hz (hg _ _ rfl) rfl (.inr rfl) (by omega) ?_
  obtain ⟨x5, hx5⟩ : ∃ x : Int, x = M 0 (i + 5).toNat := ⟨_, rfl⟩
  rw [← hx5]
  have hr5 : qin x5 := by rw [hx5]; exact hJ.1.rng 0 _ (by decide) (by decide)
  show zG n (114, 4080270) 300 311 (1735, [zR 0, zR 8, zR 97, .inl i], [.inl x5, .inl x4, .inl x3, .inl x2, .inl x1, zR 8]) M _
  refine zG_blk (c' := (1740, [zR 0, zR 8, zR 97, .inl i], [.inl (i + 6), zR 0, .inl x5, .inl x4, .inl x3, .inl x2, .inl x1, zR 8])) 4 (by decide) hz (zsteps_seg hg (by rw [show (.inl (i + 6) : zV) = .inl (w32 (i + 6)) from by rw [w32_id (by omega)]]; rfl)) ?_
  refine zG_iald (by decide) hz (hg _ _ rfl) rfl (.inr rfl) (by omega) ?_
  obtain ⟨x6, hx6⟩ : ∃ x : Int, x = M 0 (i + 6).toNat := ⟨_, rfl⟩
  rw [← hx6]
  have hr6 : qin x6 := by rw [hx6]; exact hJ.1.rng 0 _ (by decide) (by decide)
  show zG n (114, 4080270) 300 311 (1741, [zR 0, zR 8, zR 97, .inl i], [.inl x6, .inl x5, .inl x4, .inl x3, .inl x2, .inl x1, zR 8]) M _
  refine zG_blk (c' := (1746, [zR 0, zR 8, zR 97, .inl i], [.inl (i + 7), zR 0, .inl x6, .inl x5, .inl x4, .inl x3, .inl x2, .inl x1, zR 8])) 4 (by decide) hz (zsteps_seg hg (by rw [show (.inl (i + 7) : zV) = .inl (w32 (i + 7)) from by rw [w32_id (by omega)]]; rfl)) ?_
  refine zG_iald (by decide) hz (hg _ _ rfl) rfl (.inr rfl) (by omega) ?_
  obtain ⟨x7, hx7⟩ : ∃ x : Int, x = M 0 (i + 7).toNat := ⟨_, rfl⟩
  rw [← hx7]
  have hr7 : qin x7 := by rw [hx7]; exact hJ.1.rng 0 _ (by decide) (by decide)
  show zG n (114, 4080270) 300 311 (1747, [zR 0, zR 8, zR 97, .inl i], [.inl x7, .inl x6, .inl x5, .inl x4, .inl x3, .inl x2, .inl x1, zR 8]) M _
  refine zG_call (by decide) hz zp_156 (hg _ _ rfl) rfl (Nat.le_of_ble_eq_true rfl) ⟨Nat.le_of_ble_eq_true rfl, Nat.le_of_ble_eq_true rfl⟩ (qm_156_8 (by decide) hJ.1 x1 (by omega) x2 (by omega) x3 (by omega) x4 (by omega) x5 (by omega) x6 (by omega) x7 (by omega)) (fun vr M1 hr => ?_)
  obtain ⟨⟨hCM1, hFM1⟩, hr⟩ := hr
  have hJM1 : qJ M1 := hJ.cls hCM1 hFM1 rfl rfl
  have hc0 : ∀ j, M1 0 j = M 0 j := fun j => hFM1 0 j (by decide)
  obtain ⟨r1, rfl, -⟩ := hr
  show zG n (114, 4080270) 300 311 (1750, [zR 0, zR 8, zR 97, .inl i], [.inl r1]) M1 _
  refine zG_blk (c' := (1756, [zR 0, zR 8, zR 97, .inl i], [.inl (i + 1), zR 0, zR 97])) 6 (by decide) hz (zsteps_seg hg (by rw [show (.inl (i + 1) : zV) = .inl (w32 (i + 1)) from by rw [w32_id (by omega)]]; rfl)) ?_
  refine zG_iald (by decide) hz (hg _ _ rfl) rfl (.inr rfl) (by omega) ?_
  rw [show M1 0 (i + 1).toNat = x1 from (hc0 _).trans hx1.symm]
  show zG n (114, 4080270) 300 311 (1757, [zR 0, zR 8, zR 97, .inl i], [.inl x1, zR 97]) M1 _
  refine zG_blk (c' := (1761, [zR 0, zR 8, zR 97, .inl i], [.inl (i + 2), zR 0, .inl x1, zR 97])) 4 (by decide) hz (zsteps_seg hg (by rw [show (.inl (i + 2) : zV) = .inl (w32 (i + 2)) from by rw [w32_id (by omega)]]; rfl)) ?_
  refine zG_iald (by decide) hz (hg _ _ rfl) rfl (.inr rfl) (by omega) ?_
  rw [show M1 0 (i + 2).toNat = x2 from (hc0 _).trans hx2.symm]
  show zG n (114, 4080270) 300 311 (1762, [zR 0, zR 8, zR 97, .inl i], [.inl x2, .inl x1, zR 97]) M1 _
  refine zG_blk (c' := (1766, [zR 0, zR 8, zR 97, .inl i], [.inl (i + 3), zR 0, .inl x2, .inl x1, zR 97])) 4 (by decide) hz (zsteps_seg hg (by rw [show (.inl (i + 3) : zV) = .inl (w32 (i + 3)) from by rw [w32_id (by omega)]]; rfl)) ?_
  refine zG_iald (by decide) hz (hg _ _ rfl) rfl (.inr rfl) (by omega) ?_
  rw [show M1 0 (i + 3).toNat = x3 from (hc0 _).trans hx3.symm]
  show zG n (114, 4080270) 300 311 (1767, [zR 0, zR 8, zR 97, .inl i], [.inl x3, .inl x2, .inl x1, zR 97]) M1 _
  refine zG_blk (c' := (1771, [zR 0, zR 8, zR 97, .inl i], [.inl (i + 4), zR 0, .inl x3, .inl x2, .inl x1, zR 97])) 4 (by decide) hz (zsteps_seg hg (by rw [show (.inl (i + 4) : zV) = .inl (w32 (i + 4)) from by rw [w32_id (by omega)]]; rfl)) ?_
  refine zG_iald (by decide) hz (hg _ _ rfl) rfl (.inr rfl) (by omega) ?_
  rw [show M1 0 (i + 4).toNat = x4 from (hc0 _).trans hx4.symm]
  show zG n (114, 4080270) 300 311 (1772, [zR 0, zR 8, zR 97, .inl i], [.inl x4, .inl x3, .inl x2, .inl x1, zR 97]) M1 _
  refine zG_blk (c' := (1776, [zR 0, zR 8, zR 97, .inl i], [.inl (i + 5), zR 0, .inl x4, .inl x3, .inl x2, .inl x1, zR 97])) 4 (by decide) hz (zsteps_seg hg (by rw [show (.inl (i + 5) : zV) = .inl (w32 (i + 5)) from by rw [w32_id (by omega)]]; rfl)) ?_
  refine zG_iald (by decide) hz (hg _ _ rfl) rfl (.inr rfl) (by omega) ?_
  rw [show M1 0 (i + 5).toNat = x5 from (hc0 _).trans hx5.symm]
  show zG n (114, 4080270) 300 311 (1777, [zR 0, zR 8, zR 97, .inl i], [.inl x5, .inl x4, .inl x3, .inl x2, .inl x1, zR 97]) M1 _
  refine zG_blk (c' := (1782, [zR 0, zR 8, zR 97, .inl i], [.inl (i + 6), zR 0, .inl x5, .inl x4, .inl x3, .inl x2, .inl x1, zR 97])) 4 (by decide) hz (zsteps_seg hg (by rw [show (.inl (i + 6) : zV) = .inl (w32 (i + 6)) from by rw [w32_id (by omega)]]; rfl)) ?_
  refine zG_iald (by decide) hz (hg _ _ rfl) rfl (.inr rfl) (by omega) ?_
  rw [show M1 0 (i + 6).toNat = x6 from (hc0 _).trans hx6.symm]
  show zG n (114, 4080270) 300 311 (1783, [zR 0, zR 8, zR 97, .inl i], [.inl x6, .inl x5, .inl x4, .inl x3, .inl x2, .inl x1, zR 97]) M1 _
  refine zG_blk (c' := (1788, [zR 0, zR 8, zR 97, .inl i], [.inl (i + 7), zR 0, .inl x6, .inl x5, .inl x4, .inl x3, .inl x2, .inl x1, zR 97])) 4 (by decide) hz (zsteps_seg hg (by rw [show (.inl (i + 7) : zV) = .inl (w32 (i + 7)) from by rw [w32_id (by omega)]]; rfl)) ?_
  refine zG_iald (by decide) hz (hg _ _ rfl) rfl (.inr rfl) (by omega) ?_
  rw [show M1 0 (i + 7).toNat = x7 from (hc0 _).trans hx7.symm]
  show zG n (114, 4080270) 300 311 (1789, [zR 0, zR 8, zR 97, .inl i], [.inl x7, .inl x6, .inl x5, .inl x4, .inl x3, .inl x2, .inl x1, zR 97]) M1 _
  refine zG_call (by decide) hz zp_270 (hg _ _ rfl) rfl (Nat.le_of_ble_eq_true rfl) ⟨Nat.le_of_ble_eq_true rfl, Nat.le_of_ble_eq_true rfl⟩ (qm_270_97 (by decide) hJM1.2.1 x1 (by omega) x2 (by omega) x3 (by omega) x4 (by omega) x5 (by omega) x6 (by omega) x7 (by omega)) (fun vr M2 hr => ?_)
  obtain ⟨⟨hCM2, hFM2⟩, hr⟩ := hr
  have hJM2 : qJ M2 := hJM1.mdl hCM2 hFM2 rfl (by decide) (fun j _ _ _ _ => hFM2.ar 98 j (by decide) (by decide))
  obtain ⟨r2, hv9⟩ := hr
  first | (obtain ⟨rfl, -⟩ := hv9) | (obtain rfl := hv9)
  show zG n (114, 4080270) 300 311 (1792, [zR 0, zR 8, zR 97, .inl i], [.inl r2]) M2 _
  refine zG_blk (c' := (2158, [zR 0, zR 8, zR 97, .inl i], [])) 2 (by decide) hz (zsteps_seg hg rfl) ?_
  exact K M2 hJM2
noncomputable def sg_34 : List zE := [(1796, zi_28, 1797, zx0),
  (1797, zi_0, 1798, zx0),
  (1798, zi_1, 1799, zx0),
  (1799, zi_2, 1800, zx0),
  (1800, zi_4, 1801, zx0),
  (1801, zi_8, 1802, zx0),
  (1802, zi_0, 1803, zx0),
  (1803, zi_1, 1804, zx0),
  (1804, zi_11, 1805, zx0),
  (1805, zi_4, 1806, zx0),
  (1806, zi_8, 1807, zx0),
  (1807, zi_0, 1808, zx0),
  (1808, zi_1, 1809, zx0),
  (1809, zi_13, 1810, zx0),
  (1810, zi_4, 1811, zx0),
  (1811, zi_8, 1812, zx0),
  (1812, zi_53, 1815, (1819, 0, 0, [])),
  (1815, zi_2, 1816, zx0),
  (1816, zi_15, 1819, (1820, 0, 0, [])),
  (1819, zi_5, 1820, zx0),
  (1820, .invokevirtual 160, 1823, (157, 4, 0, [11])),
  (1823, zi_21, 1824, zx0),
  (1824, zi_39, 1825, zx0),
  (1825, zi_0, 1826, zx0),
  (1826, zi_1, 1827, zx0),
  (1827, zi_2, 1828, zx0),
  (1828, zi_4, 1829, zx0),
  (1829, zi_8, 1830, zx0),
  (1830, zi_0, 1831, zx0),
  (1831, zi_1, 1832, zx0),
  (1832, zi_11, 1833, zx0),
  (1833, zi_4, 1834, zx0),
  (1834, zi_8, 1835, zx0),
  (1835, zi_0, 1836, zx0),
  (1836, zi_1, 1837, zx0),
  (1837, zi_13, 1838, zx0),
  (1838, zi_4, 1839, zx0),
  (1839, zi_8, 1840, zx0),
  (1840, zi_53, 1843, (1847, 0, 0, [])),
  (1843, zi_2, 1844, zx0),
  (1844, zi_15, 1847, (1848, 0, 0, [])),
  (1847, zi_5, 1848, zx0),
  (1848, .invokevirtual 164, 1851, (271, 4, 0, [12])),
  (1851, zi_21, 1852, zx0),
  (1852, .goto (306), 1855, zx_8)]
set_option maxRecDepth 100000 in
theorem sh_34 : zSeg zk_L_law sg_34 := zSeg_of 1356 45 1796 (by decide +kernel) rfl (by decide +kernel)
set_option maxRecDepth 100000 in
theorem qL_34 (hJ : qJ M) (hn : n ≤ 4096) (hi : 0 ≤ i ∧ i + 8 ≤ n) (K : ∀ M', qJ M' → zG n (114, 4080270) 300 311 (2158, [zR 0, zR 8, zR 97, .inl i], []) M' qLQ) : zG n (114, 4080270) 300 311 (1796, [zR 0, zR 8, zR 97, .inl i], []) M qLQ := by
  have hz := zp_311
  have hg := sh_34
  refine zG_blk (c' := (1801, [zR 0, zR 8, zR 97, .inl i], [.inl (i + 1), zR 0, zR 8])) 5 (by decide) hz (zsteps_seg hg (by rw [show (.inl (i + 1) : zV) = .inl (w32 (i + 1)) from by rw [w32_id (by omega)]]; rfl)) ?_
  refine zG_iald (by decide) hz (hg _ _ rfl) rfl (.inr rfl) (by omega) ?_
  obtain ⟨x1, hx1⟩ : ∃ x : Int, x = M 0 (i + 1).toNat := ⟨_, rfl⟩
  rw [← hx1]
  have hr1 : qin x1 := by rw [hx1]; exact hJ.1.rng 0 _ (by decide) (by decide)
  show zG n (114, 4080270) 300 311 (1802, [zR 0, zR 8, zR 97, .inl i], [.inl x1, zR 8]) M _
  refine zG_blk (c' := (1806, [zR 0, zR 8, zR 97, .inl i], [.inl (i + 2), zR 0, .inl x1, zR 8])) 4 (by decide) hz (zsteps_seg hg (by rw [show (.inl (i + 2) : zV) = .inl (w32 (i + 2)) from by rw [w32_id (by omega)]]; rfl)) ?_
  refine zG_iald (by decide) hz (hg _ _ rfl) rfl (.inr rfl) (by omega) ?_
  obtain ⟨x2, hx2⟩ : ∃ x : Int, x = M 0 (i + 2).toNat := ⟨_, rfl⟩
  rw [← hx2]
  have hr2 : qin x2 := by rw [hx2]; exact hJ.1.rng 0 _ (by decide) (by decide)
  show zG n (114, 4080270) 300 311 (1807, [zR 0, zR 8, zR 97, .inl i], [.inl x2, .inl x1, zR 8]) M _
  refine zG_blk (c' := (1811, [zR 0, zR 8, zR 97, .inl i], [.inl (i + 3), zR 0, .inl x2, .inl x1, zR 8])) 4 (by decide) hz (zsteps_seg hg (by rw [show (.inl (i + 3) : zV) = .inl (w32 (i + 3)) from by rw [w32_id (by omega)]]; rfl)) ?_
  refine zG_iald (by decide) hz (hg _ _ rfl) rfl (.inr rfl) (by omega) ?_
  obtain ⟨x3, hx3⟩ : ∃ x : Int, x = M 0 (i + 3).toNat := ⟨_, rfl⟩
  rw [← hx3]
  have hr3 : qin x3 := by rw [hx3]; exact hJ.1.rng 0 _ (by decide) (by decide)
  show zG n (114, 4080270) 300 311 (1812, [zR 0, zR 8, zR 97, .inl i], [.inl x3, .inl x2, .inl x1, zR 8]) M _
  have j1820 : ∀ b1812 : Int, ((x3 = 0 ∧ b1812 = 0) ∨ (¬ x3 = 0 ∧ b1812 = 1)) → zG n (114, 4080270) 300 311 (1820, [zR 0, zR 8, zR 97, .inl i], [.inl b1812, .inl x2, .inl x1, zR 8]) M qLQ := by
    intro b1812 hb1812
    refine zG_call (by decide) hz zp_157 (hg _ _ rfl) rfl (Nat.le_of_ble_eq_true rfl) ⟨Nat.le_of_ble_eq_true rfl, Nat.le_of_ble_eq_true rfl⟩ (zG.andH (qm_157_8 (by decide) hJ.1 x1 (by omega) x2 (by omega) b1812 (by omega)) (fh_157_8 x1 x2 b1812)) (fun vr M1 hr => ?_)
    obtain ⟨⟨⟨hC1, hF1⟩, -⟩, rfl, hM1⟩ := hr
    have hi := hF1.hi rfl
    have hI := hJ.2.1.same hi
    have hc0 : ∀ j, M1 0 j = M 0 j := fun j => hF1 0 j (by decide)
    show zG n (114, 4080270) 300 311 (1823, [zR 0, zR 8, zR 97, .inl i], [.inl (hf_157_8 M x1 x2 b1812).1]) M1 _
    refine zG_blk (c' := (1829, [zR 0, zR 8, zR 97, .inl i], [.inl (i + 1), zR 0, zR 97])) 6 (by decide) hz (zsteps_seg hg (by rw [show (.inl (i + 1) : zV) = .inl (w32 (i + 1)) from by rw [w32_id (by omega)]]; rfl)) ?_
    refine zG_iald (by decide) hz (hg _ _ rfl) rfl (.inr rfl) (by omega) ?_
    rw [show M1 0 (i + 1).toNat = x1 from (hc0 _).trans hx1.symm]
    show zG n (114, 4080270) 300 311 (1830, [zR 0, zR 8, zR 97, .inl i], [.inl x1, zR 97]) M1 _
    refine zG_blk (c' := (1834, [zR 0, zR 8, zR 97, .inl i], [.inl (i + 2), zR 0, .inl x1, zR 97])) 4 (by decide) hz (zsteps_seg hg (by rw [show (.inl (i + 2) : zV) = .inl (w32 (i + 2)) from by rw [w32_id (by omega)]]; rfl)) ?_
    refine zG_iald (by decide) hz (hg _ _ rfl) rfl (.inr rfl) (by omega) ?_
    rw [show M1 0 (i + 2).toNat = x2 from (hc0 _).trans hx2.symm]
    show zG n (114, 4080270) 300 311 (1835, [zR 0, zR 8, zR 97, .inl i], [.inl x2, .inl x1, zR 97]) M1 _
    refine zG_blk (c' := (1839, [zR 0, zR 8, zR 97, .inl i], [.inl (i + 3), zR 0, .inl x2, .inl x1, zR 97])) 4 (by decide) hz (zsteps_seg hg (by rw [show (.inl (i + 3) : zV) = .inl (w32 (i + 3)) from by rw [w32_id (by omega)]]; rfl)) ?_
    refine zG_iald (by decide) hz (hg _ _ rfl) rfl (.inr rfl) (by omega) ?_
    rw [show M1 0 (i + 3).toNat = x3 from (hc0 _).trans hx3.symm]
    show zG n (114, 4080270) 300 311 (1840, [zR 0, zR 8, zR 97, .inl i], [.inl x3, .inl x2, .inl x1, zR 97]) M1 _
    have j1848 : zG n (114, 4080270) 300 311 (1848, [zR 0, zR 8, zR 97, .inl i], [.inl b1812, .inl x2, .inl x1, zR 97]) M1 qLQ := by
      refine zG_call (by decide) hz zp_271 (hg _ _ rfl) rfl (Nat.le_of_ble_eq_true rfl) ⟨Nat.le_of_ble_eq_true rfl, Nat.le_of_ble_eq_true rfl⟩ (zG.andH (qm_271_97 (by decide) hI x1 (by omega) x2 (by omega) b1812 (by omega)) (fh_271_97 x1 x2 b1812)) (fun vr M2 hr => ?_)
      obtain ⟨⟨⟨hC2, hF2⟩, -⟩, rfl, hM2⟩ := hr
      have hm := hm_157 hJ.2.2.1 hJ.1.tb hJ.2.1.bd (a1 := x1) (a2 := x2) (a3 := b1812) (by omega)
      rw [← hM1] at hm
      rw [← hM2] at hm
      have hJ2 : qJ M2 := hJ.mut hC1 hF1 rfl rfl hC2 hF2 rfl (by decide) hm.2
      show zG n (114, 4080270) 300 311 (1851, [zR 0, zR 8, zR 97, .inl i], [.inl (hf_271_97 M1 x1 x2 b1812).1]) M2 _
      refine zG_blk (c' := (2158, [zR 0, zR 8, zR 97, .inl i], [])) 2 (by decide) hz (zsteps_seg hg rfl) ?_
      exact K M2 hJ2
    refine zG_if_eq (by decide) hz (hg _ _ rfl) (fun hb => ?_) (fun hb => ?_)
    · exact zG_blk (c' := (1848, [zR 0, zR 8, zR 97, .inl i], [.inl b1812, .inl x2, .inl x1, zR 97])) 1 (by decide) hz (zsteps_seg hg (by rw [show b1812 = 0 by omega]; rfl)) j1848
    · exact zG_blk (c' := (1848, [zR 0, zR 8, zR 97, .inl i], [.inl b1812, .inl x2, .inl x1, zR 97])) 2 (by decide) hz (zsteps_seg hg (by rw [show b1812 = 1 by omega]; rfl)) j1848
  refine zG_if_eq (by decide) hz (hg _ _ rfl) (fun hb => ?_) (fun hb => ?_)
  · exact zG_blk (c' := (1820, [zR 0, zR 8, zR 97, .inl i], [.inl 0, .inl x2, .inl x1, zR 8])) 1 (by decide) hz (zsteps_seg hg rfl) (j1820 0 (.inl ⟨hb, rfl⟩))
  · exact zG_blk (c' := (1820, [zR 0, zR 8, zR 97, .inl i], [.inl 1, .inl x2, .inl x1, zR 8])) 2 (by decide) hz (zsteps_seg hg rfl) (j1820 1 (.inr ⟨hb, rfl⟩))
noncomputable def sg_35 : List zE := [(1855, zi_28, 1856, zx0),
  (1856, zi_0, 1857, zx0),
  (1857, zi_1, 1858, zx0),
  (1858, zi_2, 1859, zx0),
  (1859, zi_4, 1860, zx0),
  (1860, zi_8, 1861, zx0),
  (1861, zi_0, 1862, zx0),
  (1862, zi_1, 1863, zx0),
  (1863, zi_11, 1864, zx0),
  (1864, zi_4, 1865, zx0),
  (1865, zi_8, 1866, zx0),
  (1866, zi_536, 1869, (158, 3, 0, [11])),
  (1869, zi_21, 1870, zx0),
  (1870, zi_39, 1871, zx0),
  (1871, zi_0, 1872, zx0),
  (1872, zi_1, 1873, zx0),
  (1873, zi_2, 1874, zx0),
  (1874, zi_4, 1875, zx0),
  (1875, zi_8, 1876, zx0),
  (1876, zi_0, 1877, zx0),
  (1877, zi_1, 1878, zx0),
  (1878, zi_11, 1879, zx0),
  (1879, zi_4, 1880, zx0),
  (1880, zi_8, 1881, zx0),
  (1881, .invokevirtual 168, 1884, (278, 3, 0, [12])),
  (1884, zi_21, 1885, zx0),
  (1885, .goto (273), 1888, zx_8)]
set_option maxRecDepth 100000 in
theorem sh_35 : zSeg zk_L_law sg_35 := zSeg_of 1401 27 1855 (by decide +kernel) rfl (by decide +kernel)
set_option maxRecDepth 100000 in
theorem qL_35 (hJ : qJ M) (hn : n ≤ 4096) (hi : 0 ≤ i ∧ i + 8 ≤ n) (K : ∀ M', qJ M' → zG n (114, 4080270) 300 311 (2158, [zR 0, zR 8, zR 97, .inl i], []) M' qLQ) : zG n (114, 4080270) 300 311 (1855, [zR 0, zR 8, zR 97, .inl i], []) M qLQ := by
  have hz := zp_311
  have hg := sh_35
  refine zG_blk (c' := (1860, [zR 0, zR 8, zR 97, .inl i], [.inl (i + 1), zR 0, zR 8])) 5 (by decide) hz (zsteps_seg hg (by rw [show (.inl (i + 1) : zV) = .inl (w32 (i + 1)) from by rw [w32_id (by omega)]]; rfl)) ?_
  refine zG_iald (by decide) hz (hg _ _ rfl) rfl (.inr rfl) (by omega) ?_
  obtain ⟨x1, hx1⟩ : ∃ x : Int, x = M 0 (i + 1).toNat := ⟨_, rfl⟩
  rw [← hx1]
  have hr1 : qin x1 := by rw [hx1]; exact hJ.1.rng 0 _ (by decide) (by decide)
  show zG n (114, 4080270) 300 311 (1861, [zR 0, zR 8, zR 97, .inl i], [.inl x1, zR 8]) M _
  refine zG_blk (c' := (1865, [zR 0, zR 8, zR 97, .inl i], [.inl (i + 2), zR 0, .inl x1, zR 8])) 4 (by decide) hz (zsteps_seg hg (by rw [show (.inl (i + 2) : zV) = .inl (w32 (i + 2)) from by rw [w32_id (by omega)]]; rfl)) ?_
  refine zG_iald (by decide) hz (hg _ _ rfl) rfl (.inr rfl) (by omega) ?_
  obtain ⟨x2, hx2⟩ : ∃ x : Int, x = M 0 (i + 2).toNat := ⟨_, rfl⟩
  rw [← hx2]
  have hr2 : qin x2 := by rw [hx2]; exact hJ.1.rng 0 _ (by decide) (by decide)
  show zG n (114, 4080270) 300 311 (1866, [zR 0, zR 8, zR 97, .inl i], [.inl x2, .inl x1, zR 8]) M _
  refine zG_call (by decide) hz zp_158 (hg _ _ rfl) rfl (Nat.le_of_ble_eq_true rfl) ⟨Nat.le_of_ble_eq_true rfl, Nat.le_of_ble_eq_true rfl⟩ (qm_158_8 (by decide) hJ.1 x1 (by omega) x2 (by omega)) (fun vr M1 hr => ?_)
  obtain ⟨⟨hCM1, hFM1⟩, hr⟩ := hr
  have hJM1 : qJ M1 := hJ.cls hCM1 hFM1 rfl rfl
  have hc0 : ∀ j, M1 0 j = M 0 j := fun j => hFM1 0 j (by decide)
  obtain ⟨r1, rfl, -⟩ := hr
  show zG n (114, 4080270) 300 311 (1869, [zR 0, zR 8, zR 97, .inl i], [.inl r1]) M1 _
  refine zG_blk (c' := (1875, [zR 0, zR 8, zR 97, .inl i], [.inl (i + 1), zR 0, zR 97])) 6 (by decide) hz (zsteps_seg hg (by rw [show (.inl (i + 1) : zV) = .inl (w32 (i + 1)) from by rw [w32_id (by omega)]]; rfl)) ?_
  refine zG_iald (by decide) hz (hg _ _ rfl) rfl (.inr rfl) (by omega) ?_
  rw [show M1 0 (i + 1).toNat = x1 from (hc0 _).trans hx1.symm]
  show zG n (114, 4080270) 300 311 (1876, [zR 0, zR 8, zR 97, .inl i], [.inl x1, zR 97]) M1 _
  refine zG_blk (c' := (1880, [zR 0, zR 8, zR 97, .inl i], [.inl (i + 2), zR 0, .inl x1, zR 97])) 4 (by decide) hz (zsteps_seg hg (by rw [show (.inl (i + 2) : zV) = .inl (w32 (i + 2)) from by rw [w32_id (by omega)]]; rfl)) ?_
  refine zG_iald (by decide) hz (hg _ _ rfl) rfl (.inr rfl) (by omega) ?_
  rw [show M1 0 (i + 2).toNat = x2 from (hc0 _).trans hx2.symm]
  show zG n (114, 4080270) 300 311 (1881, [zR 0, zR 8, zR 97, .inl i], [.inl x2, .inl x1, zR 97]) M1 _
  refine zG_call (by decide) hz zp_278 (hg _ _ rfl) rfl (Nat.le_of_ble_eq_true rfl) ⟨Nat.le_of_ble_eq_true rfl, Nat.le_of_ble_eq_true rfl⟩ (qm_278_97 (by decide) hJM1.2.1 x1 (by omega) x2 (by omega)) (fun vr M2 hr => ?_)
  obtain ⟨⟨hCM2, hFM2⟩, hr⟩ := hr
  have hJM2 : qJ M2 := hJM1.mdl hCM2 hFM2 rfl (by decide) (fun j _ _ _ _ => hFM2.ar 98 j (by decide) (by decide))
  obtain ⟨r2, hv9⟩ := hr
  first | (obtain ⟨rfl, -⟩ := hv9) | (obtain rfl := hv9)
  show zG n (114, 4080270) 300 311 (1884, [zR 0, zR 8, zR 97, .inl i], [.inl r2]) M2 _
  refine zG_blk (c' := (2158, [zR 0, zR 8, zR 97, .inl i], [])) 2 (by decide) hz (zsteps_seg hg rfl) ?_
  exact K M2 hJM2
noncomputable def sg_36 : List zE := [(1888, zi_28, 1889, zx0),
  (1889, zi_0, 1890, zx0),
  (1890, zi_1, 1891, zx0),
  (1891, zi_2, 1892, zx0),
  (1892, zi_4, 1893, zx0),
  (1893, zi_8, 1894, zx0),
  (1894, zi_0, 1895, zx0),
  (1895, zi_1, 1896, zx0),
  (1896, zi_11, 1897, zx0),
  (1897, zi_4, 1898, zx0),
  (1898, zi_8, 1899, zx0),
  (1899, zi_0, 1900, zx0),
  (1900, zi_1, 1901, zx0),
  (1901, zi_13, 1902, zx0),
  (1902, zi_4, 1903, zx0),
  (1903, zi_8, 1904, zx0),
  (1904, .invokevirtual 169, 1907, (159, 4, 0, [11])),
  (1907, zi_21, 1908, zx0),
  (1908, zi_39, 1909, zx0),
  (1909, zi_0, 1910, zx0),
  (1910, zi_1, 1911, zx0),
  (1911, zi_2, 1912, zx0),
  (1912, zi_4, 1913, zx0),
  (1913, zi_8, 1914, zx0),
  (1914, zi_0, 1915, zx0),
  (1915, zi_1, 1916, zx0),
  (1916, zi_11, 1917, zx0),
  (1917, zi_4, 1918, zx0),
  (1918, zi_8, 1919, zx0),
  (1919, zi_0, 1920, zx0),
  (1920, zi_1, 1921, zx0),
  (1921, zi_13, 1922, zx0),
  (1922, zi_4, 1923, zx0),
  (1923, zi_8, 1924, zx0),
  (1924, .invokevirtual 172, 1927, (279, 4, 0, [12])),
  (1927, zi_21, 1928, zx0),
  (1928, .goto (230), 1931, zx_8)]
set_option maxRecDepth 100000 in
theorem sh_36 : zSeg zk_L_law sg_36 := zSeg_of 1428 37 1888 (by decide +kernel) rfl (by decide +kernel)
set_option maxRecDepth 100000 in
theorem qL_36 (hJ : qJ M) (hn : n ≤ 4096) (hi : 0 ≤ i ∧ i + 8 ≤ n) (K : ∀ M', qJ M' → zG n (114, 4080270) 300 311 (2158, [zR 0, zR 8, zR 97, .inl i], []) M' qLQ) : zG n (114, 4080270) 300 311 (1888, [zR 0, zR 8, zR 97, .inl i], []) M qLQ := by
  have hz := zp_311
  have hg := sh_36
  refine zG_blk (c' := (1893, [zR 0, zR 8, zR 97, .inl i], [.inl (i + 1), zR 0, zR 8])) 5 (by decide) hz (zsteps_seg hg (by rw [show (.inl (i + 1) : zV) = .inl (w32 (i + 1)) from by rw [w32_id (by omega)]]; rfl)) ?_
  refine zG_iald (by decide) hz (hg _ _ rfl) rfl (.inr rfl) (by omega) ?_
  obtain ⟨x1, hx1⟩ : ∃ x : Int, x = M 0 (i + 1).toNat := ⟨_, rfl⟩
  rw [← hx1]
  have hr1 : qin x1 := by rw [hx1]; exact hJ.1.rng 0 _ (by decide) (by decide)
  show zG n (114, 4080270) 300 311 (1894, [zR 0, zR 8, zR 97, .inl i], [.inl x1, zR 8]) M _
  refine zG_blk (c' := (1898, [zR 0, zR 8, zR 97, .inl i], [.inl (i + 2), zR 0, .inl x1, zR 8])) 4 (by decide) hz (zsteps_seg hg (by rw [show (.inl (i + 2) : zV) = .inl (w32 (i + 2)) from by rw [w32_id (by omega)]]; rfl)) ?_
  refine zG_iald (by decide) hz (hg _ _ rfl) rfl (.inr rfl) (by omega) ?_
  obtain ⟨x2, hx2⟩ : ∃ x : Int, x = M 0 (i + 2).toNat := ⟨_, rfl⟩
  rw [← hx2]
  have hr2 : qin x2 := by rw [hx2]; exact hJ.1.rng 0 _ (by decide) (by decide)
  show zG n (114, 4080270) 300 311 (1899, [zR 0, zR 8, zR 97, .inl i], [.inl x2, .inl x1, zR 8]) M _
  refine zG_blk (c' := (1903, [zR 0, zR 8, zR 97, .inl i], [.inl (i + 3), zR 0, .inl x2, .inl x1, zR 8])) 4 (by decide) hz (zsteps_seg hg (by rw [show (.inl (i + 3) : zV) = .inl (w32 (i + 3)) from by rw [w32_id (by omega)]]; rfl)) ?_
  refine zG_iald (by decide) hz (hg _ _ rfl) rfl (.inr rfl) (by omega) ?_
  obtain ⟨x3, hx3⟩ : ∃ x : Int, x = M 0 (i + 3).toNat := ⟨_, rfl⟩
  rw [← hx3]
  have hr3 : qin x3 := by rw [hx3]; exact hJ.1.rng 0 _ (by decide) (by decide)
  show zG n (114, 4080270) 300 311 (1904, [zR 0, zR 8, zR 97, .inl i], [.inl x3, .inl x2, .inl x1, zR 8]) M _
  refine zG_call (by decide) hz zp_159 (hg _ _ rfl) rfl (Nat.le_of_ble_eq_true rfl) ⟨Nat.le_of_ble_eq_true rfl, Nat.le_of_ble_eq_true rfl⟩ (qm_159_8 (by decide) hJ.1 x1 (by omega) x2 (by omega) x3 (by omega)) (fun vr M1 hr => ?_)
  obtain ⟨⟨hCM1, hFM1⟩, hr⟩ := hr
  have hJM1 : qJ M1 := hJ.cls hCM1 hFM1 rfl rfl
  have hc0 : ∀ j, M1 0 j = M 0 j := fun j => hFM1 0 j (by decide)
  obtain ⟨r1, rfl, -⟩ := hr
  show zG n (114, 4080270) 300 311 (1907, [zR 0, zR 8, zR 97, .inl i], [.inl r1]) M1 _
  refine zG_blk (c' := (1913, [zR 0, zR 8, zR 97, .inl i], [.inl (i + 1), zR 0, zR 97])) 6 (by decide) hz (zsteps_seg hg (by rw [show (.inl (i + 1) : zV) = .inl (w32 (i + 1)) from by rw [w32_id (by omega)]]; rfl)) ?_
  refine zG_iald (by decide) hz (hg _ _ rfl) rfl (.inr rfl) (by omega) ?_
  rw [show M1 0 (i + 1).toNat = x1 from (hc0 _).trans hx1.symm]
  show zG n (114, 4080270) 300 311 (1914, [zR 0, zR 8, zR 97, .inl i], [.inl x1, zR 97]) M1 _
  refine zG_blk (c' := (1918, [zR 0, zR 8, zR 97, .inl i], [.inl (i + 2), zR 0, .inl x1, zR 97])) 4 (by decide) hz (zsteps_seg hg (by rw [show (.inl (i + 2) : zV) = .inl (w32 (i + 2)) from by rw [w32_id (by omega)]]; rfl)) ?_
  refine zG_iald (by decide) hz (hg _ _ rfl) rfl (.inr rfl) (by omega) ?_
  rw [show M1 0 (i + 2).toNat = x2 from (hc0 _).trans hx2.symm]
  show zG n (114, 4080270) 300 311 (1919, [zR 0, zR 8, zR 97, .inl i], [.inl x2, .inl x1, zR 97]) M1 _
  refine zG_blk (c' := (1923, [zR 0, zR 8, zR 97, .inl i], [.inl (i + 3), zR 0, .inl x2, .inl x1, zR 97])) 4 (by decide) hz (zsteps_seg hg (by rw [show (.inl (i + 3) : zV) = .inl (w32 (i + 3)) from by rw [w32_id (by omega)]]; rfl)) ?_
  refine zG_iald (by decide) hz (hg _ _ rfl) rfl (.inr rfl) (by omega) ?_
  rw [show M1 0 (i + 3).toNat = x3 from (hc0 _).trans hx3.symm]
  show zG n (114, 4080270) 300 311 (1924, [zR 0, zR 8, zR 97, .inl i], [.inl x3, .inl x2, .inl x1, zR 97]) M1 _
  refine zG_call (by decide) hz zp_279 (hg _ _ rfl) rfl (Nat.le_of_ble_eq_true rfl) ⟨Nat.le_of_ble_eq_true rfl, Nat.le_of_ble_eq_true rfl⟩ (qm_279_97 (by decide) hJM1.2.1 x1 (by omega) x2 (by omega) x3 (by omega)) (fun vr M2 hr => ?_)
  obtain ⟨⟨hCM2, hFM2⟩, hr⟩ := hr
  have hJM2 : qJ M2 := hJM1.mdl hCM2 hFM2 rfl (by decide) (fun j _ _ _ _ => hFM2.ar 98 j (by decide) (by decide))
  obtain ⟨r2, hv9⟩ := hr
  first | (obtain ⟨rfl, -⟩ := hv9) | (obtain rfl := hv9)
  show zG n (114, 4080270) 300 311 (1927, [zR 0, zR 8, zR 97, .inl i], [.inl r2]) M2 _
  refine zG_blk (c' := (2158, [zR 0, zR 8, zR 97, .inl i], [])) 2 (by decide) hz (zsteps_seg hg rfl) ?_
  exact K M2 hJM2
noncomputable def sg_37 : List zE := [(1931, zi_28, 1932, zx0),
  (1932, zi_0, 1933, zx0),
  (1933, zi_1, 1934, zx0),
  (1934, zi_2, 1935, zx0),
  (1935, zi_4, 1936, zx0),
  (1936, zi_8, 1937, zx0),
  (1937, zi_0, 1938, zx0),
  (1938, zi_1, 1939, zx0),
  (1939, zi_11, 1940, zx0),
  (1940, zi_4, 1941, zx0),
  (1941, zi_8, 1942, zx0),
  (1942, zi_0, 1943, zx0),
  (1943, zi_1, 1944, zx0),
  (1944, zi_13, 1945, zx0),
  (1945, zi_4, 1946, zx0),
  (1946, zi_8, 1947, zx0),
  (1947, zi_188, 1950, (160, 4, 0, [11])),
  (1950, zi_21, 1951, zx0),
  (1951, zi_39, 1952, zx0),
  (1952, zi_0, 1953, zx0),
  (1953, zi_1, 1954, zx0),
  (1954, zi_2, 1955, zx0),
  (1955, zi_4, 1956, zx0),
  (1956, zi_8, 1957, zx0),
  (1957, zi_0, 1958, zx0),
  (1958, zi_1, 1959, zx0),
  (1959, zi_11, 1960, zx0),
  (1960, zi_4, 1961, zx0),
  (1961, zi_8, 1962, zx0),
  (1962, zi_0, 1963, zx0),
  (1963, zi_1, 1964, zx0),
  (1964, zi_13, 1965, zx0),
  (1965, zi_4, 1966, zx0),
  (1966, zi_8, 1967, zx0),
  (1967, .invokevirtual 176, 1970, (284, 4, 0, [12])),
  (1970, zi_21, 1971, zx0),
  (1971, .goto (187), 1974, zx_8)]
set_option maxRecDepth 100000 in
theorem sh_37 : zSeg zk_L_law sg_37 := zSeg_of 1465 37 1931 (by decide +kernel) rfl (by decide +kernel)
set_option maxRecDepth 100000 in
theorem qL_37 (hJ : qJ M) (hn : n ≤ 4096) (hi : 0 ≤ i ∧ i + 8 ≤ n) (K : ∀ M', qJ M' → zG n (114, 4080270) 300 311 (2158, [zR 0, zR 8, zR 97, .inl i], []) M' qLQ) : zG n (114, 4080270) 300 311 (1931, [zR 0, zR 8, zR 97, .inl i], []) M qLQ := by
  have hz := zp_311
  have hg := sh_37
  refine zG_blk (c' := (1936, [zR 0, zR 8, zR 97, .inl i], [.inl (i + 1), zR 0, zR 8])) 5 (by decide) hz (zsteps_seg hg (by rw [show (.inl (i + 1) : zV) = .inl (w32 (i + 1)) from by rw [w32_id (by omega)]]; rfl)) ?_
  refine zG_iald (by decide) hz (hg _ _ rfl) rfl (.inr rfl) (by omega) ?_
  obtain ⟨x1, hx1⟩ : ∃ x : Int, x = M 0 (i + 1).toNat := ⟨_, rfl⟩
  rw [← hx1]
  have hr1 : qin x1 := by rw [hx1]; exact hJ.1.rng 0 _ (by decide) (by decide)
  show zG n (114, 4080270) 300 311 (1937, [zR 0, zR 8, zR 97, .inl i], [.inl x1, zR 8]) M _
  refine zG_blk (c' := (1941, [zR 0, zR 8, zR 97, .inl i], [.inl (i + 2), zR 0, .inl x1, zR 8])) 4 (by decide) hz (zsteps_seg hg (by rw [show (.inl (i + 2) : zV) = .inl (w32 (i + 2)) from by rw [w32_id (by omega)]]; rfl)) ?_
  refine zG_iald (by decide) hz (hg _ _ rfl) rfl (.inr rfl) (by omega) ?_
  obtain ⟨x2, hx2⟩ : ∃ x : Int, x = M 0 (i + 2).toNat := ⟨_, rfl⟩
  rw [← hx2]
  have hr2 : qin x2 := by rw [hx2]; exact hJ.1.rng 0 _ (by decide) (by decide)
  show zG n (114, 4080270) 300 311 (1942, [zR 0, zR 8, zR 97, .inl i], [.inl x2, .inl x1, zR 8]) M _
  refine zG_blk (c' := (1946, [zR 0, zR 8, zR 97, .inl i], [.inl (i + 3), zR 0, .inl x2, .inl x1, zR 8])) 4 (by decide) hz (zsteps_seg hg (by rw [show (.inl (i + 3) : zV) = .inl (w32 (i + 3)) from by rw [w32_id (by omega)]]; rfl)) ?_
  refine zG_iald (by decide) hz (hg _ _ rfl) rfl (.inr rfl) (by omega) ?_
  obtain ⟨x3, hx3⟩ : ∃ x : Int, x = M 0 (i + 3).toNat := ⟨_, rfl⟩
  rw [← hx3]
  have hr3 : qin x3 := by rw [hx3]; exact hJ.1.rng 0 _ (by decide) (by decide)
  show zG n (114, 4080270) 300 311 (1947, [zR 0, zR 8, zR 97, .inl i], [.inl x3, .inl x2, .inl x1, zR 8]) M _
  refine zG_call (by decide) hz zp_160 (hg _ _ rfl) rfl (Nat.le_of_ble_eq_true rfl) ⟨Nat.le_of_ble_eq_true rfl, Nat.le_of_ble_eq_true rfl⟩ (qm_160_8 (by decide) hJ.1 x1 (by omega) x2 (by omega) x3 (by omega)) (fun vr M1 hr => ?_)
  obtain ⟨⟨hCM1, hFM1⟩, hr⟩ := hr
  have hJM1 : qJ M1 := hJ.cls hCM1 hFM1 rfl rfl
  have hc0 : ∀ j, M1 0 j = M 0 j := fun j => hFM1 0 j (by decide)
  obtain ⟨r1, rfl, -⟩ := hr
  show zG n (114, 4080270) 300 311 (1950, [zR 0, zR 8, zR 97, .inl i], [.inl r1]) M1 _
  refine zG_blk (c' := (1956, [zR 0, zR 8, zR 97, .inl i], [.inl (i + 1), zR 0, zR 97])) 6 (by decide) hz (zsteps_seg hg (by rw [show (.inl (i + 1) : zV) = .inl (w32 (i + 1)) from by rw [w32_id (by omega)]]; rfl)) ?_
  refine zG_iald (by decide) hz (hg _ _ rfl) rfl (.inr rfl) (by omega) ?_
  rw [show M1 0 (i + 1).toNat = x1 from (hc0 _).trans hx1.symm]
  show zG n (114, 4080270) 300 311 (1957, [zR 0, zR 8, zR 97, .inl i], [.inl x1, zR 97]) M1 _
  refine zG_blk (c' := (1961, [zR 0, zR 8, zR 97, .inl i], [.inl (i + 2), zR 0, .inl x1, zR 97])) 4 (by decide) hz (zsteps_seg hg (by rw [show (.inl (i + 2) : zV) = .inl (w32 (i + 2)) from by rw [w32_id (by omega)]]; rfl)) ?_
  refine zG_iald (by decide) hz (hg _ _ rfl) rfl (.inr rfl) (by omega) ?_
  rw [show M1 0 (i + 2).toNat = x2 from (hc0 _).trans hx2.symm]
  show zG n (114, 4080270) 300 311 (1962, [zR 0, zR 8, zR 97, .inl i], [.inl x2, .inl x1, zR 97]) M1 _
  refine zG_blk (c' := (1966, [zR 0, zR 8, zR 97, .inl i], [.inl (i + 3), zR 0, .inl x2, .inl x1, zR 97])) 4 (by decide) hz (zsteps_seg hg (by rw [show (.inl (i + 3) : zV) = .inl (w32 (i + 3)) from by rw [w32_id (by omega)]]; rfl)) ?_
  refine zG_iald (by decide) hz (hg _ _ rfl) rfl (.inr rfl) (by omega) ?_
  rw [show M1 0 (i + 3).toNat = x3 from (hc0 _).trans hx3.symm]
  show zG n (114, 4080270) 300 311 (1967, [zR 0, zR 8, zR 97, .inl i], [.inl x3, .inl x2, .inl x1, zR 97]) M1 _
  refine zG_call (by decide) hz zp_284 (hg _ _ rfl) rfl (Nat.le_of_ble_eq_true rfl) ⟨Nat.le_of_ble_eq_true rfl, Nat.le_of_ble_eq_true rfl⟩ (qm_284_97 (by decide) hJM1.2.1 x1 (by omega) x2 (by omega) x3 (by omega)) (fun vr M2 hr => ?_)
  obtain ⟨⟨hCM2, hFM2⟩, hr⟩ := hr
  have hJM2 : qJ M2 := hJM1.mdl hCM2 hFM2 rfl (by decide) (fun j _ _ _ _ => hFM2.ar 98 j (by decide) (by decide))
  obtain ⟨r2, hv9⟩ := hr
  first | (obtain ⟨rfl, -⟩ := hv9) | (obtain rfl := hv9)
  show zG n (114, 4080270) 300 311 (1970, [zR 0, zR 8, zR 97, .inl i], [.inl r2]) M2 _
  refine zG_blk (c' := (2158, [zR 0, zR 8, zR 97, .inl i], [])) 2 (by decide) hz (zsteps_seg hg rfl) ?_
  exact K M2 hJM2
noncomputable def sg_38 : List zE := [(1974, zi_28, 1975, zx0),
  (1975, zi_0, 1976, zx0),
  (1976, zi_1, 1977, zx0),
  (1977, zi_2, 1978, zx0),
  (1978, zi_4, 1979, zx0),
  (1979, zi_8, 1980, zx0),
  (1980, zi_431, 1983, (161, 2, 0, [11])),
  (1983, zi_21, 1984, zx0),
  (1984, zi_39, 1985, zx0),
  (1985, zi_0, 1986, zx0),
  (1986, zi_1, 1987, zx0),
  (1987, zi_2, 1988, zx0),
  (1988, zi_4, 1989, zx0),
  (1989, zi_8, 1990, zx0),
  (1990, zi_185, 1993, (285, 2, 0, [12])),
  (1993, zi_21, 1994, zx0),
  (1994, .goto (164), 1997, zx_8)]
set_option maxRecDepth 100000 in
theorem sh_38 : zSeg zk_L_law sg_38 := zSeg_of 1502 17 1974 (by decide +kernel) rfl (by decide +kernel)
set_option maxRecDepth 100000 in
theorem qL_38 (hJ : qJ M) (hn : n ≤ 4096) (hi : 0 ≤ i ∧ i + 8 ≤ n) (K : ∀ M', qJ M' → zG n (114, 4080270) 300 311 (2158, [zR 0, zR 8, zR 97, .inl i], []) M' qLQ) : zG n (114, 4080270) 300 311 (1974, [zR 0, zR 8, zR 97, .inl i], []) M qLQ := by
  have hz := zp_311
  have hg := sh_38
  refine zG_blk (c' := (1979, [zR 0, zR 8, zR 97, .inl i], [.inl (i + 1), zR 0, zR 8])) 5 (by decide) hz (zsteps_seg hg (by rw [show (.inl (i + 1) : zV) = .inl (w32 (i + 1)) from by rw [w32_id (by omega)]]; rfl)) ?_
  refine zG_iald (by decide) hz (hg _ _ rfl) rfl (.inr rfl) (by omega) ?_
  obtain ⟨x1, hx1⟩ : ∃ x : Int, x = M 0 (i + 1).toNat := ⟨_, rfl⟩
  rw [← hx1]
  have hr1 : qin x1 := by rw [hx1]; exact hJ.1.rng 0 _ (by decide) (by decide)
  show zG n (114, 4080270) 300 311 (1980, [zR 0, zR 8, zR 97, .inl i], [.inl x1, zR 8]) M _
  refine zG_call (by decide) hz zp_161 (hg _ _ rfl) rfl (Nat.le_of_ble_eq_true rfl) ⟨Nat.le_of_ble_eq_true rfl, Nat.le_of_ble_eq_true rfl⟩ (zG.andH (qm_161_8 (by decide) hJ.1 x1 (by omega)) (fh_161_8 x1)) (fun vr M1 hr => ?_)
  obtain ⟨⟨⟨hC1, hF1⟩, -⟩, rfl, hM1⟩ := hr
  have hi := hF1.hi rfl
  have hI := hJ.2.1.same hi
  have hc0 : ∀ j, M1 0 j = M 0 j := fun j => hF1 0 j (by decide)
  show zG n (114, 4080270) 300 311 (1983, [zR 0, zR 8, zR 97, .inl i], [.inl (hf_161_8 M x1).1]) M1 _
  refine zG_blk (c' := (1989, [zR 0, zR 8, zR 97, .inl i], [.inl (i + 1), zR 0, zR 97])) 6 (by decide) hz (zsteps_seg hg (by rw [show (.inl (i + 1) : zV) = .inl (w32 (i + 1)) from by rw [w32_id (by omega)]]; rfl)) ?_
  refine zG_iald (by decide) hz (hg _ _ rfl) rfl (.inr rfl) (by omega) ?_
  rw [show M1 0 (i + 1).toNat = x1 from (hc0 _).trans hx1.symm]
  show zG n (114, 4080270) 300 311 (1990, [zR 0, zR 8, zR 97, .inl i], [.inl x1, zR 97]) M1 _
  refine zG_call (by decide) hz zp_285 (hg _ _ rfl) rfl (Nat.le_of_ble_eq_true rfl) ⟨Nat.le_of_ble_eq_true rfl, Nat.le_of_ble_eq_true rfl⟩ (zG.andH (qm_285_97 (by decide) hI x1 (by omega)) (fh_285_97 x1)) (fun vr M2 hr => ?_)
  obtain ⟨⟨⟨hC2, hF2⟩, -⟩, rfl, hM2⟩ := hr
  have hm := hm_161 hJ.2.2.1 hJ.1.tb hJ.2.1.bd (a1 := x1)
  rw [← hM1] at hm
  rw [← hM2] at hm
  have hJ2 : qJ M2 := hJ.mut hC1 hF1 rfl rfl hC2 hF2 rfl (by decide) hm.2
  show zG n (114, 4080270) 300 311 (1993, [zR 0, zR 8, zR 97, .inl i], [.inl (hf_285_97 M1 x1).1]) M2 _
  refine zG_blk (c' := (2158, [zR 0, zR 8, zR 97, .inl i], [])) 2 (by decide) hz (zsteps_seg hg rfl) ?_
  exact K M2 hJ2
noncomputable def sg_39 : List zE := [(1997, zi_28, 1998, zx0),
  (1998, zi_0, 1999, zx0),
  (1999, zi_1, 2000, zx0),
  (2000, zi_2, 2001, zx0),
  (2001, zi_4, 2002, zx0),
  (2002, zi_8, 2003, zx0),
  (2003, zi_0, 2004, zx0),
  (2004, zi_1, 2005, zx0),
  (2005, zi_11, 2006, zx0),
  (2006, zi_4, 2007, zx0),
  (2007, zi_8, 2008, zx0),
  (2008, .invokevirtual 181, 2011, (162, 3, 0, [11])),
  (2011, zi_21, 2012, zx0),
  (2012, zi_39, 2013, zx0),
  (2013, zi_0, 2014, zx0),
  (2014, zi_1, 2015, zx0),
  (2015, zi_2, 2016, zx0),
  (2016, zi_4, 2017, zx0),
  (2017, zi_8, 2018, zx0),
  (2018, zi_0, 2019, zx0),
  (2019, zi_1, 2020, zx0),
  (2020, zi_11, 2021, zx0),
  (2021, zi_4, 2022, zx0),
  (2022, zi_8, 2023, zx0),
  (2023, .invokevirtual 184, 2026, (286, 3, 0, [12])),
  (2026, zi_21, 2027, zx0),
  (2027, .goto (131), 2030, zx_8)]
set_option maxRecDepth 100000 in
theorem sh_39 : zSeg zk_L_law sg_39 := zSeg_of 1519 27 1997 (by decide +kernel) rfl (by decide +kernel)
set_option maxRecDepth 100000 in
theorem qL_39 (hJ : qJ M) (hn : n ≤ 4096) (hi : 0 ≤ i ∧ i + 8 ≤ n) (K : ∀ M', qJ M' → zG n (114, 4080270) 300 311 (2158, [zR 0, zR 8, zR 97, .inl i], []) M' qLQ) : zG n (114, 4080270) 300 311 (1997, [zR 0, zR 8, zR 97, .inl i], []) M qLQ := by
  have hz := zp_311
  have hg := sh_39
  refine zG_blk (c' := (2002, [zR 0, zR 8, zR 97, .inl i], [.inl (i + 1), zR 0, zR 8])) 5 (by decide) hz (zsteps_seg hg (by rw [show (.inl (i + 1) : zV) = .inl (w32 (i + 1)) from by rw [w32_id (by omega)]]; rfl)) ?_
  refine zG_iald (by decide) hz (hg _ _ rfl) rfl (.inr rfl) (by omega) ?_
  obtain ⟨x1, hx1⟩ : ∃ x : Int, x = M 0 (i + 1).toNat := ⟨_, rfl⟩
  rw [← hx1]
  have hr1 : qin x1 := by rw [hx1]; exact hJ.1.rng 0 _ (by decide) (by decide)
  show zG n (114, 4080270) 300 311 (2003, [zR 0, zR 8, zR 97, .inl i], [.inl x1, zR 8]) M _
  refine zG_blk (c' := (2007, [zR 0, zR 8, zR 97, .inl i], [.inl (i + 2), zR 0, .inl x1, zR 8])) 4 (by decide) hz (zsteps_seg hg (by rw [show (.inl (i + 2) : zV) = .inl (w32 (i + 2)) from by rw [w32_id (by omega)]]; rfl)) ?_
  refine zG_iald (by decide) hz (hg _ _ rfl) rfl (.inr rfl) (by omega) ?_
  obtain ⟨x2, hx2⟩ : ∃ x : Int, x = M 0 (i + 2).toNat := ⟨_, rfl⟩
  rw [← hx2]
  have hr2 : qin x2 := by rw [hx2]; exact hJ.1.rng 0 _ (by decide) (by decide)
  show zG n (114, 4080270) 300 311 (2008, [zR 0, zR 8, zR 97, .inl i], [.inl x2, .inl x1, zR 8]) M _
  refine zG_call (by decide) hz zp_162 (hg _ _ rfl) rfl (Nat.le_of_ble_eq_true rfl) ⟨Nat.le_of_ble_eq_true rfl, Nat.le_of_ble_eq_true rfl⟩ (zG.andH (qm_162_8 (by decide) hJ.1 x1 (by omega) x2 (by omega)) (fh_162_8 x1 x2)) (fun vr M1 hr => ?_)
  obtain ⟨⟨⟨hC1, hF1⟩, -⟩, rfl, hM1⟩ := hr
  have hi := hF1.hi rfl
  have hI := hJ.2.1.same hi
  have hc0 : ∀ j, M1 0 j = M 0 j := fun j => hF1 0 j (by decide)
  show zG n (114, 4080270) 300 311 (2011, [zR 0, zR 8, zR 97, .inl i], [.inl (hf_162_8 M x1 x2).1]) M1 _
  refine zG_blk (c' := (2017, [zR 0, zR 8, zR 97, .inl i], [.inl (i + 1), zR 0, zR 97])) 6 (by decide) hz (zsteps_seg hg (by rw [show (.inl (i + 1) : zV) = .inl (w32 (i + 1)) from by rw [w32_id (by omega)]]; rfl)) ?_
  refine zG_iald (by decide) hz (hg _ _ rfl) rfl (.inr rfl) (by omega) ?_
  rw [show M1 0 (i + 1).toNat = x1 from (hc0 _).trans hx1.symm]
  show zG n (114, 4080270) 300 311 (2018, [zR 0, zR 8, zR 97, .inl i], [.inl x1, zR 97]) M1 _
  refine zG_blk (c' := (2022, [zR 0, zR 8, zR 97, .inl i], [.inl (i + 2), zR 0, .inl x1, zR 97])) 4 (by decide) hz (zsteps_seg hg (by rw [show (.inl (i + 2) : zV) = .inl (w32 (i + 2)) from by rw [w32_id (by omega)]]; rfl)) ?_
  refine zG_iald (by decide) hz (hg _ _ rfl) rfl (.inr rfl) (by omega) ?_
  rw [show M1 0 (i + 2).toNat = x2 from (hc0 _).trans hx2.symm]
  show zG n (114, 4080270) 300 311 (2023, [zR 0, zR 8, zR 97, .inl i], [.inl x2, .inl x1, zR 97]) M1 _
  refine zG_call (by decide) hz zp_286 (hg _ _ rfl) rfl (Nat.le_of_ble_eq_true rfl) ⟨Nat.le_of_ble_eq_true rfl, Nat.le_of_ble_eq_true rfl⟩ (zG.andH (qm_286_97 (by decide) hI x1 (by omega) x2 (by omega)) (fh_286_97 x1 x2)) (fun vr M2 hr => ?_)
  obtain ⟨⟨⟨hC2, hF2⟩, -⟩, rfl, hM2⟩ := hr
  have hm := hm_162 hJ.2.2.1 hJ.1.tb hJ.2.1.bd (a1 := x1) (a2 := x2)
  rw [← hM1] at hm
  rw [← hM2] at hm
  have hJ2 : qJ M2 := hJ.mut hC1 hF1 rfl rfl hC2 hF2 rfl (by decide) hm.2
  show zG n (114, 4080270) 300 311 (2026, [zR 0, zR 8, zR 97, .inl i], [.inl (hf_286_97 M1 x1 x2).1]) M2 _
  refine zG_blk (c' := (2158, [zR 0, zR 8, zR 97, .inl i], [])) 2 (by decide) hz (zsteps_seg hg rfl) ?_
  exact K M2 hJ2
noncomputable def sg_40 : List zE := [(2030, zi_28, 2031, zx0),
  (2031, .invokevirtual 185, 2034, (163, 1, 0, [11])),
  (2034, zi_21, 2035, zx0),
  (2035, zi_39, 2036, zx0),
  (2036, zi_561, 2039, (287, 1, 0, [12])),
  (2039, zi_21, 2040, zx0),
  (2040, zi_597, 2043, zx_8)]
set_option maxRecDepth 100000 in
theorem sh_40 : zSeg zk_L_law sg_40 := zSeg_of 1546 7 2030 (by decide +kernel) rfl (by decide +kernel)
set_option maxRecDepth 100000 in
theorem qL_40 (hJ : qJ M) (hn : n ≤ 4096) (hi : 0 ≤ i ∧ i + 8 ≤ n) (K : ∀ M', qJ M' → zG n (114, 4080270) 300 311 (2158, [zR 0, zR 8, zR 97, .inl i], []) M' qLQ) : zG n (114, 4080270) 300 311 (2030, [zR 0, zR 8, zR 97, .inl i], []) M qLQ := by
  have hz := zp_311
  have hg := sh_40
  refine zG_blk (c' := (2031, [zR 0, zR 8, zR 97, .inl i], [zR 8])) 1 (by decide) hz (zsteps_seg hg rfl) ?_
  refine zG_call (by decide) hz zp_163 (hg _ _ rfl) rfl (Nat.le_of_ble_eq_true rfl) ⟨Nat.le_of_ble_eq_true rfl, Nat.le_of_ble_eq_true rfl⟩ (zG.andH (qm_163_8 (by decide) hJ.1 ) (fh_163_8 )) (fun vr M1 hr => ?_)
  obtain ⟨⟨⟨hC1, hF1⟩, -⟩, rfl, hM1⟩ := hr
  have hi := hF1.hi rfl
  have hI := hJ.2.1.same hi
  have hc0 : ∀ j, M1 0 j = M 0 j := fun j => hF1 0 j (by decide)
  show zG n (114, 4080270) 300 311 (2034, [zR 0, zR 8, zR 97, .inl i], [.inl (hf_163_8 M).1]) M1 _
  refine zG_blk (c' := (2036, [zR 0, zR 8, zR 97, .inl i], [zR 97])) 2 (by decide) hz (zsteps_seg hg rfl) ?_
  refine zG_call (by decide) hz zp_287 (hg _ _ rfl) rfl (Nat.le_of_ble_eq_true rfl) ⟨Nat.le_of_ble_eq_true rfl, Nat.le_of_ble_eq_true rfl⟩ (zG.andH (qm_287_97 (by decide) hI ) (fh_287_97 )) (fun vr M2 hr => ?_)
  obtain ⟨⟨⟨hC2, hF2⟩, -⟩, rfl, hM2⟩ := hr
  have hm := hm_163 hJ.2.2.1
  rw [← hM1] at hm
  rw [← hM2] at hm
  have hJ2 : qJ M2 := hJ.mut hC1 hF1 rfl rfl hC2 hF2 rfl (by decide) hm.2
  show zG n (114, 4080270) 300 311 (2039, [zR 0, zR 8, zR 97, .inl i], [.inl (hf_287_97 M1).1]) M2 _
  refine zG_blk (c' := (2158, [zR 0, zR 8, zR 97, .inl i], [])) 2 (by decide) hz (zsteps_seg hg rfl) ?_
  exact K M2 hJ2
noncomputable def sg_41 : List zE := [(2043, zi_28, 2044, zx0),
  (2044, zi_0, 2045, zx0),
  (2045, zi_1, 2046, zx0),
  (2046, zi_2, 2047, zx0),
  (2047, zi_4, 2048, zx0),
  (2048, zi_8, 2049, zx0),
  (2049, zi_0, 2050, zx0),
  (2050, zi_1, 2051, zx0),
  (2051, zi_11, 2052, zx0),
  (2052, zi_4, 2053, zx0),
  (2053, zi_8, 2054, zx0),
  (2054, .invokevirtual 190, 2057, (164, 3, 0, [11])),
  (2057, zi_21, 2058, zx0),
  (2058, zi_39, 2059, zx0),
  (2059, zi_0, 2060, zx0),
  (2060, zi_1, 2061, zx0),
  (2061, zi_2, 2062, zx0),
  (2062, zi_4, 2063, zx0),
  (2063, zi_8, 2064, zx0),
  (2064, zi_0, 2065, zx0),
  (2065, zi_1, 2066, zx0),
  (2066, zi_11, 2067, zx0),
  (2067, zi_4, 2068, zx0),
  (2068, zi_8, 2069, zx0),
  (2069, .invokevirtual 193, 2072, (289, 3, 0, [12])),
  (2072, zi_21, 2073, zx0),
  (2073, .goto (85), 2076, zx_8)]
set_option maxRecDepth 100000 in
theorem sh_41 : zSeg zk_L_law sg_41 := zSeg_of 1553 27 2043 (by decide +kernel) rfl (by decide +kernel)
set_option maxRecDepth 100000 in
theorem qL_41 (hJ : qJ M) (hn : n ≤ 4096) (hi : 0 ≤ i ∧ i + 8 ≤ n) (K : ∀ M', qJ M' → zG n (114, 4080270) 300 311 (2158, [zR 0, zR 8, zR 97, .inl i], []) M' qLQ) : zG n (114, 4080270) 300 311 (2043, [zR 0, zR 8, zR 97, .inl i], []) M qLQ := by
  have hz := zp_311
  have hg := sh_41
  refine zG_blk (c' := (2048, [zR 0, zR 8, zR 97, .inl i], [.inl (i + 1), zR 0, zR 8])) 5 (by decide) hz (zsteps_seg hg (by rw [show (.inl (i + 1) : zV) = .inl (w32 (i + 1)) from by rw [w32_id (by omega)]]; rfl)) ?_
  refine zG_iald (by decide) hz (hg _ _ rfl) rfl (.inr rfl) (by omega) ?_
  obtain ⟨x1, hx1⟩ : ∃ x : Int, x = M 0 (i + 1).toNat := ⟨_, rfl⟩
  rw [← hx1]
  have hr1 : qin x1 := by rw [hx1]; exact hJ.1.rng 0 _ (by decide) (by decide)
  show zG n (114, 4080270) 300 311 (2049, [zR 0, zR 8, zR 97, .inl i], [.inl x1, zR 8]) M _
  refine zG_blk (c' := (2053, [zR 0, zR 8, zR 97, .inl i], [.inl (i + 2), zR 0, .inl x1, zR 8])) 4 (by decide) hz (zsteps_seg hg (by rw [show (.inl (i + 2) : zV) = .inl (w32 (i + 2)) from by rw [w32_id (by omega)]]; rfl)) ?_
  refine zG_iald (by decide) hz (hg _ _ rfl) rfl (.inr rfl) (by omega) ?_
  obtain ⟨x2, hx2⟩ : ∃ x : Int, x = M 0 (i + 2).toNat := ⟨_, rfl⟩
  rw [← hx2]
  have hr2 : qin x2 := by rw [hx2]; exact hJ.1.rng 0 _ (by decide) (by decide)
  show zG n (114, 4080270) 300 311 (2054, [zR 0, zR 8, zR 97, .inl i], [.inl x2, .inl x1, zR 8]) M _
  refine zG_call (by decide) hz zp_164 (hg _ _ rfl) rfl (Nat.le_of_ble_eq_true rfl) ⟨Nat.le_of_ble_eq_true rfl, Nat.le_of_ble_eq_true rfl⟩ (qm_164_8 (by decide) hJ.1 x1 (by omega) x2 (by omega)) (fun vr M1 hr => ?_)
  obtain ⟨⟨hCM1, hFM1⟩, hr⟩ := hr
  have hJM1 : qJ M1 := hJ.cls hCM1 hFM1 rfl rfl
  have hc0 : ∀ j, M1 0 j = M 0 j := fun j => hFM1 0 j (by decide)
  obtain ⟨r1, rfl, -⟩ := hr
  show zG n (114, 4080270) 300 311 (2057, [zR 0, zR 8, zR 97, .inl i], [.inl r1]) M1 _
  refine zG_blk (c' := (2063, [zR 0, zR 8, zR 97, .inl i], [.inl (i + 1), zR 0, zR 97])) 6 (by decide) hz (zsteps_seg hg (by rw [show (.inl (i + 1) : zV) = .inl (w32 (i + 1)) from by rw [w32_id (by omega)]]; rfl)) ?_
  refine zG_iald (by decide) hz (hg _ _ rfl) rfl (.inr rfl) (by omega) ?_
  rw [show M1 0 (i + 1).toNat = x1 from (hc0 _).trans hx1.symm]
  show zG n (114, 4080270) 300 311 (2064, [zR 0, zR 8, zR 97, .inl i], [.inl x1, zR 97]) M1 _
  refine zG_blk (c' := (2068, [zR 0, zR 8, zR 97, .inl i], [.inl (i + 2), zR 0, .inl x1, zR 97])) 4 (by decide) hz (zsteps_seg hg (by rw [show (.inl (i + 2) : zV) = .inl (w32 (i + 2)) from by rw [w32_id (by omega)]]; rfl)) ?_
  refine zG_iald (by decide) hz (hg _ _ rfl) rfl (.inr rfl) (by omega) ?_
  rw [show M1 0 (i + 2).toNat = x2 from (hc0 _).trans hx2.symm]
  show zG n (114, 4080270) 300 311 (2069, [zR 0, zR 8, zR 97, .inl i], [.inl x2, .inl x1, zR 97]) M1 _
  refine zG_call (by decide) hz zp_289 (hg _ _ rfl) rfl (Nat.le_of_ble_eq_true rfl) ⟨Nat.le_of_ble_eq_true rfl, Nat.le_of_ble_eq_true rfl⟩ (qm_289_97 (by decide) hJM1.2.1 x1 (by omega) x2 (by omega)) (fun vr M2 hr => ?_)
  obtain ⟨hq, hr⟩ := hr
  replace hq := hq.symm; subst hq
  obtain ⟨r2, hv9⟩ := hr
  first | (obtain ⟨rfl, -⟩ := hv9) | (obtain rfl := hv9)
  show zG n (114, 4080270) 300 311 (2072, [zR 0, zR 8, zR 97, .inl i], [.inl r2]) M1 _
  refine zG_blk (c' := (2158, [zR 0, zR 8, zR 97, .inl i], [])) 2 (by decide) hz (zsteps_seg hg rfl) ?_
  exact K M1 hJM1
noncomputable def sg_42 : List zE := [(2076, zi_28, 2077, zx0),
  (2077, zi_0, 2078, zx0),
  (2078, zi_1, 2079, zx0),
  (2079, zi_2, 2080, zx0),
  (2080, zi_4, 2081, zx0),
  (2081, zi_8, 2082, zx0),
  (2082, zi_432, 2085, (165, 2, 0, [11])),
  (2085, zi_21, 2086, zx0),
  (2086, zi_39, 2087, zx0),
  (2087, zi_0, 2088, zx0),
  (2088, zi_1, 2089, zx0),
  (2089, zi_2, 2090, zx0),
  (2090, zi_4, 2091, zx0),
  (2091, zi_8, 2092, zx0),
  (2092, zi_433, 2095, (290, 2, 0, [12])),
  (2095, zi_21, 2096, zx0),
  (2096, .goto (62), 2099, zx_8)]
set_option maxRecDepth 100000 in
theorem sh_42 : zSeg zk_L_law sg_42 := zSeg_of 1580 17 2076 (by decide +kernel) rfl (by decide +kernel)
set_option maxRecDepth 100000 in
theorem qL_42_0 (hJ : qJ M) (hn : n ≤ 4096) (hi : 0 ≤ i ∧ i + 8 ≤ n) (K : ∀ M', qJ M' → zG n (114, 4080270) 300 311 (2158, [zR 0, zR 8, zR 97, .inl i], []) M' qLQ) (hA : ∀ x, x = M 0 (i + 1).toNat → x = 0) : zG n (114, 4080270) 300 311 (2076, [zR 0, zR 8, zR 97, .inl i], []) M qLQ := by
  have hz := zp_311
  have hg := sh_42
  refine zG_blk (c' := (2081, [zR 0, zR 8, zR 97, .inl i], [.inl (i + 1), zR 0, zR 8])) 5 (by decide) hz (zsteps_seg hg (by rw [show (.inl (i + 1) : zV) = .inl (w32 (i + 1)) from by rw [w32_id (by omega)]]; rfl)) ?_
  refine zG_iald (by decide) hz (hg _ _ rfl) rfl (.inr rfl) (by omega) ?_
  obtain ⟨x1, hx1⟩ : ∃ x : Int, x = M 0 (i + 1).toNat := ⟨_, rfl⟩
  rw [← hx1]
  have hr1 : qin x1 := by rw [hx1]; exact hJ.1.rng 0 _ (by decide) (by decide)
  obtain rfl : x1 = 0 := hA x1 hx1
  show zG n (114, 4080270) 300 311 (2082, [zR 0, zR 8, zR 97, .inl i], [.inl 0, zR 8]) M _
  refine zG_call (by decide) hz zp_165 (hg _ _ rfl) rfl (Nat.le_of_ble_eq_true rfl) ⟨Nat.le_of_ble_eq_true rfl, Nat.le_of_ble_eq_true rfl⟩ (zG.andH (qe_165_8 (by decide) hJ.1 0 (by omega)) fh_165_8_L0) (fun vr M1 hr => ?_)
  obtain ⟨⟨⟨hC1, hF1⟩, -⟩, rfl, hM1⟩ := hr
  have hi := hF1.hi rfl
  have hI := hJ.2.1.same hi
  have hc0 : ∀ j, M1 0 j = M 0 j := fun j => hF1 0 j (by decide)
  show zG n (114, 4080270) 300 311 (2085, [zR 0, zR 8, zR 97, .inl i], [.inl (hf_165_8_L0 M).1]) M1 _
  refine zG_blk (c' := (2091, [zR 0, zR 8, zR 97, .inl i], [.inl (i + 1), zR 0, zR 97])) 6 (by decide) hz (zsteps_seg hg (by rw [show (.inl (i + 1) : zV) = .inl (w32 (i + 1)) from by rw [w32_id (by omega)]]; rfl)) ?_
  refine zG_iald (by decide) hz (hg _ _ rfl) rfl (.inr rfl) (by omega) ?_
  rw [show M1 0 (i + 1).toNat = 0 from (hc0 _).trans hx1.symm]
  show zG n (114, 4080270) 300 311 (2092, [zR 0, zR 8, zR 97, .inl i], [.inl 0, zR 97]) M1 _
  refine zG_call (by decide) hz zp_290 (hg _ _ rfl) rfl (Nat.le_of_ble_eq_true rfl) ⟨Nat.le_of_ble_eq_true rfl, Nat.le_of_ble_eq_true rfl⟩ (qx_image (by decide) hI 0 (by omega)) (fun vr M2 hr => ?_)
  obtain ⟨⟨hC2, hF2⟩, h2⟩ := hr
  have lo := hF2.lo rfl
  have eL : ∀ r, r < 97 → M2 r = M1 r := fun r hr => funext fun k => lo r k hr
  obtain ⟨g1, g2, g3, g4⟩ := hJ.2.2
  obtain ⟨k1, k2, k3, k4⟩ := hm_165_0 hJ.1 g1
  rw [← hM1] at k2 k3 k4
  obtain ⟨rfl, ⟨v1, v2⟩, v3, v4⟩ : vr = some (.inl 1) ∧ (M2 100 (0 : Int).toNat = 1 ∧ ∀ j, j ≠ (0 : Int).toNat → M2 100 j = M1 100 j) ∧ (∀ j : Nat, j < 5664 → M2 99 ((5664 * 0 : Int).toNat + j) = M1 98 j) ∧ (∀ j : Nat, (j < (5664 * 0 : Int).toNat ∨ (5664 * 0 : Int).toNat + 5664 ≤ j) → M2 99 j = M1 99 j) := by rcases h2 with ⟨-, h, -⟩ | ⟨h, -, h3, h4, h5⟩; exact absurd (by decide) h; exact ⟨h, h3, h4, h5⟩
  have n98 : ∀ j, M2 98 j = M 98 j := fun j => (hF2.ar 98 j (by decide) (by decide)).trans (hi 98 j (by decide))
  have v1 : M2 100 0 = 1 := v1
  have v2 : M2 100 1 = M 100 1 := (v2 1 (by decide)).trans (hi 100 1 (by decide))
  have eA : ∀ r, (r < 26 ∨ 43 ≤ r) → r ≠ 8 → r < 97 → M2 r = M r := fun r h1 h2 h3 => (eL r h3).trans (k4 r h1 h2)
  have p0 := hJ.2.1.bl100 0
  have p1 := hJ.2.1.bl100 1
  have hJ2 : qJ M2 := by
    refine ⟨hC1.same lo, hC2, ?_, ?_, ?_, ?_⟩
    · exact g1.fr (fun r hr => eA r (by omega) (by omega) (by omega)) (fun j _ _ _ _ => n98 j)
    · refine fun _ => k2.fr (fun r hr => eL r (by omega)) (fun j hj _ _ _ => ?_)
      have q := v3 j hj
      rw [show ((5664 * 0 : Int).toNat + j) = j by omega] at q
      exact q.trans (hi 98 j (by decide))
    · refine fun hk => (g3 (by rw [← v2]; exact hk)).fr (fun r hr => eA r (by omega) (by omega) (by omega)) (fun j hj _ _ _ => ?_)
      exact (v4 (5664 + j) (.inr (by omega))).trans (hi 99 _ (by decide))
    · have m8 : M2 8 3 = zbor (M 8 3) (zbshl 1 0) := (lo 8 3 (by decide)).trans k3
      have z5 : M2 8 3 = 1 + 2 * M 100 1 := by
        rw [m8, g4.2.2]
        rcases p0 with h | h <;> rcases p1 with h' | h' <;> rw [h, h'] <;> decide
      omega
  show zG n (114, 4080270) 300 311 (2095, [zR 0, zR 8, zR 97, .inl i], [.inl 1]) M2 _
  refine zG_blk (c' := (2158, [zR 0, zR 8, zR 97, .inl i], [])) 2 (by decide) hz (zsteps_seg hg rfl) ?_
  exact K M2 hJ2
set_option maxRecDepth 100000 in
theorem qL_42_1 (hJ : qJ M) (hn : n ≤ 4096) (hi : 0 ≤ i ∧ i + 8 ≤ n) (K : ∀ M', qJ M' → zG n (114, 4080270) 300 311 (2158, [zR 0, zR 8, zR 97, .inl i], []) M' qLQ) (hA : ∀ x, x = M 0 (i + 1).toNat → x = 1) : zG n (114, 4080270) 300 311 (2076, [zR 0, zR 8, zR 97, .inl i], []) M qLQ := by
  have hz := zp_311
  have hg := sh_42
  refine zG_blk (c' := (2081, [zR 0, zR 8, zR 97, .inl i], [.inl (i + 1), zR 0, zR 8])) 5 (by decide) hz (zsteps_seg hg (by rw [show (.inl (i + 1) : zV) = .inl (w32 (i + 1)) from by rw [w32_id (by omega)]]; rfl)) ?_
  refine zG_iald (by decide) hz (hg _ _ rfl) rfl (.inr rfl) (by omega) ?_
  obtain ⟨x1, hx1⟩ : ∃ x : Int, x = M 0 (i + 1).toNat := ⟨_, rfl⟩
  rw [← hx1]
  have hr1 : qin x1 := by rw [hx1]; exact hJ.1.rng 0 _ (by decide) (by decide)
  obtain rfl : x1 = 1 := hA x1 hx1
  show zG n (114, 4080270) 300 311 (2082, [zR 0, zR 8, zR 97, .inl i], [.inl 1, zR 8]) M _
  refine zG_call (by decide) hz zp_165 (hg _ _ rfl) rfl (Nat.le_of_ble_eq_true rfl) ⟨Nat.le_of_ble_eq_true rfl, Nat.le_of_ble_eq_true rfl⟩ (zG.andH (qe_165_8 (by decide) hJ.1 1 (by omega)) fh_165_8_L1) (fun vr M1 hr => ?_)
  obtain ⟨⟨⟨hC1, hF1⟩, -⟩, rfl, hM1⟩ := hr
  have hi := hF1.hi rfl
  have hI := hJ.2.1.same hi
  have hc0 : ∀ j, M1 0 j = M 0 j := fun j => hF1 0 j (by decide)
  show zG n (114, 4080270) 300 311 (2085, [zR 0, zR 8, zR 97, .inl i], [.inl (hf_165_8_L1 M).1]) M1 _
  refine zG_blk (c' := (2091, [zR 0, zR 8, zR 97, .inl i], [.inl (i + 1), zR 0, zR 97])) 6 (by decide) hz (zsteps_seg hg (by rw [show (.inl (i + 1) : zV) = .inl (w32 (i + 1)) from by rw [w32_id (by omega)]]; rfl)) ?_
  refine zG_iald (by decide) hz (hg _ _ rfl) rfl (.inr rfl) (by omega) ?_
  rw [show M1 0 (i + 1).toNat = 1 from (hc0 _).trans hx1.symm]
  show zG n (114, 4080270) 300 311 (2092, [zR 0, zR 8, zR 97, .inl i], [.inl 1, zR 97]) M1 _
  refine zG_call (by decide) hz zp_290 (hg _ _ rfl) rfl (Nat.le_of_ble_eq_true rfl) ⟨Nat.le_of_ble_eq_true rfl, Nat.le_of_ble_eq_true rfl⟩ (qx_image (by decide) hI 1 (by omega)) (fun vr M2 hr => ?_)
  obtain ⟨⟨hC2, hF2⟩, h2⟩ := hr
  have lo := hF2.lo rfl
  have eL : ∀ r, r < 97 → M2 r = M1 r := fun r hr => funext fun k => lo r k hr
  obtain ⟨g1, g2, g3, g4⟩ := hJ.2.2
  obtain ⟨k1, k2, k3, k4⟩ := hm_165_1 hJ.1 g1
  rw [← hM1] at k2 k3 k4
  obtain ⟨rfl, ⟨v1, v2⟩, v3, v4⟩ : vr = some (.inl 1) ∧ (M2 100 (1 : Int).toNat = 1 ∧ ∀ j, j ≠ (1 : Int).toNat → M2 100 j = M1 100 j) ∧ (∀ j : Nat, j < 5664 → M2 99 ((5664 * 1 : Int).toNat + j) = M1 98 j) ∧ (∀ j : Nat, (j < (5664 * 1 : Int).toNat ∨ (5664 * 1 : Int).toNat + 5664 ≤ j) → M2 99 j = M1 99 j) := by rcases h2 with ⟨-, h, -⟩ | ⟨h, -, h3, h4, h5⟩; exact absurd (by decide) h; exact ⟨h, h3, h4, h5⟩
  have n98 : ∀ j, M2 98 j = M 98 j := fun j => (hF2.ar 98 j (by decide) (by decide)).trans (hi 98 j (by decide))
  have v1 : M2 100 1 = 1 := v1
  have v2 : M2 100 0 = M 100 0 := (v2 0 (by decide)).trans (hi 100 0 (by decide))
  have eA : ∀ r, (r < 43 ∨ 60 ≤ r) → r ≠ 8 → r < 97 → M2 r = M r := fun r h1 h2 h3 => (eL r h3).trans (k4 r h1 h2)
  have p0 := hJ.2.1.bl100 0
  have p1 := hJ.2.1.bl100 1
  have hJ2 : qJ M2 := by
    refine ⟨hC1.same lo, hC2, ?_, ?_, ?_, ?_⟩
    · exact g1.fr (fun r hr => eA r (by omega) (by omega) (by omega)) (fun j _ _ _ _ => n98 j)
    · refine fun hk => (g2 (by rw [← v2]; exact hk)).fr (fun r hr => eA r (by omega) (by omega) (by omega)) (fun j hj _ _ _ => ?_)
      exact (v4 j (.inl (by omega))).trans (hi 99 _ (by decide))
    · refine fun _ => k2.fr (fun r hr => eL r (by omega)) (fun j hj _ _ _ => ?_)
      have q := v3 j hj
      rw [show ((5664 * 1 : Int).toNat + j) = 5664 + j by omega] at q
      exact q.trans (hi 98 j (by decide))
    · have m8 : M2 8 3 = zbor (M 8 3) (zbshl 1 1) := (lo 8 3 (by decide)).trans k3
      have z5 : M2 8 3 = M 100 0 + 2 := by
        rw [m8, g4.2.2]
        rcases p0 with h | h <;> rcases p1 with h' | h' <;> rw [h, h'] <;> decide
      omega
  show zG n (114, 4080270) 300 311 (2095, [zR 0, zR 8, zR 97, .inl i], [.inl 1]) M2 _
  refine zG_blk (c' := (2158, [zR 0, zR 8, zR 97, .inl i], [])) 2 (by decide) hz (zsteps_seg hg rfl) ?_
  exact K M2 hJ2
set_option maxRecDepth 100000 in
theorem qL_42_n (hJ : qJ M) (hn : n ≤ 4096) (hi : 0 ≤ i ∧ i + 8 ≤ n) (K : ∀ M', qJ M' → zG n (114, 4080270) 300 311 (2158, [zR 0, zR 8, zR 97, .inl i], []) M' qLQ) (hA : ∀ x, x = M 0 (i + 1).toNat → ¬ (0 ≤ x ∧ x ≤ 1)) : zG n (114, 4080270) 300 311 (2076, [zR 0, zR 8, zR 97, .inl i], []) M qLQ := by
  have hz := zp_311
  have hg := sh_42
  refine zG_blk (c' := (2081, [zR 0, zR 8, zR 97, .inl i], [.inl (i + 1), zR 0, zR 8])) 5 (by decide) hz (zsteps_seg hg (by rw [show (.inl (i + 1) : zV) = .inl (w32 (i + 1)) from by rw [w32_id (by omega)]]; rfl)) ?_
  refine zG_iald (by decide) hz (hg _ _ rfl) rfl (.inr rfl) (by omega) ?_
  obtain ⟨x1, hx1⟩ : ∃ x : Int, x = M 0 (i + 1).toNat := ⟨_, rfl⟩
  rw [← hx1]
  have hr1 : qin x1 := by rw [hx1]; exact hJ.1.rng 0 _ (by decide) (by decide)
  have hA9 := hA x1 hx1
  show zG n (114, 4080270) 300 311 (2082, [zR 0, zR 8, zR 97, .inl i], [.inl x1, zR 8]) M _
  refine zG_call (by decide) hz zp_165 (hg _ _ rfl) rfl (Nat.le_of_ble_eq_true rfl) ⟨Nat.le_of_ble_eq_true rfl, Nat.le_of_ble_eq_true rfl⟩ (qe_165_8 (by decide) hJ.1 x1 (by omega)) (fun vr M1 hr => ?_)
  obtain ⟨⟨hC1, hF1⟩, h1⟩ := hr
  have h1' : vr = some (.inl (-2)) ∧ M1 = M := by rcases h1 with ⟨h, -, h'⟩ | ⟨-, h, -⟩; exact ⟨h, h'⟩; all_goals exact absurd h hA9
  obtain ⟨rfl, hM1⟩ := h1'
  have hi := hF1.hi rfl
  have hI := hJ.2.1.same hi
  have hc0 : ∀ j, M1 0 j = M 0 j := fun j => hF1 0 j (by decide)
  show zG n (114, 4080270) 300 311 (2085, [zR 0, zR 8, zR 97, .inl i], [.inl (-2)]) M1 _
  refine zG_blk (c' := (2091, [zR 0, zR 8, zR 97, .inl i], [.inl (i + 1), zR 0, zR 97])) 6 (by decide) hz (zsteps_seg hg (by rw [show (.inl (i + 1) : zV) = .inl (w32 (i + 1)) from by rw [w32_id (by omega)]]; rfl)) ?_
  refine zG_iald (by decide) hz (hg _ _ rfl) rfl (.inr rfl) (by omega) ?_
  rw [show M1 0 (i + 1).toNat = x1 from (hc0 _).trans hx1.symm]
  show zG n (114, 4080270) 300 311 (2092, [zR 0, zR 8, zR 97, .inl i], [.inl x1, zR 97]) M1 _
  refine zG_call (by decide) hz zp_290 (hg _ _ rfl) rfl (Nat.le_of_ble_eq_true rfl) ⟨Nat.le_of_ble_eq_true rfl, Nat.le_of_ble_eq_true rfl⟩ (qx_image (by decide) hI x1 (by omega)) (fun vr M2 hr => ?_)
  obtain ⟨⟨hC2, hF2⟩, h2⟩ := hr
  have lo := hF2.lo rfl
  have eL : ∀ r, r < 97 → M2 r = M1 r := fun r hr => funext fun k => lo r k hr
  obtain ⟨g1, g2, g3, g4⟩ := hJ.2.2
  have h2' : vr = some (.inl (-2)) ∧ M2 = M1 := by rcases h2 with ⟨h, -, h'⟩ | ⟨-, h, -⟩; exact ⟨h, h'⟩; all_goals exact absurd h hA9
  obtain ⟨rfl, hM2⟩ := h2'
  have hJ2 : qJ M2 := by rw [hM2, hM1]; exact hJ
  show zG n (114, 4080270) 300 311 (2095, [zR 0, zR 8, zR 97, .inl i], [.inl (-2)]) M2 _
  refine zG_blk (c' := (2158, [zR 0, zR 8, zR 97, .inl i], [])) 2 (by decide) hz (zsteps_seg hg rfl) ?_
  exact K M2 hJ2
theorem qL_42 (hJ : qJ M) (hn : n ≤ 4096) (hi : 0 ≤ i ∧ i + 8 ≤ n) (K : ∀ M', qJ M' → zG n (114, 4080270) 300 311 (2158, [zR 0, zR 8, zR 97, .inl i], []) M' qLQ) : zG n (114, 4080270) 300 311 (2076, [zR 0, zR 8, zR 97, .inl i], []) M qLQ := by
  by_cases h0 : M 0 (i + 1).toNat = 0
  · exact qL_42_0 hJ hn hi K (fun x hx => hx.trans h0)
  · by_cases h1 : M 0 (i + 1).toNat = 1
    · exact qL_42_1 hJ hn hi K (fun x hx => hx.trans h1)
    · exact qL_42_n hJ hn hi K (fun x hx => by omega)
noncomputable def sg_43 : List zE := [(2099, zi_28, 2100, zx0),
  (2100, zi_0, 2101, zx0),
  (2101, zi_1, 2102, zx0),
  (2102, zi_2, 2103, zx0),
  (2103, zi_4, 2104, zx0),
  (2104, zi_8, 2105, zx0),
  (2105, .invokevirtual 198, 2108, (166, 2, 0, [11])),
  (2108, zi_21, 2109, zx0),
  (2109, zi_39, 2110, zx0),
  (2110, zi_0, 2111, zx0),
  (2111, zi_1, 2112, zx0),
  (2112, zi_2, 2113, zx0),
  (2113, zi_4, 2114, zx0),
  (2114, zi_8, 2115, zx0),
  (2115, zi_562, 2118, (291, 2, 0, [12])),
  (2118, zi_21, 2119, zx0),
  (2119, zi_501, 2122, zx_8)]
set_option maxRecDepth 100000 in
theorem sh_43 : zSeg zk_L_law sg_43 := zSeg_of 1597 17 2099 (by decide +kernel) rfl (by decide +kernel)
set_option maxRecDepth 100000 in
theorem qL_43_0 (hJ : qJ M) (hn : n ≤ 4096) (hi : 0 ≤ i ∧ i + 8 ≤ n) (K : ∀ M', qJ M' → zG n (114, 4080270) 300 311 (2158, [zR 0, zR 8, zR 97, .inl i], []) M' qLQ) (hA : ∀ x, x = M 0 (i + 1).toNat → x = 0) : zG n (114, 4080270) 300 311 (2099, [zR 0, zR 8, zR 97, .inl i], []) M qLQ := by
  have hz := zp_311
  have hg := sh_43
  refine zG_blk (c' := (2104, [zR 0, zR 8, zR 97, .inl i], [.inl (i + 1), zR 0, zR 8])) 5 (by decide) hz (zsteps_seg hg (by rw [show (.inl (i + 1) : zV) = .inl (w32 (i + 1)) from by rw [w32_id (by omega)]]; rfl)) ?_
  refine zG_iald (by decide) hz (hg _ _ rfl) rfl (.inr rfl) (by omega) ?_
  obtain ⟨x1, hx1⟩ : ∃ x : Int, x = M 0 (i + 1).toNat := ⟨_, rfl⟩
  rw [← hx1]
  have hr1 : qin x1 := by rw [hx1]; exact hJ.1.rng 0 _ (by decide) (by decide)
  obtain rfl : x1 = 0 := hA x1 hx1
  show zG n (114, 4080270) 300 311 (2105, [zR 0, zR 8, zR 97, .inl i], [.inl 0, zR 8]) M _
  refine zG_call (by decide) hz zp_166 (hg _ _ rfl) rfl (Nat.le_of_ble_eq_true rfl) ⟨Nat.le_of_ble_eq_true rfl, Nat.le_of_ble_eq_true rfl⟩ (zG.andH (qe_166_8 (by decide) hJ.1 0 (by omega)) fh_166_8_L0) (fun vr M1 hr => ?_)
  obtain ⟨⟨⟨hC1, hF1⟩, -⟩, rfl, hM1⟩ := hr
  have hi := hF1.hi rfl
  have hI := hJ.2.1.same hi
  have hc0 : ∀ j, M1 0 j = M 0 j := fun j => hF1 0 j (by decide)
  show zG n (114, 4080270) 300 311 (2108, [zR 0, zR 8, zR 97, .inl i], [.inl (hf_166_8_L0 M).1]) M1 _
  refine zG_blk (c' := (2114, [zR 0, zR 8, zR 97, .inl i], [.inl (i + 1), zR 0, zR 97])) 6 (by decide) hz (zsteps_seg hg (by rw [show (.inl (i + 1) : zV) = .inl (w32 (i + 1)) from by rw [w32_id (by omega)]]; rfl)) ?_
  refine zG_iald (by decide) hz (hg _ _ rfl) rfl (.inr rfl) (by omega) ?_
  rw [show M1 0 (i + 1).toNat = 0 from (hc0 _).trans hx1.symm]
  show zG n (114, 4080270) 300 311 (2115, [zR 0, zR 8, zR 97, .inl i], [.inl 0, zR 97]) M1 _
  refine zG_call (by decide) hz zp_291 (hg _ _ rfl) rfl (Nat.le_of_ble_eq_true rfl) ⟨Nat.le_of_ble_eq_true rfl, Nat.le_of_ble_eq_true rfl⟩ (qx_from (by decide) hI 0 (by omega)) (fun vr M2 hr => ?_)
  obtain ⟨⟨hC2, hF2⟩, h2⟩ := hr
  have lo := hF2.lo rfl
  have eL : ∀ r, r < 97 → M2 r = M1 r := fun r hr => funext fun k => lo r k hr
  obtain ⟨g1, g2, g3, g4⟩ := hJ.2.2
  have p0 := hJ.2.1.bl100 0
  have p1 := hJ.2.1.bl100 1
  have t0 : zband (zbshr (M 8 3) 0) 1 = M 100 0 := by rw [g4.2.2]; rcases p0 with h | h <;> rcases p1 with h' | h' <;> rw [h, h'] <;> decide
  have s0 : M1 100 (0 : Int).toNat = M 100 0 := hi 100 0 (by decide)
  have n100 : ∀ j, M2 100 j = M 100 j := fun j => (hF2.ar 100 j (by decide) (by decide)).trans (hi 100 j (by decide))
  have n99 : ∀ j, M2 99 j = M 99 j := fun j => (hF2.ar 99 j (by decide) (by decide)).trans (hi 99 j (by decide))
  have hJ2 : qJ M2 := by
    by_cases hk : M 100 0 = 0
    · have e1 : hf_166_8_L0 M = (-3, M) := by
        unfold hf_166_8_L0
        simp only [hq_169, t0, hk]
        (repeat' split) <;> first | omega | (rename_i hq; exact absurd trivial hq) | rfl
      have e2 : M1 = M := by rw [hM1, e1]
      have e3 : M2 = M1 := by
        rcases h2 with ⟨-, -, h⟩ | ⟨-, -, -, h⟩ | ⟨-, -, h, -⟩
        · exact h
        · exact h
        · exact absurd (s0.trans hk) h
      rw [e3, e2]; exact hJ
    · obtain ⟨k1, k2, k3⟩ := hm_166_0 hJ.1 (g2 hk) (by rw [t0]; exact hk)
      rw [← hM1] at k2 k3
      have v3 : ∀ j : Nat, j < 5664 → M2 98 j = M1 99 ((5664 * 0 : Int).toNat + j) := by
        rcases h2 with ⟨-, h, -⟩ | ⟨-, -, h, -⟩ | ⟨-, -, -, h⟩
        · exact absurd (by decide) h
        · exact absurd (s0.symm.trans h) hk
        · exact h
      have eA : ∀ r, (r < 9 ∨ 26 ≤ r) → r < 97 → M2 r = M r := fun r h1 h3 => (eL r h3).trans (k3 r h1)
      refine ⟨hC1.same lo, hC2, ?_, ?_, ?_, ?_⟩
      · refine k2.fr (fun r hr => eL r (by omega)) (fun j hj _ _ _ => ?_)
        have q := v3 j hj
        rw [show ((5664 * 0 : Int).toNat + j) = j by omega] at q
        exact q.trans (hi 99 _ (by decide))
      · rw [n100]; exact fun hk => (g2 hk).fr (fun r hr => eA r (by omega) (by omega)) (fun j hj _ _ _ => n99 _)
      · rw [n100]; exact fun hk => (g3 hk).fr (fun r hr => eA r (by omega) (by omega)) (fun j hj _ _ _ => n99 _)
      · rw [n100, n100, eA 8 (by decide) (by decide)]; exact g4
  have hv2 : ∃ x : Int, vr = some (.inl x) := by rcases h2 with ⟨h, -⟩ | ⟨h, -⟩ | ⟨h, -⟩ <;> exact ⟨_, h⟩
  obtain ⟨r2, rfl⟩ := hv2
  show zG n (114, 4080270) 300 311 (2118, [zR 0, zR 8, zR 97, .inl i], [.inl r2]) M2 _
  refine zG_blk (c' := (2158, [zR 0, zR 8, zR 97, .inl i], [])) 2 (by decide) hz (zsteps_seg hg rfl) ?_
  exact K M2 hJ2
set_option maxRecDepth 100000 in
theorem qL_43_1 (hJ : qJ M) (hn : n ≤ 4096) (hi : 0 ≤ i ∧ i + 8 ≤ n) (K : ∀ M', qJ M' → zG n (114, 4080270) 300 311 (2158, [zR 0, zR 8, zR 97, .inl i], []) M' qLQ) (hA : ∀ x, x = M 0 (i + 1).toNat → x = 1) : zG n (114, 4080270) 300 311 (2099, [zR 0, zR 8, zR 97, .inl i], []) M qLQ := by
  have hz := zp_311
  have hg := sh_43
  refine zG_blk (c' := (2104, [zR 0, zR 8, zR 97, .inl i], [.inl (i + 1), zR 0, zR 8])) 5 (by decide) hz (zsteps_seg hg (by rw [show (.inl (i + 1) : zV) = .inl (w32 (i + 1)) from by rw [w32_id (by omega)]]; rfl)) ?_
  refine zG_iald (by decide) hz (hg _ _ rfl) rfl (.inr rfl) (by omega) ?_
  obtain ⟨x1, hx1⟩ : ∃ x : Int, x = M 0 (i + 1).toNat := ⟨_, rfl⟩
  rw [← hx1]
  have hr1 : qin x1 := by rw [hx1]; exact hJ.1.rng 0 _ (by decide) (by decide)
  obtain rfl : x1 = 1 := hA x1 hx1
  show zG n (114, 4080270) 300 311 (2105, [zR 0, zR 8, zR 97, .inl i], [.inl 1, zR 8]) M _
  refine zG_call (by decide) hz zp_166 (hg _ _ rfl) rfl (Nat.le_of_ble_eq_true rfl) ⟨Nat.le_of_ble_eq_true rfl, Nat.le_of_ble_eq_true rfl⟩ (zG.andH (qe_166_8 (by decide) hJ.1 1 (by omega)) fh_166_8_L1) (fun vr M1 hr => ?_)
  obtain ⟨⟨⟨hC1, hF1⟩, -⟩, rfl, hM1⟩ := hr
  have hi := hF1.hi rfl
  have hI := hJ.2.1.same hi
  have hc0 : ∀ j, M1 0 j = M 0 j := fun j => hF1 0 j (by decide)
  show zG n (114, 4080270) 300 311 (2108, [zR 0, zR 8, zR 97, .inl i], [.inl (hf_166_8_L1 M).1]) M1 _
  refine zG_blk (c' := (2114, [zR 0, zR 8, zR 97, .inl i], [.inl (i + 1), zR 0, zR 97])) 6 (by decide) hz (zsteps_seg hg (by rw [show (.inl (i + 1) : zV) = .inl (w32 (i + 1)) from by rw [w32_id (by omega)]]; rfl)) ?_
  refine zG_iald (by decide) hz (hg _ _ rfl) rfl (.inr rfl) (by omega) ?_
  rw [show M1 0 (i + 1).toNat = 1 from (hc0 _).trans hx1.symm]
  show zG n (114, 4080270) 300 311 (2115, [zR 0, zR 8, zR 97, .inl i], [.inl 1, zR 97]) M1 _
  refine zG_call (by decide) hz zp_291 (hg _ _ rfl) rfl (Nat.le_of_ble_eq_true rfl) ⟨Nat.le_of_ble_eq_true rfl, Nat.le_of_ble_eq_true rfl⟩ (qx_from (by decide) hI 1 (by omega)) (fun vr M2 hr => ?_)
  obtain ⟨⟨hC2, hF2⟩, h2⟩ := hr
  have lo := hF2.lo rfl
  have eL : ∀ r, r < 97 → M2 r = M1 r := fun r hr => funext fun k => lo r k hr
  obtain ⟨g1, g2, g3, g4⟩ := hJ.2.2
  have p0 := hJ.2.1.bl100 0
  have p1 := hJ.2.1.bl100 1
  have t0 : zband (zbshr (M 8 3) 1) 1 = M 100 1 := by rw [g4.2.2]; rcases p0 with h | h <;> rcases p1 with h' | h' <;> rw [h, h'] <;> decide
  have s0 : M1 100 (1 : Int).toNat = M 100 1 := hi 100 1 (by decide)
  have n100 : ∀ j, M2 100 j = M 100 j := fun j => (hF2.ar 100 j (by decide) (by decide)).trans (hi 100 j (by decide))
  have n99 : ∀ j, M2 99 j = M 99 j := fun j => (hF2.ar 99 j (by decide) (by decide)).trans (hi 99 j (by decide))
  have hJ2 : qJ M2 := by
    by_cases hk : M 100 1 = 0
    · have e1 : hf_166_8_L1 M = (-3, M) := by
        unfold hf_166_8_L1
        simp only [hq_169, t0, hk]
        (repeat' split) <;> first | omega | (rename_i hq; exact absurd trivial hq) | rfl
      have e2 : M1 = M := by rw [hM1, e1]
      have e3 : M2 = M1 := by
        rcases h2 with ⟨-, -, h⟩ | ⟨-, -, -, h⟩ | ⟨-, -, h, -⟩
        · exact h
        · exact h
        · exact absurd (s0.trans hk) h
      rw [e3, e2]; exact hJ
    · obtain ⟨k1, k2, k3⟩ := hm_166_1 hJ.1 (g3 hk) (by rw [t0]; exact hk)
      rw [← hM1] at k2 k3
      have v3 : ∀ j : Nat, j < 5664 → M2 98 j = M1 99 ((5664 * 1 : Int).toNat + j) := by
        rcases h2 with ⟨-, h, -⟩ | ⟨-, -, h, -⟩ | ⟨-, -, -, h⟩
        · exact absurd (by decide) h
        · exact absurd (s0.symm.trans h) hk
        · exact h
      have eA : ∀ r, (r < 9 ∨ 26 ≤ r) → r < 97 → M2 r = M r := fun r h1 h3 => (eL r h3).trans (k3 r h1)
      refine ⟨hC1.same lo, hC2, ?_, ?_, ?_, ?_⟩
      · refine k2.fr (fun r hr => eL r (by omega)) (fun j hj _ _ _ => ?_)
        have q := v3 j hj
        rw [show ((5664 * 1 : Int).toNat + j) = (5664 + j) by omega] at q
        exact q.trans (hi 99 _ (by decide))
      · rw [n100]; exact fun hk => (g2 hk).fr (fun r hr => eA r (by omega) (by omega)) (fun j hj _ _ _ => n99 _)
      · rw [n100]; exact fun hk => (g3 hk).fr (fun r hr => eA r (by omega) (by omega)) (fun j hj _ _ _ => n99 _)
      · rw [n100, n100, eA 8 (by decide) (by decide)]; exact g4
  have hv2 : ∃ x : Int, vr = some (.inl x) := by rcases h2 with ⟨h, -⟩ | ⟨h, -⟩ | ⟨h, -⟩ <;> exact ⟨_, h⟩
  obtain ⟨r2, rfl⟩ := hv2
  show zG n (114, 4080270) 300 311 (2118, [zR 0, zR 8, zR 97, .inl i], [.inl r2]) M2 _
  refine zG_blk (c' := (2158, [zR 0, zR 8, zR 97, .inl i], [])) 2 (by decide) hz (zsteps_seg hg rfl) ?_
  exact K M2 hJ2
set_option maxRecDepth 100000 in
theorem qL_43_n (hJ : qJ M) (hn : n ≤ 4096) (hi : 0 ≤ i ∧ i + 8 ≤ n) (K : ∀ M', qJ M' → zG n (114, 4080270) 300 311 (2158, [zR 0, zR 8, zR 97, .inl i], []) M' qLQ) (hA : ∀ x, x = M 0 (i + 1).toNat → ¬ (0 ≤ x ∧ x ≤ 1)) : zG n (114, 4080270) 300 311 (2099, [zR 0, zR 8, zR 97, .inl i], []) M qLQ := by
  have hz := zp_311
  have hg := sh_43
  refine zG_blk (c' := (2104, [zR 0, zR 8, zR 97, .inl i], [.inl (i + 1), zR 0, zR 8])) 5 (by decide) hz (zsteps_seg hg (by rw [show (.inl (i + 1) : zV) = .inl (w32 (i + 1)) from by rw [w32_id (by omega)]]; rfl)) ?_
  refine zG_iald (by decide) hz (hg _ _ rfl) rfl (.inr rfl) (by omega) ?_
  obtain ⟨x1, hx1⟩ : ∃ x : Int, x = M 0 (i + 1).toNat := ⟨_, rfl⟩
  rw [← hx1]
  have hr1 : qin x1 := by rw [hx1]; exact hJ.1.rng 0 _ (by decide) (by decide)
  have hA9 := hA x1 hx1
  show zG n (114, 4080270) 300 311 (2105, [zR 0, zR 8, zR 97, .inl i], [.inl x1, zR 8]) M _
  refine zG_call (by decide) hz zp_166 (hg _ _ rfl) rfl (Nat.le_of_ble_eq_true rfl) ⟨Nat.le_of_ble_eq_true rfl, Nat.le_of_ble_eq_true rfl⟩ (qe_166_8 (by decide) hJ.1 x1 (by omega)) (fun vr M1 hr => ?_)
  obtain ⟨⟨hC1, hF1⟩, h1⟩ := hr
  have h1' : vr = some (.inl (-2)) ∧ M1 = M := by rcases h1 with ⟨h, -, h'⟩ | ⟨-, h, -⟩ | ⟨-, h, -⟩; exact ⟨h, h'⟩; all_goals exact absurd h hA9
  obtain ⟨rfl, hM1⟩ := h1'
  have hi := hF1.hi rfl
  have hI := hJ.2.1.same hi
  have hc0 : ∀ j, M1 0 j = M 0 j := fun j => hF1 0 j (by decide)
  show zG n (114, 4080270) 300 311 (2108, [zR 0, zR 8, zR 97, .inl i], [.inl (-2)]) M1 _
  refine zG_blk (c' := (2114, [zR 0, zR 8, zR 97, .inl i], [.inl (i + 1), zR 0, zR 97])) 6 (by decide) hz (zsteps_seg hg (by rw [show (.inl (i + 1) : zV) = .inl (w32 (i + 1)) from by rw [w32_id (by omega)]]; rfl)) ?_
  refine zG_iald (by decide) hz (hg _ _ rfl) rfl (.inr rfl) (by omega) ?_
  rw [show M1 0 (i + 1).toNat = x1 from (hc0 _).trans hx1.symm]
  show zG n (114, 4080270) 300 311 (2115, [zR 0, zR 8, zR 97, .inl i], [.inl x1, zR 97]) M1 _
  refine zG_call (by decide) hz zp_291 (hg _ _ rfl) rfl (Nat.le_of_ble_eq_true rfl) ⟨Nat.le_of_ble_eq_true rfl, Nat.le_of_ble_eq_true rfl⟩ (qx_from (by decide) hI x1 (by omega)) (fun vr M2 hr => ?_)
  obtain ⟨⟨hC2, hF2⟩, h2⟩ := hr
  have lo := hF2.lo rfl
  have eL : ∀ r, r < 97 → M2 r = M1 r := fun r hr => funext fun k => lo r k hr
  obtain ⟨g1, g2, g3, g4⟩ := hJ.2.2
  have h2' : vr = some (.inl (-2)) ∧ M2 = M1 := by rcases h2 with ⟨h, -, h'⟩ | ⟨-, h, -⟩ | ⟨-, h, -⟩; exact ⟨h, h'⟩; all_goals exact absurd h hA9
  obtain ⟨rfl, hM2⟩ := h2'
  have hJ2 : qJ M2 := by rw [hM2, hM1]; exact hJ
  show zG n (114, 4080270) 300 311 (2118, [zR 0, zR 8, zR 97, .inl i], [.inl (-2)]) M2 _
  refine zG_blk (c' := (2158, [zR 0, zR 8, zR 97, .inl i], [])) 2 (by decide) hz (zsteps_seg hg rfl) ?_
  exact K M2 hJ2
theorem qL_43 (hJ : qJ M) (hn : n ≤ 4096) (hi : 0 ≤ i ∧ i + 8 ≤ n) (K : ∀ M', qJ M' → zG n (114, 4080270) 300 311 (2158, [zR 0, zR 8, zR 97, .inl i], []) M' qLQ) : zG n (114, 4080270) 300 311 (2099, [zR 0, zR 8, zR 97, .inl i], []) M qLQ := by
  by_cases h0 : M 0 (i + 1).toNat = 0
  · exact qL_43_0 hJ hn hi K (fun x hx => hx.trans h0)
  · by_cases h1 : M 0 (i + 1).toNat = 1
    · exact qL_43_1 hJ hn hi K (fun x hx => hx.trans h1)
    · exact qL_43_n hJ hn hi K (fun x hx => by omega)
noncomputable def sg_44 : List zE := [(2122, zi_28, 2123, zx0),
  (2123, zi_0, 2124, zx0),
  (2124, zi_1, 2125, zx0),
  (2125, zi_2, 2126, zx0),
  (2126, zi_4, 2127, zx0),
  (2127, zi_8, 2128, zx0),
  (2128, .invokevirtual 202, 2131, (167, 2, 0, [11])),
  (2131, zi_21, 2132, zx0),
  (2132, zi_39, 2133, zx0),
  (2133, zi_0, 2134, zx0),
  (2134, zi_1, 2135, zx0),
  (2135, zi_2, 2136, zx0),
  (2136, zi_4, 2137, zx0),
  (2137, zi_8, 2138, zx0),
  (2138, zi_563, 2141, (293, 2, 0, [12])),
  (2141, zi_21, 2142, zx0),
  (2142, zi_290, 2145, zx_8)]
set_option maxRecDepth 100000 in
theorem sh_44 : zSeg zk_L_law sg_44 := zSeg_of 1614 17 2122 (by decide +kernel) rfl (by decide +kernel)
set_option maxRecDepth 100000 in
theorem qL_44 (hJ : qJ M) (hn : n ≤ 4096) (hi : 0 ≤ i ∧ i + 8 ≤ n) (K : ∀ M', qJ M' → zG n (114, 4080270) 300 311 (2158, [zR 0, zR 8, zR 97, .inl i], []) M' qLQ) : zG n (114, 4080270) 300 311 (2122, [zR 0, zR 8, zR 97, .inl i], []) M qLQ := by
  have hz := zp_311
  have hg := sh_44
  refine zG_blk (c' := (2127, [zR 0, zR 8, zR 97, .inl i], [.inl (i + 1), zR 0, zR 8])) 5 (by decide) hz (zsteps_seg hg (by rw [show (.inl (i + 1) : zV) = .inl (w32 (i + 1)) from by rw [w32_id (by omega)]]; rfl)) ?_
  refine zG_iald (by decide) hz (hg _ _ rfl) rfl (.inr rfl) (by omega) ?_
  obtain ⟨x1, hx1⟩ : ∃ x : Int, x = M 0 (i + 1).toNat := ⟨_, rfl⟩
  rw [← hx1]
  have hr1 : qin x1 := by rw [hx1]; exact hJ.1.rng 0 _ (by decide) (by decide)
  show zG n (114, 4080270) 300 311 (2128, [zR 0, zR 8, zR 97, .inl i], [.inl x1, zR 8]) M _
  refine zG_call (by decide) hz zp_167 (hg _ _ rfl) rfl (Nat.le_of_ble_eq_true rfl) ⟨Nat.le_of_ble_eq_true rfl, Nat.le_of_ble_eq_true rfl⟩ (qm_167_8 (by decide) hJ.1 x1 (by omega)) (fun vr M1 hr => ?_)
  obtain ⟨hq, hr⟩ := hr
  replace hq := hq.symm; subst hq
  have hc0 : ∀ j, M 0 j = M 0 j := fun _ => rfl
  obtain ⟨r1, rfl, -⟩ := hr
  show zG n (114, 4080270) 300 311 (2131, [zR 0, zR 8, zR 97, .inl i], [.inl r1]) M _
  refine zG_blk (c' := (2137, [zR 0, zR 8, zR 97, .inl i], [.inl (i + 1), zR 0, zR 97])) 6 (by decide) hz (zsteps_seg hg (by rw [show (.inl (i + 1) : zV) = .inl (w32 (i + 1)) from by rw [w32_id (by omega)]]; rfl)) ?_
  refine zG_iald (by decide) hz (hg _ _ rfl) rfl (.inr rfl) (by omega) ?_
  rw [show M 0 (i + 1).toNat = x1 from hx1.symm]
  show zG n (114, 4080270) 300 311 (2138, [zR 0, zR 8, zR 97, .inl i], [.inl x1, zR 97]) M _
  refine zG_call (by decide) hz zp_293 (hg _ _ rfl) rfl (Nat.le_of_ble_eq_true rfl) ⟨Nat.le_of_ble_eq_true rfl, Nat.le_of_ble_eq_true rfl⟩ (qm_293_97 (by decide) hJ.2.1 x1 (by omega)) (fun vr M2 hr => ?_)
  obtain ⟨hq, hr⟩ := hr
  replace hq := hq.symm; subst hq
  obtain ⟨r2, hv9⟩ := hr
  first | (obtain ⟨rfl, -⟩ := hv9) | (obtain rfl := hv9)
  show zG n (114, 4080270) 300 311 (2141, [zR 0, zR 8, zR 97, .inl i], [.inl r2]) M _
  refine zG_blk (c' := (2158, [zR 0, zR 8, zR 97, .inl i], [])) 2 (by decide) hz (zsteps_seg hg rfl) ?_
  exact K M hJ
noncomputable def sg_45 : List zE := [(2145, zi_28, 2146, zx0),
  (2146, .invokevirtual 206, 2149, (168, 1, 0, [11])),
  (2149, zi_256, 2150, zx0),
  (2150, zi_39, 2151, zx0),
  (2151, .invokevirtual 210, 2154, (295, 1, 0, [12])),
  (2154, zi_256, 2155, zx0),
  (2155, zi_503, 2158, zx_8)]
set_option maxRecDepth 100000 in
theorem sh_45 : zSeg zk_L_law sg_45 := zSeg_of 1631 7 2145 (by decide +kernel) rfl (by decide +kernel)
set_option maxRecDepth 100000 in
theorem qL_45 (hJ : qJ M) (hn : n ≤ 4096) (hi : 0 ≤ i ∧ i + 8 ≤ n) (K : ∀ M', qJ M' → zG n (114, 4080270) 300 311 (2158, [zR 0, zR 8, zR 97, .inl i], []) M' qLQ) : zG n (114, 4080270) 300 311 (2145, [zR 0, zR 8, zR 97, .inl i], []) M qLQ := by
  have hz := zp_311
  have hg := sh_45
  refine zG_blk (c' := (2146, [zR 0, zR 8, zR 97, .inl i], [zR 8])) 1 (by decide) hz (zsteps_seg hg rfl) ?_
  refine zG_call (by decide) hz zp_168 (hg _ _ rfl) rfl (Nat.le_of_ble_eq_true rfl) ⟨Nat.le_of_ble_eq_true rfl, Nat.le_of_ble_eq_true rfl⟩ (qm_168_8 (by decide) hJ.1 ) (fun vr M1 hr => ?_)
  obtain ⟨hq, hr⟩ := hr
  replace hq := hq.symm; subst hq
  have hc0 : ∀ j, M 0 j = M 0 j := fun _ => rfl
  obtain ⟨r1, rfl⟩ := hr
  show zG n (114, 4080270) 300 311 (2149, [zR 0, zR 8, zR 97, .inl i], [(.inr (.inl r1))]) M _
  refine zG_blk (c' := (2151, [zR 0, zR 8, zR 97, .inl i], [zR 97])) 2 (by decide) hz (zsteps_seg hg rfl) ?_
  refine zG_call (by decide) hz zp_295 (hg _ _ rfl) rfl (Nat.le_of_ble_eq_true rfl) ⟨Nat.le_of_ble_eq_true rfl, Nat.le_of_ble_eq_true rfl⟩ (qm_295_97 (by decide) hJ.2.1 ) (fun vr M2 hr => ?_)
  obtain ⟨hq, hr⟩ := hr
  replace hq := hq.symm; subst hq
  obtain ⟨r2, hv9⟩ := hr
  first | (obtain ⟨rfl, -⟩ := hv9) | (obtain rfl := hv9)
  show zG n (114, 4080270) 300 311 (2154, [zR 0, zR 8, zR 97, .inl i], [(.inr (.inl r2))]) M _
  refine zG_blk (c' := (2158, [zR 0, zR 8, zR 97, .inl i], [])) 2 (by decide) hz (zsteps_seg hg rfl) ?_
  exact K M hJ
set_option maxRecDepth 100000 in
theorem qL_all (hn : n ≤ 4096) : ∀ (N : Nat) (i : Int) (M : zM), ((n : Int) + 8 - i).toNat < N → 0 ≤ i ∧ i ≤ n + 8 → qJ M → zG n (114, 4080270) 300 311 (18, [zR 0, zR 8, zR 97, .inl i], []) M qLQ := by
  have hz := zp_311
  intro N
  induction N with
  | zero => intro i M hN; exact absurd hN (Nat.not_lt_zero _)
  | succ N ih =>
    intro i M hN hi hJ
    refine zG_blk (c' := (20, [zR 0, zR 8, zR 97, .inl i], [zR 0, .inl i])) 2 (by decide) hz rfl ?_
    refine zG_alen (by decide) hz rfl rfl ?_
    refine zG_blk (c' := (24, [zR 0, zR 8, zR 97, .inl i], [.inl ((n : Int) - 8), .inl i])) 2 (by decide) hz (by rw [show (.inl ((n : Int) - 8) : zV) = .inl (w32 ((n : Int) - 8)) from by rw [w32_id (by omega)]]; rfl) ?_
    refine zG_icmp_gt (by decide) hz rfl (fun hb => ?_) (fun hb => ?_)
    · refine zG_blk (c' := (2165, [zR 0, zR 8, zR 97, .inl i], [.inl 1])) 1 (by decide) hz rfl ?_
      exact zG_zret (by decide) hz rfl (.inr rfl) rfl
    · have K : ∀ M', qJ M' → zG n (114, 4080270) 300 311 (2158, [zR 0, zR 8, zR 97, .inl i], []) M' qLQ := by
        intro M' hJ'
        refine zG_blk (c' := (18, [zR 0, zR 8, zR 97, .inl (i + 8)], [])) 2 (by decide) hz (by rw [show (.inl (i + 8) : zV) = .inl (w32 (i + 8)) from by rw [w32_id (by omega)]]; rfl) ?_
        exact ih (i + 8) M' (by omega) (by omega) hJ'
      have hi8 : 0 ≤ i ∧ i + 8 ≤ n := by omega
      refine zG_blk (c' := (29, [zR 0, zR 8, zR 97, .inl i], [.inl i, zR 0])) 2 (by decide) hz rfl ?_
      refine zG_iald (by decide) hz rfl rfl (.inr rfl) (by omega) ?_
      refine zG_blk (c' := (33, [zR 0, zR 8, zR 97, .inl i], [.inl (zband (M 0 i.toNat) 63)])) 2 (by decide) hz rfl ?_
      refine zG_sw (by decide) hz rfl ?_
      refine zts_all (P := fun t => zG n (114, 4080270) 300 311 (t, [zR 0, zR 8, zR 97, .inl i], []) M _) (K M hJ) ?_
      intro t ht
      simp only [List.mem_cons, List.not_mem_nil, or_false] at ht
      rcases ht with rfl | rfl | rfl | rfl | rfl | rfl | rfl | rfl | rfl | rfl | rfl | rfl | rfl | rfl | rfl | rfl | rfl | rfl | rfl | rfl | rfl | rfl | rfl | rfl | rfl | rfl | rfl | rfl | rfl | rfl | rfl | rfl | rfl | rfl | rfl | rfl | rfl | rfl | rfl | rfl | rfl | rfl | rfl | rfl | rfl | rfl
      · exact qL_0 hJ hn hi8 K
      · exact qL_1 hJ hn hi8 K
      · exact qL_2 hJ hn hi8 K
      · exact qL_3 hJ hn hi8 K
      · exact qL_4 hJ hn hi8 K
      · exact qL_5 hJ hn hi8 K
      · exact qL_6 hJ hn hi8 K
      · exact qL_7 hJ hn hi8 K
      · exact qL_8 hJ hn hi8 K
      · exact qL_9 hJ hn hi8 K
      · exact qL_10 hJ hn hi8 K
      · exact qL_11 hJ hn hi8 K
      · exact qL_12 hJ hn hi8 K
      · exact qL_13 hJ hn hi8 K
      · exact qL_14 hJ hn hi8 K
      · exact qL_15 hJ hn hi8 K
      · exact qL_16 hJ hn hi8 K
      · exact qL_17 hJ hn hi8 K
      · exact qL_18 hJ hn hi8 K
      · exact qL_19 hJ hn hi8 K
      · exact qL_20 hJ hn hi8 K
      · exact qL_21 hJ hn hi8 K
      · exact qL_22 hJ hn hi8 K
      · exact qL_23 hJ hn hi8 K
      · exact qL_24 hJ hn hi8 K
      · exact qL_25 hJ hn hi8 K
      · exact qL_26 hJ hn hi8 K
      · exact qL_27 hJ hn hi8 K
      · exact qL_28 hJ hn hi8 K
      · exact qL_29 hJ hn hi8 K
      · exact qL_30 hJ hn hi8 K
      · exact qL_31 hJ hn hi8 K
      · exact qL_32 hJ hn hi8 K
      · exact qL_33 hJ hn hi8 K
      · exact qL_34 hJ hn hi8 K
      · exact qL_35 hJ hn hi8 K
      · exact qL_36 hJ hn hi8 K
      · exact qL_37 hJ hn hi8 K
      · exact qL_38 hJ hn hi8 K
      · exact qL_39 hJ hn hi8 K
      · exact qL_40 hJ hn hi8 K
      · exact qL_41 hJ hn hi8 K
      · exact qL_42 hJ hn hi8 K
      · exact qL_43 hJ hn hi8 K
      · exact qL_44 hJ hn hi8 K
      · exact qL_45 hJ hn hi8 K
end LW

