/-! THE LAW (ID) -/
def hFree (r : Nat) : Bool := Nat.blt 59 r || (Nat.blt r 8 || (Nat.beq r 20 || (Nat.beq r 22 || (Nat.beq r 23 || (Nat.beq r 37 || (Nat.beq r 39 || (Nat.beq r 40 || (Nat.beq r 54 || (Nat.beq r 56 || Nat.beq r 57)))))))))
def hFre9 (r : Nat) : Bool := Nat.blt 59 r || (Nat.blt r 8 || (Nat.blt 8 r && Nat.blt r 26))
def qK (M : zM) : Prop := hHs M 9 (M 98) ∧ (M 100 0 ≠ 0 → hHs M 26 (fun j => M 99 j)) ∧ (M 100 1 ≠ 0 → hHs M 43 (fun j => M 99 (5664 + j))) ∧ (0 ≤ M 8 3 ∧ M 8 3 ≤ 3 ∧ M 8 3 = M 100 0 + 2 * M 100 1)
def qJ (M : zM) : Prop := qCI M ∧ qMI M ∧ qK M
theorem qMI.same {M M' : zM} (h : qMI M) (e : ∀ r k, 97 ≤ r → M' r k = M r k) : qMI M' := by
  refine ⟨?_, ?_, ?_, fun r k hr => by rw [e r k hr]; exact h.2.2.2.1 r k hr, ?_⟩
  · rw [show M' 98 = M 98 from funext fun j => e 98 j (by decide)]; exact h.1
  · rw [show M' 99 = M 99 from funext fun j => e 99 j (by decide)]; exact h.2.1
  · rw [show M' 99 = M 99 from funext fun j => e 99 j (by decide)]; exact h.2.2.1
  · have ht := h.2.2.2.2
    unfold qTS at ht ⊢
    rw [show M' 105 = M 105 from funext fun j => e 105 j (by decide), show M' 106 = M 106 from funext fun j => e 106 j (by decide), e 97 7 (by decide)]
    exact ht
theorem qCI.same {M M' : zM} (h : qCI M) (e : ∀ r k, r < 97 → M' r k = M r k) : qCI M' := by
  refine ⟨fun r l c hm => ?_, ?_, ?_, ?_, fun r k hr hl => by rw [e r k hr]; exact h.rng r k hr hl, ?_⟩
  · have hz := qRTL_rz _ hm
    rw [e r 0 hz.2.2.1, e r 1 hz.2.2.1, e r 3 hz.2.2.1]; exact h.rows r l c hm
  · rw [e 72 3 (by decide)]; exact h.rk
  · rw [e 72 5 (by decide)]; exact h.um
  · rw [e 87 5 (by decide)]; exact h.pp
  · rw [e 4 1 (by decide), e 6 1 (by decide)]; exact h.st
theorem qFr.hi {g : List Nat} {M M' : zM} (h : qFr g M M') (hg : g.all (fun x => Nat.blt x 97) = true) : ∀ r k, 97 ≤ r → M' r k = M r k := fun r k hr => h r k (fun hm => by
  have := List.all_eq_true.mp hg r hm
  rw [Nat.blt_eq] at this
  omega)
theorem qFm.lo {g : List Nat} {M M' : zM} (h : qFm g M M') (hg : g.all (fun x => Nat.ble 97 x) = true) : ∀ r k, r < 97 → M' r k = M r k := fun r k hr => h r k (fun hm => by
  have := List.all_eq_true.mp hg _ hm
  rw [Nat.ble_eq] at this
  simp only [qCd, if_neg (show r ≠ 97 by omega)] at this
  omega)
theorem qFr.fre {g : List Nat} {M M' : zM} (h : qFr g M M') (hg : g.all hFree = true) : ∀ r, (r = 8 ∨ (9 ≤ r ∧ r ≤ 59 ∧ r ≠ 20 ∧ r ≠ 22 ∧ r ≠ 23 ∧ r ≠ 37 ∧ r ≠ 39 ∧ r ≠ 40 ∧ r ≠ 54 ∧ r ≠ 56 ∧ r ≠ 57)) → M' r = M r := fun r hr => funext fun k => h r k (fun hm => by
  have := List.all_eq_true.mp hg r hm
  simp only [hFree, Bool.or_eq_true, Nat.blt_eq, Nat.beq_eq] at this
  omega)
theorem qFr.fr9 {g : List Nat} {M M' : zM} (h : qFr g M M') (hg : g.all hFre9 = true) : ∀ r, (r = 8 ∨ (26 ≤ r ∧ r ≤ 59)) → M' r = M r := fun r hr => funext fun k => h r k (fun hm => by
  have := List.all_eq_true.mp hg r hm
  simp only [hFre9, Bool.or_eq_true, Bool.and_eq_true, Nat.blt_eq, Nat.beq_eq] at this
  omega)
theorem qJ.cls {g : List Nat} {M M' : zM} (h : qJ M) (hc : qCI M') (hf : qFr g M M') (hg : g.all (fun x => Nat.blt x 97) = true) (hg2 : g.all hFree = true) : qJ M' := by
  have hi := hf.hi hg
  have e := hf.fre hg2
  obtain ⟨h1, h2, h3, h4⟩ := h.2.2
  refine ⟨hc, h.2.1.same hi, ?_, ?_, ?_, ?_⟩
  · exact h1.fr (fun r hr => e r (by omega)) (fun j _ _ _ _ => hi 98 j (by decide))
  · rw [hi 100 0 (by decide)]; exact fun hk => (h2 hk).fr (fun r hr => e r (by omega)) (fun j _ _ _ _ => hi 99 _ (by decide))
  · rw [hi 100 1 (by decide)]; exact fun hk => (h3 hk).fr (fun r hr => e r (by omega)) (fun j _ _ _ _ => hi 99 _ (by decide))
  · rw [hi 100 0 (by decide), hi 100 1 (by decide), e 8 (by omega)]; exact h4
theorem qJ.mdl {g : List Nat} {M M' : zM} (h : qJ M) (hm : qMI M') (hf : qFm g M M') (hg : g.all (fun x => Nat.ble 97 x) = true) (hg2 : 99 ∉ g ∧ 100 ∉ g) (h9 : ∀ j, j < 5664 → j ≠ 5 → ¬ (4000 ≤ j ∧ j < 5640) → ¬ (80 ≤ j ∧ j < 140 ∧ (j - 80) % 3 ≠ 0) → M' 98 j = M 98 j) : qJ M' := by
  have lo := hf.lo hg
  have e : ∀ r, r < 97 → M' r = M r := fun r hr => funext fun k => lo r k hr
  have e99 : ∀ j, M' 99 j = M 99 j := fun j => hf.ar 99 j (by decide) hg2.1
  obtain ⟨h1, h2, h3, h4⟩ := h.2.2
  refine ⟨h.1.same lo, hm, ?_, ?_, ?_, ?_⟩
  · exact h1.fr (fun r hr => e r (by omega)) h9
  · rw [hf.ar 100 0 (by decide) hg2.2]; exact fun hk => (h2 hk).fr (fun r hr => e r (by omega)) (fun j _ _ _ _ => e99 _)
  · rw [hf.ar 100 1 (by decide) hg2.2]; exact fun hk => (h3 hk).fr (fun r hr => e r (by omega)) (fun j _ _ _ _ => e99 _)
  · rw [hf.ar 100 0 (by decide) hg2.2, hf.ar 100 1 (by decide) hg2.2, lo 8 3 (by decide)]; exact h4
theorem qJ.mut {g g2 : List Nat} {M M1 M2 : zM} (h : qJ M) (hc : qCI M1) (hf : qFr g M M1) (hg : g.all (fun x => Nat.blt x 97) = true) (hg3 : g.all hFre9 = true) (hm : qMI M2) (hf2 : qFm g2 M1 M2) (hg4 : g2.all (fun x => Nat.ble 97 x) = true) (hg2 : 99 ∉ g2 ∧ 100 ∉ g2) (hh : hHs M2 9 (M2 98)) : qJ M2 := by
  have hi := hf.hi hg
  have lo := hf2.lo hg4
  have e : ∀ r, (r = 8 ∨ (26 ≤ r ∧ r ≤ 59)) → M2 r = M r := fun r hr => (funext fun k => lo r k (by omega)).trans (hf.fr9 hg3 r hr)
  have e99 : ∀ j, M2 99 j = M 99 j := fun j => (hf2.ar 99 j (by decide) hg2.1).trans (hi 99 j (by decide))
  have e0 : ∀ j, M2 100 j = M 100 j := fun j => (hf2.ar 100 j (by decide) hg2.2).trans (hi 100 j (by decide))
  obtain ⟨h1, h2, h3, h4⟩ := h.2.2
  refine ⟨hc.same lo, hm, hh, ?_, ?_, ?_⟩
  · rw [e0]; exact fun hk => (h2 hk).fr (fun r hr => e r (by omega)) (fun j _ _ _ _ => e99 _)
  · rw [e0]; exact fun hk => (h3 hk).fr (fun r hr => e r (by omega)) (fun j _ _ _ _ => e99 _)
  · rw [e0, e0, e 8 (by omega)]; exact h4
theorem qCI.tb {M : zM} (h : qCI M) : hTb M := by
  have t := fun r l c hm => h.rows r l c hm
  exact ⟨⟨(t 10 14 4 (by decide)).1, (t 10 14 4 (by decide)).2.1⟩, ⟨(t 12 20 3 (by decide)).1, (t 12 20 3 (by decide)).2.1⟩, ⟨(t 14 4 2 (by decide)).1, (t 14 4 2 (by decide)).2.1⟩, ⟨(t 16 40 5 (by decide)).1, (t 16 40 5 (by decide)).2.1⟩, ⟨(t 18 250 11 (by decide)).1, (t 18 250 11 (by decide)).2.1⟩, ⟨(t 20 8 81 (by decide)).1, (t 20 8 81 (by decide)).2.1⟩, ⟨(t 22 10 164 (by decide)).1, (t 22 10 164 (by decide)).2.1⟩, ⟨(t 24 12 2 (by decide)).1, (t 24 12 2 (by decide)).2.1⟩⟩
theorem qMI.bd {M : zM} (h : qMI M) : hBd M := ⟨h.cnt0, h.cnt1, h.cnt2, h.cnt3, h.cnt4, h.cnt5, h.cnt6⟩
theorem qMI.tl {M : zM} (h : qMI M) : ∀ t : Nat, t < 8 → 0 ≤ M 98 (3350 + 81 * t) ∧ M 98 (3350 + 81 * t) ≤ 80 := fun t ht => by
  have q := h.txt (t : Int) (3350 + 81 * t) (by omega) rfl
  rw [show ((3350 : Int) + 81 * (t : Int)).toNat = 3350 + 81 * t by omega] at q
  exact q
theorem hm_165_0 {M : zM} {f : Nat → Int} (hC : qCI M) (h : hHs M 9 f) : (hf_165_8_L0 M).1 = 1 ∧ hHs (hf_165_8_L0 M).2 26 f ∧ (hf_165_8_L0 M).2 8 3 = zbor (M 8 3) (zbshl 1 0) ∧ ∀ i, (i < 26 ∨ 43 ≤ i) → i ≠ 8 → (hf_165_8_L0 M).2 i = M i := by
  obtain ⟨q1, ⟨u0, u1, u2, u3, u4, u5, u6, u7⟩, ⟨c0, c1, c2, c3, c4, c5, c6, c7⟩, d7, d8⟩ := hto_26_9 (M := M) ⟨(hC.rows 27 14 4 (by decide)).1, by have := (hC.rows 10 14 4 (by decide)).2.2.2; exact this⟩ ⟨(hC.rows 29 20 3 (by decide)).1, by have := (hC.rows 12 20 3 (by decide)).2.2.2; exact this⟩ ⟨(hC.rows 31 4 2 (by decide)).1, by have := (hC.rows 14 4 2 (by decide)).2.2.2; exact this⟩ ⟨(hC.rows 33 40 5 (by decide)).1, by have := (hC.rows 16 40 5 (by decide)).2.2.2; exact this⟩ ⟨(hC.rows 35 250 11 (by decide)).1, by have := (hC.rows 18 250 11 (by decide)).2.2.2; exact this⟩ ⟨(hC.rows 37 8 81 (by decide)).1, by have := (hC.rows 20 8 81 (by decide)).2.2.2; exact this⟩ ⟨(hC.rows 39 10 164 (by decide)).1, by have := (hC.rows 22 10 164 (by decide)).2.2.2; exact this⟩ ⟨(hC.rows 41 12 2 (by decide)).1, by have := (hC.rows 24 12 2 (by decide)).2.2.2; exact this⟩
  have e : hf_165_8_L0 M = (1, zput (hf_26_26_9 M) 8 3 (zbor (M 8 3) (zbshl 1 0))) := by
    unfold hf_165_8_L0
    rw [if_pos (by rw [hq_169]; omega), q1 8 (by omega)]
  rw [e]; dsimp only
  refine ⟨rfl, ?_, qput_eq, fun i hi h8 => (zput_oth h8).trans (q1 i hi)⟩
  refine h.cp (b' := 26) u0 u1 u2 u3 u4 u7 c0 c1 c2 c3 c4 c5 c7 d7 d8 (fun _ _ => rfl)
theorem hm_166_0 {M : zM} {f : Nat → Int} (hC : qCI M) (h : hHs M 26 f) (hk : ¬ zband (zbshr (M 8 3) 0) 1 = 0) : (hf_166_8_L0 M).1 = 1 ∧ hHs (hf_166_8_L0 M).2 9 f ∧ ∀ i, (i < 9 ∨ 26 ≤ i) → (hf_166_8_L0 M).2 i = M i := by
  obtain ⟨q1, ⟨u0, u1, u2, u3, u4, u5, u6, u7⟩, ⟨c0, c1, c2, c3, c4, c5, c6, c7⟩, d7, d8⟩ := hto_9_26 (M := M) ⟨(hC.rows 10 14 4 (by decide)).1, by have := (hC.rows 27 14 4 (by decide)).2.2.2; exact this⟩ ⟨(hC.rows 12 20 3 (by decide)).1, by have := (hC.rows 29 20 3 (by decide)).2.2.2; exact this⟩ ⟨(hC.rows 14 4 2 (by decide)).1, by have := (hC.rows 31 4 2 (by decide)).2.2.2; exact this⟩ ⟨(hC.rows 16 40 5 (by decide)).1, by have := (hC.rows 33 40 5 (by decide)).2.2.2; exact this⟩ ⟨(hC.rows 18 250 11 (by decide)).1, by have := (hC.rows 35 250 11 (by decide)).2.2.2; exact this⟩ ⟨(hC.rows 20 8 81 (by decide)).1, by have := (hC.rows 37 8 81 (by decide)).2.2.2; exact this⟩ ⟨(hC.rows 22 10 164 (by decide)).1, by have := (hC.rows 39 10 164 (by decide)).2.2.2; exact this⟩ ⟨(hC.rows 24 12 2 (by decide)).1, by have := (hC.rows 41 12 2 (by decide)).2.2.2; exact this⟩
  have e : hf_166_8_L0 M = (1, hf_26_9_26 M) := by
    unfold hf_166_8_L0
    simp only [hq_169]
    (repeat' split) <;> first | omega | rfl
  rw [e]; dsimp only
  exact ⟨rfl, h.cp (b' := 9) u0 u1 u2 u3 u4 u7 c0 c1 c2 c3 c4 c5 c7 d7 d8 (fun _ _ => rfl), q1⟩
theorem hm_165_1 {M : zM} {f : Nat → Int} (hC : qCI M) (h : hHs M 9 f) : (hf_165_8_L1 M).1 = 1 ∧ hHs (hf_165_8_L1 M).2 43 f ∧ (hf_165_8_L1 M).2 8 3 = zbor (M 8 3) (zbshl 1 1) ∧ ∀ i, (i < 43 ∨ 60 ≤ i) → i ≠ 8 → (hf_165_8_L1 M).2 i = M i := by
  obtain ⟨q1, ⟨u0, u1, u2, u3, u4, u5, u6, u7⟩, ⟨c0, c1, c2, c3, c4, c5, c6, c7⟩, d7, d8⟩ := hto_43_9 (M := M) ⟨(hC.rows 44 14 4 (by decide)).1, by have := (hC.rows 10 14 4 (by decide)).2.2.2; exact this⟩ ⟨(hC.rows 46 20 3 (by decide)).1, by have := (hC.rows 12 20 3 (by decide)).2.2.2; exact this⟩ ⟨(hC.rows 48 4 2 (by decide)).1, by have := (hC.rows 14 4 2 (by decide)).2.2.2; exact this⟩ ⟨(hC.rows 50 40 5 (by decide)).1, by have := (hC.rows 16 40 5 (by decide)).2.2.2; exact this⟩ ⟨(hC.rows 52 250 11 (by decide)).1, by have := (hC.rows 18 250 11 (by decide)).2.2.2; exact this⟩ ⟨(hC.rows 54 8 81 (by decide)).1, by have := (hC.rows 20 8 81 (by decide)).2.2.2; exact this⟩ ⟨(hC.rows 56 10 164 (by decide)).1, by have := (hC.rows 22 10 164 (by decide)).2.2.2; exact this⟩ ⟨(hC.rows 58 12 2 (by decide)).1, by have := (hC.rows 24 12 2 (by decide)).2.2.2; exact this⟩
  have e : hf_165_8_L1 M = (1, zput (hf_26_43_9 M) 8 3 (zbor (M 8 3) (zbshl 1 1))) := by
    unfold hf_165_8_L1
    rw [if_pos (by rw [hq_169]; omega), q1 8 (by omega)]
  rw [e]; dsimp only
  refine ⟨rfl, ?_, qput_eq, fun i hi h8 => (zput_oth h8).trans (q1 i hi)⟩
  refine h.cp (b' := 43) u0 u1 u2 u3 u4 u7 c0 c1 c2 c3 c4 c5 c7 d7 d8 (fun _ _ => rfl)
theorem hm_166_1 {M : zM} {f : Nat → Int} (hC : qCI M) (h : hHs M 43 f) (hk : ¬ zband (zbshr (M 8 3) 1) 1 = 0) : (hf_166_8_L1 M).1 = 1 ∧ hHs (hf_166_8_L1 M).2 9 f ∧ ∀ i, (i < 9 ∨ 26 ≤ i) → (hf_166_8_L1 M).2 i = M i := by
  obtain ⟨q1, ⟨u0, u1, u2, u3, u4, u5, u6, u7⟩, ⟨c0, c1, c2, c3, c4, c5, c6, c7⟩, d7, d8⟩ := hto_9_43 (M := M) ⟨(hC.rows 10 14 4 (by decide)).1, by have := (hC.rows 44 14 4 (by decide)).2.2.2; exact this⟩ ⟨(hC.rows 12 20 3 (by decide)).1, by have := (hC.rows 46 20 3 (by decide)).2.2.2; exact this⟩ ⟨(hC.rows 14 4 2 (by decide)).1, by have := (hC.rows 48 4 2 (by decide)).2.2.2; exact this⟩ ⟨(hC.rows 16 40 5 (by decide)).1, by have := (hC.rows 50 40 5 (by decide)).2.2.2; exact this⟩ ⟨(hC.rows 18 250 11 (by decide)).1, by have := (hC.rows 52 250 11 (by decide)).2.2.2; exact this⟩ ⟨(hC.rows 20 8 81 (by decide)).1, by have := (hC.rows 54 8 81 (by decide)).2.2.2; exact this⟩ ⟨(hC.rows 22 10 164 (by decide)).1, by have := (hC.rows 56 10 164 (by decide)).2.2.2; exact this⟩ ⟨(hC.rows 24 12 2 (by decide)).1, by have := (hC.rows 58 12 2 (by decide)).2.2.2; exact this⟩
  have e : hf_166_8_L1 M = (1, hf_26_9_43 M) := by
    unfold hf_166_8_L1
    simp only [hq_169]
    (repeat' split) <;> first | omega | rfl
  rw [e]; dsimp only
  exact ⟨rfl, h.cp (b' := 9) u0 u1 u2 u3 u4 u7 c0 c1 c2 c3 c4 c5 c7 d7 d8 (fun _ _ => rfl), q1⟩
def zSeg (code seg : List zE) : Prop := ∀ pc e, zat seg pc = some e → zat code pc = some e
theorem zat_app : ∀ (l1 l2 : List zE) (pc : Nat), zat (l1 ++ l2) pc = (match zat l1 pc with | some e => some e | none => zat l2 pc) := by
  intro l1 l2 pc
  induction l1 with
  | nil => rfl
  | cons a l ih =>
    have e1 : ∀ l', zat (a :: l') pc = (match Nat.beq a.1 pc with | true => some a | false => zat l' pc) := fun _ => rfl
    rw [List.cons_append, e1, e1]
    cases Nat.beq a.1 pc with
    | true => rfl
    | false => exact ih
theorem zat_no {l : List zE} {pc p0 : Nat} (h : l.all (fun e => Nat.blt e.1 p0) = true) (hp : p0 ≤ pc) : zat l pc = none := by
  induction l with
  | nil => rfl
  | cons a l ih =>
    rw [List.all_cons, Bool.and_eq_true, Nat.blt_eq] at h
    unfold zat
    have hb : Nat.beq a.1 pc = false := by
      cases hq : Nat.beq a.1 pc with
      | false => rfl
      | true => have := Nat.eq_of_beq_eq_true hq; omega
    rw [hb]
    exact ih h.2
theorem zat_lo {l : List zE} {pc p0 : Nat} {e : zE} (h : l.all (fun e => Nat.ble p0 e.1) = true) (he : zat l pc = some e) : p0 ≤ pc := by
  induction l with
  | nil => cases he
  | cons a l ih =>
    rw [List.all_cons, Bool.and_eq_true, Nat.ble_eq] at h
    unfold zat at he
    cases hq : Nat.beq a.1 pc with
    | true => have := Nat.eq_of_beq_eq_true hq; omega
    | false => rw [hq] at he; exact ih h.2 he
theorem zSeg_of {code seg : List zE} (n m p0 : Nat) (h1 : (code.take n).all (fun e => Nat.blt e.1 p0) = true) (h2 : (code.drop n).take m = seg) (h3 : seg.all (fun e => Nat.ble p0 e.1) = true) : zSeg code seg := by
  intro pc e he
  have hp := zat_lo h3 he
  rw [← List.take_append_drop n code, zat_app, zat_no h1 hp]
  dsimp only
  rw [← List.take_append_drop m (code.drop n), h2, zat_app, he]
theorem zsteps_seg {code seg : List zE} {B : Nat × Nat} (hs : zSeg code seg) : ∀ {k : Nat} {c : zC} {w : zW} {q : zC × zW}, zsteps seg B k c w = some q → zsteps code B k c w = some q := by
  intro k
  induction k with
  | zero => intro c w q h; exact h
  | succ k ih =>
    intro c w q h
    unfold zsteps at h ⊢
    cases he : zat seg c.1 with
    | none => rw [he] at h; cases h
    | some e =>
      rw [hs _ _ he]
      rw [he] at h
      dsimp only at h ⊢
      cases hz : zst true B e c.2.1 c.2.2 w with
      | none => rw [hz] at h; cases h
      | some o =>
        rw [hz] at h
        rcases o with ⟨c', w'⟩ | o
        · exact ih h
        · cases h
section LW
variable {n : Nat} {M : zM} {i : Int}
abbrev qLQ : Option zV → zM → Prop := fun v _ => v = some (.inl 1)
def sg_0 : List zE := [(232, .aload_n ⟨1, zfin1⟩, 233, (0, 0, 0, [])),
  (233, .aload_n ⟨0, zfin0⟩, 234, (0, 0, 0, [])),
  (234, .iload_n ⟨3, zfin3⟩, 235, (0, 0, 0, [])),
  (235, .iconst 1, 236, (0, 0, 0, [])),
  (236, .iadd, 237, (0, 0, 0, [])),
  (237, .iaload, 238, (0, 0, 0, [])),
  (238, .aload_n ⟨0, zfin0⟩, 239, (0, 0, 0, [])),
  (239, .iload_n ⟨3, zfin3⟩, 240, (0, 0, 0, [])),
  (240, .iconst 2, 241, (0, 0, 0, [])),
  (241, .iadd, 242, (0, 0, 0, [])),
  (242, .iaload, 243, (0, 0, 0, [])),
  (243, .aload_n ⟨0, zfin0⟩, 244, (0, 0, 0, [])),
  (244, .iload_n ⟨3, zfin3⟩, 245, (0, 0, 0, [])),
  (245, .iconst 3, 246, (0, 0, 0, [])),
  (246, .iadd, 247, (0, 0, 0, [])),
  (247, .iaload, 248, (0, 0, 0, [])),
  (248, .aload_n ⟨0, zfin0⟩, 249, (0, 0, 0, [])),
  (249, .iload_n ⟨3, zfin3⟩, 250, (0, 0, 0, [])),
  (250, .iconst 4, 251, (0, 0, 0, [])),
  (251, .iadd, 252, (0, 0, 0, [])),
  (252, .iaload, 253, (0, 0, 0, [])),
  (253, .invokevirtual 13, 256, (123, 5, 0, [11])),
  (256, .pop, 257, (0, 0, 0, [])),
  (257, .aload_n ⟨2, zfin2⟩, 258, (0, 0, 0, [])),
  (258, .aload_n ⟨0, zfin0⟩, 259, (0, 0, 0, [])),
  (259, .iload_n ⟨3, zfin3⟩, 260, (0, 0, 0, [])),
  (260, .iconst 1, 261, (0, 0, 0, [])),
  (261, .iadd, 262, (0, 0, 0, [])),
  (262, .iaload, 263, (0, 0, 0, [])),
  (263, .aload_n ⟨0, zfin0⟩, 264, (0, 0, 0, [])),
  (264, .iload_n ⟨3, zfin3⟩, 265, (0, 0, 0, [])),
  (265, .iconst 2, 266, (0, 0, 0, [])),
  (266, .iadd, 267, (0, 0, 0, [])),
  (267, .iaload, 268, (0, 0, 0, [])),
  (268, .aload_n ⟨0, zfin0⟩, 269, (0, 0, 0, [])),
  (269, .iload_n ⟨3, zfin3⟩, 270, (0, 0, 0, [])),
  (270, .iconst 3, 271, (0, 0, 0, [])),
  (271, .iadd, 272, (0, 0, 0, [])),
  (272, .iaload, 273, (0, 0, 0, [])),
  (273, .aload_n ⟨0, zfin0⟩, 274, (0, 0, 0, [])),
  (274, .iload_n ⟨3, zfin3⟩, 275, (0, 0, 0, [])),
  (275, .iconst 4, 276, (0, 0, 0, [])),
  (276, .iadd, 277, (0, 0, 0, [])),
  (277, .iaload, 278, (0, 0, 0, [])),
  (278, .invokevirtual 17, 281, (187, 5, 0, [12])),
  (281, .pop, 282, (0, 0, 0, [])),
  (282, .goto (1876), 285, (2158, 0, 0, []))]
set_option maxRecDepth 100000 in
theorem sh_0 : zSeg zk_L_law sg_0 := zSeg_of 22 47 232 (by decide +kernel) rfl (by decide +kernel)
set_option maxRecDepth 100000 in
theorem qL_0 (hJ : qJ M) (hn : n ≤ 4096) (hi : 0 ≤ i ∧ i + 8 ≤ n) (K : ∀ M', qJ M' → zG n (114, 4080270) 300 311 (2158, [zR 0, zR 8, zR 97, .inl i], []) M' qLQ) : zG n (114, 4080270) 300 311 (232, [zR 0, zR 8, zR 97, .inl i], []) M qLQ := by
  have hz : zP 311 = (zk_L_law, 4, (114, 4080270)) := rfl
  have hg := sh_0
  refine zG_blk (c' := (237, [zR 0, zR 8, zR 97, .inl i], [.inl (i + 1), zR 0, zR 8])) 5 (by decide) hz (zsteps_seg hg (by rw [show (.inl (i + 1) : zV) = .inl (w32 (i + 1)) from by rw [w32_id (by omega)]]; rfl)) ?_
  refine zG_iald (by decide) hz (hg _ _ rfl) rfl (.inr rfl) (by omega) ?_
  obtain ⟨x1, hx1⟩ : ∃ x : Int, x = M 0 (i + 1).toNat := ⟨_, rfl⟩
  rw [← hx1]
  have hr1 : qin x1 := by rw [hx1]; exact hJ.1.rng 0 _ (by decide) (by decide)
  show zG n (114, 4080270) 300 311 (238, [zR 0, zR 8, zR 97, .inl i], [.inl x1, zR 8]) M _
  refine zG_blk (c' := (242, [zR 0, zR 8, zR 97, .inl i], [.inl (i + 2), zR 0, .inl x1, zR 8])) 4 (by decide) hz (zsteps_seg hg (by rw [show (.inl (i + 2) : zV) = .inl (w32 (i + 2)) from by rw [w32_id (by omega)]]; rfl)) ?_
  refine zG_iald (by decide) hz (hg _ _ rfl) rfl (.inr rfl) (by omega) ?_
  obtain ⟨x2, hx2⟩ : ∃ x : Int, x = M 0 (i + 2).toNat := ⟨_, rfl⟩
  rw [← hx2]
  have hr2 : qin x2 := by rw [hx2]; exact hJ.1.rng 0 _ (by decide) (by decide)
  show zG n (114, 4080270) 300 311 (243, [zR 0, zR 8, zR 97, .inl i], [.inl x2, .inl x1, zR 8]) M _
  refine zG_blk (c' := (247, [zR 0, zR 8, zR 97, .inl i], [.inl (i + 3), zR 0, .inl x2, .inl x1, zR 8])) 4 (by decide) hz (zsteps_seg hg (by rw [show (.inl (i + 3) : zV) = .inl (w32 (i + 3)) from by rw [w32_id (by omega)]]; rfl)) ?_
  refine zG_iald (by decide) hz (hg _ _ rfl) rfl (.inr rfl) (by omega) ?_
  obtain ⟨x3, hx3⟩ : ∃ x : Int, x = M 0 (i + 3).toNat := ⟨_, rfl⟩
  rw [← hx3]
  have hr3 : qin x3 := by rw [hx3]; exact hJ.1.rng 0 _ (by decide) (by decide)
  show zG n (114, 4080270) 300 311 (248, [zR 0, zR 8, zR 97, .inl i], [.inl x3, .inl x2, .inl x1, zR 8]) M _
  refine zG_blk (c' := (252, [zR 0, zR 8, zR 97, .inl i], [.inl (i + 4), zR 0, .inl x3, .inl x2, .inl x1, zR 8])) 4 (by decide) hz (zsteps_seg hg (by rw [show (.inl (i + 4) : zV) = .inl (w32 (i + 4)) from by rw [w32_id (by omega)]]; rfl)) ?_
  refine zG_iald (by decide) hz (hg _ _ rfl) rfl (.inr rfl) (by omega) ?_
  obtain ⟨x4, hx4⟩ : ∃ x : Int, x = M 0 (i + 4).toNat := ⟨_, rfl⟩
  rw [← hx4]
  have hr4 : qin x4 := by rw [hx4]; exact hJ.1.rng 0 _ (by decide) (by decide)
  show zG n (114, 4080270) 300 311 (253, [zR 0, zR 8, zR 97, .inl i], [.inl x4, .inl x3, .inl x2, .inl x1, zR 8]) M _
  refine zG_call (by decide) hz (rfl : zP 123 = (zk_X10_course, 6, (0, 0))) (hg _ _ rfl) rfl (Nat.le_of_ble_eq_true rfl) ⟨Nat.le_of_ble_eq_true rfl, Nat.le_of_ble_eq_true rfl⟩ (zG.andH (qm_123_8 (by decide) hJ.1 x1 (by omega) x2 (by omega) x3 (by omega) x4 (by omega)) (fh_123_8 x1 x2 x3 x4)) (fun vr M1 hr => ?_)
  obtain ⟨⟨⟨hC1, hF1⟩, -⟩, rfl, hM1⟩ := hr
  have hi := hF1.hi rfl
  have hI := hJ.2.1.same hi
  have hc0 : ∀ j, M1 0 j = M 0 j := fun j => hF1 0 j (by decide)
  show zG n (114, 4080270) 300 311 (256, [zR 0, zR 8, zR 97, .inl i], [.inl (hf_123_8 M x1 x2 x3 x4).1]) M1 _
  refine zG_blk (c' := (262, [zR 0, zR 8, zR 97, .inl i], [.inl (i + 1), zR 0, zR 97])) 6 (by decide) hz (zsteps_seg hg (by rw [show (.inl (i + 1) : zV) = .inl (w32 (i + 1)) from by rw [w32_id (by omega)]]; rfl)) ?_
  refine zG_iald (by decide) hz (hg _ _ rfl) rfl (.inr rfl) (by omega) ?_
  rw [show M1 0 (i + 1).toNat = x1 from (hc0 _).trans hx1.symm]
  show zG n (114, 4080270) 300 311 (263, [zR 0, zR 8, zR 97, .inl i], [.inl x1, zR 97]) M1 _
  refine zG_blk (c' := (267, [zR 0, zR 8, zR 97, .inl i], [.inl (i + 2), zR 0, .inl x1, zR 97])) 4 (by decide) hz (zsteps_seg hg (by rw [show (.inl (i + 2) : zV) = .inl (w32 (i + 2)) from by rw [w32_id (by omega)]]; rfl)) ?_
  refine zG_iald (by decide) hz (hg _ _ rfl) rfl (.inr rfl) (by omega) ?_
  rw [show M1 0 (i + 2).toNat = x2 from (hc0 _).trans hx2.symm]
  show zG n (114, 4080270) 300 311 (268, [zR 0, zR 8, zR 97, .inl i], [.inl x2, .inl x1, zR 97]) M1 _
  refine zG_blk (c' := (272, [zR 0, zR 8, zR 97, .inl i], [.inl (i + 3), zR 0, .inl x2, .inl x1, zR 97])) 4 (by decide) hz (zsteps_seg hg (by rw [show (.inl (i + 3) : zV) = .inl (w32 (i + 3)) from by rw [w32_id (by omega)]]; rfl)) ?_
  refine zG_iald (by decide) hz (hg _ _ rfl) rfl (.inr rfl) (by omega) ?_
  rw [show M1 0 (i + 3).toNat = x3 from (hc0 _).trans hx3.symm]
  show zG n (114, 4080270) 300 311 (273, [zR 0, zR 8, zR 97, .inl i], [.inl x3, .inl x2, .inl x1, zR 97]) M1 _
  refine zG_blk (c' := (277, [zR 0, zR 8, zR 97, .inl i], [.inl (i + 4), zR 0, .inl x3, .inl x2, .inl x1, zR 97])) 4 (by decide) hz (zsteps_seg hg (by rw [show (.inl (i + 4) : zV) = .inl (w32 (i + 4)) from by rw [w32_id (by omega)]]; rfl)) ?_
  refine zG_iald (by decide) hz (hg _ _ rfl) rfl (.inr rfl) (by omega) ?_
  rw [show M1 0 (i + 4).toNat = x4 from (hc0 _).trans hx4.symm]
  show zG n (114, 4080270) 300 311 (278, [zR 0, zR 8, zR 97, .inl i], [.inl x4, .inl x3, .inl x2, .inl x1, zR 97]) M1 _
  refine zG_call (by decide) hz (rfl : zP 187 = (zk_X11_course, 6, (0, 0))) (hg _ _ rfl) rfl (Nat.le_of_ble_eq_true rfl) ⟨Nat.le_of_ble_eq_true rfl, Nat.le_of_ble_eq_true rfl⟩ (zG.andH (qm_187_97 (by decide) hI x1 (by omega) x2 (by omega) x3 (by omega) x4 (by omega)) (fh_187_97 x1 x2 x3 x4)) (fun vr M2 hr => ?_)
  obtain ⟨⟨⟨hC2, hF2⟩, -⟩, rfl, hM2⟩ := hr
  have hm := hm_123 hJ.2.2.1 hJ.1.tb hJ.2.1.bd (a1 := x1) (a2 := x2) (a3 := x3) (a4 := x4)
  rw [← hM1] at hm
  rw [← hM2] at hm
  have hJ2 : qJ M2 := hJ.mut hC1 hF1 rfl rfl hC2 hF2 rfl (by decide) hm.2
  show zG n (114, 4080270) 300 311 (281, [zR 0, zR 8, zR 97, .inl i], [.inl (hf_187_97 M1 x1 x2 x3 x4).1]) M2 _
  refine zG_blk (c' := (2158, [zR 0, zR 8, zR 97, .inl i], [])) 2 (by decide) hz (zsteps_seg hg rfl) ?_
  exact K M2 hJ2
def sg_1 : List zE := [(285, .aload_n ⟨1, zfin1⟩, 286, (0, 0, 0, [])),
  (286, .aload_n ⟨0, zfin0⟩, 287, (0, 0, 0, [])),
  (287, .iload_n ⟨3, zfin3⟩, 288, (0, 0, 0, [])),
  (288, .iconst 1, 289, (0, 0, 0, [])),
  (289, .iadd, 290, (0, 0, 0, [])),
  (290, .iaload, 291, (0, 0, 0, [])),
  (291, .invokevirtual 18, 294, (124, 2, 0, [11])),
  (294, .pop, 295, (0, 0, 0, [])),
  (295, .aload_n ⟨2, zfin2⟩, 296, (0, 0, 0, [])),
  (296, .aload_n ⟨0, zfin0⟩, 297, (0, 0, 0, [])),
  (297, .iload_n ⟨3, zfin3⟩, 298, (0, 0, 0, [])),
  (298, .iconst 1, 299, (0, 0, 0, [])),
  (299, .iadd, 300, (0, 0, 0, [])),
  (300, .iaload, 301, (0, 0, 0, [])),
  (301, .invokevirtual 22, 304, (188, 2, 0, [12])),
  (304, .pop, 305, (0, 0, 0, [])),
  (305, .goto (1853), 308, (2158, 0, 0, []))]
set_option maxRecDepth 100000 in
theorem sh_1 : zSeg zk_L_law sg_1 := zSeg_of 69 17 285 (by decide +kernel) rfl (by decide +kernel)
set_option maxRecDepth 100000 in
theorem qL_1 (hJ : qJ M) (hn : n ≤ 4096) (hi : 0 ≤ i ∧ i + 8 ≤ n) (K : ∀ M', qJ M' → zG n (114, 4080270) 300 311 (2158, [zR 0, zR 8, zR 97, .inl i], []) M' qLQ) : zG n (114, 4080270) 300 311 (285, [zR 0, zR 8, zR 97, .inl i], []) M qLQ := by
  have hz : zP 311 = (zk_L_law, 4, (114, 4080270)) := rfl
  have hg := sh_1
  refine zG_blk (c' := (290, [zR 0, zR 8, zR 97, .inl i], [.inl (i + 1), zR 0, zR 8])) 5 (by decide) hz (zsteps_seg hg (by rw [show (.inl (i + 1) : zV) = .inl (w32 (i + 1)) from by rw [w32_id (by omega)]]; rfl)) ?_
  refine zG_iald (by decide) hz (hg _ _ rfl) rfl (.inr rfl) (by omega) ?_
  obtain ⟨x1, hx1⟩ : ∃ x : Int, x = M 0 (i + 1).toNat := ⟨_, rfl⟩
  rw [← hx1]
  have hr1 : qin x1 := by rw [hx1]; exact hJ.1.rng 0 _ (by decide) (by decide)
  show zG n (114, 4080270) 300 311 (291, [zR 0, zR 8, zR 97, .inl i], [.inl x1, zR 8]) M _
  refine zG_call (by decide) hz (rfl : zP 124 = (zk_X10_student, 3, (0, 0))) (hg _ _ rfl) rfl (Nat.le_of_ble_eq_true rfl) ⟨Nat.le_of_ble_eq_true rfl, Nat.le_of_ble_eq_true rfl⟩ (zG.andH (qm_124_8 (by decide) hJ.1 x1 (by omega)) (fh_124_8 x1)) (fun vr M1 hr => ?_)
  obtain ⟨⟨⟨hC1, hF1⟩, -⟩, rfl, hM1⟩ := hr
  have hi := hF1.hi rfl
  have hI := hJ.2.1.same hi
  have hc0 : ∀ j, M1 0 j = M 0 j := fun j => hF1 0 j (by decide)
  show zG n (114, 4080270) 300 311 (294, [zR 0, zR 8, zR 97, .inl i], [.inl (hf_124_8 M x1).1]) M1 _
  refine zG_blk (c' := (300, [zR 0, zR 8, zR 97, .inl i], [.inl (i + 1), zR 0, zR 97])) 6 (by decide) hz (zsteps_seg hg (by rw [show (.inl (i + 1) : zV) = .inl (w32 (i + 1)) from by rw [w32_id (by omega)]]; rfl)) ?_
  refine zG_iald (by decide) hz (hg _ _ rfl) rfl (.inr rfl) (by omega) ?_
  rw [show M1 0 (i + 1).toNat = x1 from (hc0 _).trans hx1.symm]
  show zG n (114, 4080270) 300 311 (301, [zR 0, zR 8, zR 97, .inl i], [.inl x1, zR 97]) M1 _
  refine zG_call (by decide) hz (rfl : zP 188 = (zk_X11_student, 3, (0, 0))) (hg _ _ rfl) rfl (Nat.le_of_ble_eq_true rfl) ⟨Nat.le_of_ble_eq_true rfl, Nat.le_of_ble_eq_true rfl⟩ (zG.andH (qm_188_97 (by decide) hI x1 (by omega)) (fh_188_97 x1)) (fun vr M2 hr => ?_)
  obtain ⟨⟨⟨hC2, hF2⟩, -⟩, rfl, hM2⟩ := hr
  have hm := hm_124 hJ.2.2.1 hJ.1.tb hJ.2.1.bd (a1 := x1)
  rw [← hM1] at hm
  rw [← hM2] at hm
  have hJ2 : qJ M2 := hJ.mut hC1 hF1 rfl rfl hC2 hF2 rfl (by decide) hm.2
  show zG n (114, 4080270) 300 311 (304, [zR 0, zR 8, zR 97, .inl i], [.inl (hf_188_97 M1 x1).1]) M2 _
  refine zG_blk (c' := (2158, [zR 0, zR 8, zR 97, .inl i], [])) 2 (by decide) hz (zsteps_seg hg rfl) ?_
  exact K M2 hJ2
def sg_2 : List zE := [(308, .aload_n ⟨1, zfin1⟩, 309, (0, 0, 0, [])),
  (309, .aload_n ⟨0, zfin0⟩, 310, (0, 0, 0, [])),
  (310, .iload_n ⟨3, zfin3⟩, 311, (0, 0, 0, [])),
  (311, .iconst 1, 312, (0, 0, 0, [])),
  (312, .iadd, 313, (0, 0, 0, [])),
  (313, .iaload, 314, (0, 0, 0, [])),
  (314, .aload_n ⟨0, zfin0⟩, 315, (0, 0, 0, [])),
  (315, .iload_n ⟨3, zfin3⟩, 316, (0, 0, 0, [])),
  (316, .iconst 2, 317, (0, 0, 0, [])),
  (317, .iadd, 318, (0, 0, 0, [])),
  (318, .iaload, 319, (0, 0, 0, [])),
  (319, .invokevirtual 23, 322, (125, 3, 0, [11])),
  (322, .pop, 323, (0, 0, 0, [])),
  (323, .aload_n ⟨2, zfin2⟩, 324, (0, 0, 0, [])),
  (324, .aload_n ⟨0, zfin0⟩, 325, (0, 0, 0, [])),
  (325, .iload_n ⟨3, zfin3⟩, 326, (0, 0, 0, [])),
  (326, .iconst 1, 327, (0, 0, 0, [])),
  (327, .iadd, 328, (0, 0, 0, [])),
  (328, .iaload, 329, (0, 0, 0, [])),
  (329, .aload_n ⟨0, zfin0⟩, 330, (0, 0, 0, [])),
  (330, .iload_n ⟨3, zfin3⟩, 331, (0, 0, 0, [])),
  (331, .iconst 2, 332, (0, 0, 0, [])),
  (332, .iadd, 333, (0, 0, 0, [])),
  (333, .iaload, 334, (0, 0, 0, [])),
  (334, .invokevirtual 27, 337, (189, 3, 0, [12])),
  (337, .pop, 338, (0, 0, 0, [])),
  (338, .goto (1820), 341, (2158, 0, 0, []))]
set_option maxRecDepth 100000 in
theorem sh_2 : zSeg zk_L_law sg_2 := zSeg_of 86 27 308 (by decide +kernel) rfl (by decide +kernel)
set_option maxRecDepth 100000 in
theorem qL_2 (hJ : qJ M) (hn : n ≤ 4096) (hi : 0 ≤ i ∧ i + 8 ≤ n) (K : ∀ M', qJ M' → zG n (114, 4080270) 300 311 (2158, [zR 0, zR 8, zR 97, .inl i], []) M' qLQ) : zG n (114, 4080270) 300 311 (308, [zR 0, zR 8, zR 97, .inl i], []) M qLQ := by
  have hz : zP 311 = (zk_L_law, 4, (114, 4080270)) := rfl
  have hg := sh_2
  refine zG_blk (c' := (313, [zR 0, zR 8, zR 97, .inl i], [.inl (i + 1), zR 0, zR 8])) 5 (by decide) hz (zsteps_seg hg (by rw [show (.inl (i + 1) : zV) = .inl (w32 (i + 1)) from by rw [w32_id (by omega)]]; rfl)) ?_
  refine zG_iald (by decide) hz (hg _ _ rfl) rfl (.inr rfl) (by omega) ?_
  obtain ⟨x1, hx1⟩ : ∃ x : Int, x = M 0 (i + 1).toNat := ⟨_, rfl⟩
  rw [← hx1]
  have hr1 : qin x1 := by rw [hx1]; exact hJ.1.rng 0 _ (by decide) (by decide)
  show zG n (114, 4080270) 300 311 (314, [zR 0, zR 8, zR 97, .inl i], [.inl x1, zR 8]) M _
  refine zG_blk (c' := (318, [zR 0, zR 8, zR 97, .inl i], [.inl (i + 2), zR 0, .inl x1, zR 8])) 4 (by decide) hz (zsteps_seg hg (by rw [show (.inl (i + 2) : zV) = .inl (w32 (i + 2)) from by rw [w32_id (by omega)]]; rfl)) ?_
  refine zG_iald (by decide) hz (hg _ _ rfl) rfl (.inr rfl) (by omega) ?_
  obtain ⟨x2, hx2⟩ : ∃ x : Int, x = M 0 (i + 2).toNat := ⟨_, rfl⟩
  rw [← hx2]
  have hr2 : qin x2 := by rw [hx2]; exact hJ.1.rng 0 _ (by decide) (by decide)
  show zG n (114, 4080270) 300 311 (319, [zR 0, zR 8, zR 97, .inl i], [.inl x2, .inl x1, zR 8]) M _
  refine zG_call (by decide) hz (rfl : zP 125 = (zk_X10_board, 4, (0, 0))) (hg _ _ rfl) rfl (Nat.le_of_ble_eq_true rfl) ⟨Nat.le_of_ble_eq_true rfl, Nat.le_of_ble_eq_true rfl⟩ (zG.andH (qm_125_8 (by decide) hJ.1 x1 (by omega) x2 (by omega)) (fh_125_8 x1 x2)) (fun vr M1 hr => ?_)
  obtain ⟨⟨⟨hC1, hF1⟩, -⟩, rfl, hM1⟩ := hr
  have hi := hF1.hi rfl
  have hI := hJ.2.1.same hi
  have hc0 : ∀ j, M1 0 j = M 0 j := fun j => hF1 0 j (by decide)
  show zG n (114, 4080270) 300 311 (322, [zR 0, zR 8, zR 97, .inl i], [.inl (hf_125_8 M x1 x2).1]) M1 _
  refine zG_blk (c' := (328, [zR 0, zR 8, zR 97, .inl i], [.inl (i + 1), zR 0, zR 97])) 6 (by decide) hz (zsteps_seg hg (by rw [show (.inl (i + 1) : zV) = .inl (w32 (i + 1)) from by rw [w32_id (by omega)]]; rfl)) ?_
  refine zG_iald (by decide) hz (hg _ _ rfl) rfl (.inr rfl) (by omega) ?_
  rw [show M1 0 (i + 1).toNat = x1 from (hc0 _).trans hx1.symm]
  show zG n (114, 4080270) 300 311 (329, [zR 0, zR 8, zR 97, .inl i], [.inl x1, zR 97]) M1 _
  refine zG_blk (c' := (333, [zR 0, zR 8, zR 97, .inl i], [.inl (i + 2), zR 0, .inl x1, zR 97])) 4 (by decide) hz (zsteps_seg hg (by rw [show (.inl (i + 2) : zV) = .inl (w32 (i + 2)) from by rw [w32_id (by omega)]]; rfl)) ?_
  refine zG_iald (by decide) hz (hg _ _ rfl) rfl (.inr rfl) (by omega) ?_
  rw [show M1 0 (i + 2).toNat = x2 from (hc0 _).trans hx2.symm]
  show zG n (114, 4080270) 300 311 (334, [zR 0, zR 8, zR 97, .inl i], [.inl x2, .inl x1, zR 97]) M1 _
  refine zG_call (by decide) hz (rfl : zP 189 = (zk_X11_board, 3, (0, 0))) (hg _ _ rfl) rfl (Nat.le_of_ble_eq_true rfl) ⟨Nat.le_of_ble_eq_true rfl, Nat.le_of_ble_eq_true rfl⟩ (zG.andH (qm_189_97 (by decide) hI x1 (by omega) x2 (by omega)) (fh_189_97 x1 x2)) (fun vr M2 hr => ?_)
  obtain ⟨⟨⟨hC2, hF2⟩, -⟩, rfl, hM2⟩ := hr
  have hm := hm_125 hJ.2.2.1 hJ.1.tb hJ.2.1.bd (a1 := x1) (a2 := x2)
  rw [← hM1] at hm
  rw [← hM2] at hm
  have hJ2 : qJ M2 := hJ.mut hC1 hF1 rfl rfl hC2 hF2 rfl (by decide) hm.2
  show zG n (114, 4080270) 300 311 (337, [zR 0, zR 8, zR 97, .inl i], [.inl (hf_189_97 M1 x1 x2).1]) M2 _
  refine zG_blk (c' := (2158, [zR 0, zR 8, zR 97, .inl i], [])) 2 (by decide) hz (zsteps_seg hg rfl) ?_
  exact K M2 hJ2
def sg_3 : List zE := [(341, .aload_n ⟨1, zfin1⟩, 342, (0, 0, 0, [])),
  (342, .aload_n ⟨0, zfin0⟩, 343, (0, 0, 0, [])),
  (343, .iload_n ⟨3, zfin3⟩, 344, (0, 0, 0, [])),
  (344, .iconst 1, 345, (0, 0, 0, [])),
  (345, .iadd, 346, (0, 0, 0, [])),
  (346, .iaload, 347, (0, 0, 0, [])),
  (347, .aload_n ⟨0, zfin0⟩, 348, (0, 0, 0, [])),
  (348, .iload_n ⟨3, zfin3⟩, 349, (0, 0, 0, [])),
  (349, .iconst 2, 350, (0, 0, 0, [])),
  (350, .iadd, 351, (0, 0, 0, [])),
  (351, .iaload, 352, (0, 0, 0, [])),
  (352, .aload_n ⟨0, zfin0⟩, 353, (0, 0, 0, [])),
  (353, .iload_n ⟨3, zfin3⟩, 354, (0, 0, 0, [])),
  (354, .iconst 3, 355, (0, 0, 0, [])),
  (355, .iadd, 356, (0, 0, 0, [])),
  (356, .iaload, 357, (0, 0, 0, [])),
  (357, .aload_n ⟨0, zfin0⟩, 358, (0, 0, 0, [])),
  (358, .iload_n ⟨3, zfin3⟩, 359, (0, 0, 0, [])),
  (359, .iconst 4, 360, (0, 0, 0, [])),
  (360, .iadd, 361, (0, 0, 0, [])),
  (361, .iaload, 362, (0, 0, 0, [])),
  (362, .invokevirtual 28, 365, (126, 5, 0, [11])),
  (365, .aload_n ⟨2, zfin2⟩, 366, (0, 0, 0, [])),
  (366, .aload_n ⟨0, zfin0⟩, 367, (0, 0, 0, [])),
  (367, .iload_n ⟨3, zfin3⟩, 368, (0, 0, 0, [])),
  (368, .iconst 1, 369, (0, 0, 0, [])),
  (369, .iadd, 370, (0, 0, 0, [])),
  (370, .iaload, 371, (0, 0, 0, [])),
  (371, .aload_n ⟨0, zfin0⟩, 372, (0, 0, 0, [])),
  (372, .iload_n ⟨3, zfin3⟩, 373, (0, 0, 0, [])),
  (373, .iconst 2, 374, (0, 0, 0, [])),
  (374, .iadd, 375, (0, 0, 0, [])),
  (375, .iaload, 376, (0, 0, 0, [])),
  (376, .aload_n ⟨0, zfin0⟩, 377, (0, 0, 0, [])),
  (377, .iload_n ⟨3, zfin3⟩, 378, (0, 0, 0, [])),
  (378, .iconst 3, 379, (0, 0, 0, [])),
  (379, .iadd, 380, (0, 0, 0, [])),
  (380, .iaload, 381, (0, 0, 0, [])),
  (381, .aload_n ⟨0, zfin0⟩, 382, (0, 0, 0, [])),
  (382, .iload_n ⟨3, zfin3⟩, 383, (0, 0, 0, [])),
  (383, .iconst 4, 384, (0, 0, 0, [])),
  (384, .iadd, 385, (0, 0, 0, [])),
  (385, .iaload, 386, (0, 0, 0, [])),
  (386, .invokevirtual 31, 389, (190, 5, 0, [12])),
  (389, .if_icmp .eq (1769), 392, (2158, 0, 0, [])),
  (392, .iconst 0, 393, (0, 0, 0, [])),
  (393, .ireturn, 394, (2, 0, 0, [])),
  (394, .aload_n ⟨1, zfin1⟩, 395, (0, 0, 0, [])),
  (395, .aload_n ⟨0, zfin0⟩, 396, (0, 0, 0, [])),
  (396, .iload_n ⟨3, zfin3⟩, 397, (0, 0, 0, [])),
  (397, .iconst 1, 398, (0, 0, 0, [])),
  (398, .iadd, 399, (0, 0, 0, [])),
  (399, .iaload, 400, (0, 0, 0, [])),
  (400, .aload_n ⟨0, zfin0⟩, 401, (0, 0, 0, [])),
  (401, .iload_n ⟨3, zfin3⟩, 402, (0, 0, 0, [])),
  (402, .iconst 2, 403, (0, 0, 0, [])),
  (403, .iadd, 404, (0, 0, 0, [])),
  (404, .iaload, 405, (0, 0, 0, [])),
  (405, .ifCond .eq (7), 408, (412, 0, 0, [])),
  (408, .iconst 1, 409, (0, 0, 0, [])),
  (409, .goto (4), 412, (413, 0, 0, [])),
  (412, .iconst 0, 413, (0, 0, 0, [])),
  (413, .invokevirtual 32, 416, (127, 3, 0, [11])),
  (416, .pop, 417, (0, 0, 0, [])),
  (417, .aload_n ⟨2, zfin2⟩, 418, (0, 0, 0, [])),
  (418, .aload_n ⟨0, zfin0⟩, 419, (0, 0, 0, [])),
  (419, .iload_n ⟨3, zfin3⟩, 420, (0, 0, 0, [])),
  (420, .iconst 1, 421, (0, 0, 0, [])),
  (421, .iadd, 422, (0, 0, 0, [])),
  (422, .iaload, 423, (0, 0, 0, [])),
  (423, .aload_n ⟨0, zfin0⟩, 424, (0, 0, 0, [])),
  (424, .iload_n ⟨3, zfin3⟩, 425, (0, 0, 0, [])),
  (425, .iconst 2, 426, (0, 0, 0, [])),
  (426, .iadd, 427, (0, 0, 0, [])),
  (427, .iaload, 428, (0, 0, 0, [])),
  (428, .ifCond .eq (7), 431, (435, 0, 0, [])),
  (431, .iconst 1, 432, (0, 0, 0, [])),
  (432, .goto (4), 435, (436, 0, 0, [])),
  (435, .iconst 0, 436, (0, 0, 0, [])),
  (436, .invokevirtual 36, 439, (191, 3, 0, [12])),
  (439, .pop, 440, (0, 0, 0, [])),
  (440, .goto (1718), 443, (2158, 0, 0, []))]
set_option maxRecDepth 100000 in
theorem sh_3 : zSeg zk_L_law sg_3 := zSeg_of 113 82 341 (by decide +kernel) rfl (by decide +kernel)
set_option maxRecDepth 100000 in
theorem qL_3 (hJ : qJ M) (hn : n ≤ 4096) (hi : 0 ≤ i ∧ i + 8 ≤ n) (K : ∀ M', qJ M' → zG n (114, 4080270) 300 311 (2158, [zR 0, zR 8, zR 97, .inl i], []) M' qLQ) : zG n (114, 4080270) 300 311 (341, [zR 0, zR 8, zR 97, .inl i], []) M qLQ := by
  have hz : zP 311 = (zk_L_law, 4, (114, 4080270)) := rfl
  have hg := sh_3
  refine zG_blk (c' := (346, [zR 0, zR 8, zR 97, .inl i], [.inl (i + 1), zR 0, zR 8])) 5 (by decide) hz (zsteps_seg hg (by rw [show (.inl (i + 1) : zV) = .inl (w32 (i + 1)) from by rw [w32_id (by omega)]]; rfl)) ?_
  refine zG_iald (by decide) hz (hg _ _ rfl) rfl (.inr rfl) (by omega) ?_
  obtain ⟨x1, hx1⟩ : ∃ x : Int, x = M 0 (i + 1).toNat := ⟨_, rfl⟩
  rw [← hx1]
  have hr1 : qin x1 := by rw [hx1]; exact hJ.1.rng 0 _ (by decide) (by decide)
  show zG n (114, 4080270) 300 311 (347, [zR 0, zR 8, zR 97, .inl i], [.inl x1, zR 8]) M _
  refine zG_blk (c' := (351, [zR 0, zR 8, zR 97, .inl i], [.inl (i + 2), zR 0, .inl x1, zR 8])) 4 (by decide) hz (zsteps_seg hg (by rw [show (.inl (i + 2) : zV) = .inl (w32 (i + 2)) from by rw [w32_id (by omega)]]; rfl)) ?_
  refine zG_iald (by decide) hz (hg _ _ rfl) rfl (.inr rfl) (by omega) ?_
  obtain ⟨x2, hx2⟩ : ∃ x : Int, x = M 0 (i + 2).toNat := ⟨_, rfl⟩
  rw [← hx2]
  have hr2 : qin x2 := by rw [hx2]; exact hJ.1.rng 0 _ (by decide) (by decide)
  show zG n (114, 4080270) 300 311 (352, [zR 0, zR 8, zR 97, .inl i], [.inl x2, .inl x1, zR 8]) M _
  refine zG_blk (c' := (356, [zR 0, zR 8, zR 97, .inl i], [.inl (i + 3), zR 0, .inl x2, .inl x1, zR 8])) 4 (by decide) hz (zsteps_seg hg (by rw [show (.inl (i + 3) : zV) = .inl (w32 (i + 3)) from by rw [w32_id (by omega)]]; rfl)) ?_
  refine zG_iald (by decide) hz (hg _ _ rfl) rfl (.inr rfl) (by omega) ?_
  obtain ⟨x3, hx3⟩ : ∃ x : Int, x = M 0 (i + 3).toNat := ⟨_, rfl⟩
  rw [← hx3]
  have hr3 : qin x3 := by rw [hx3]; exact hJ.1.rng 0 _ (by decide) (by decide)
  show zG n (114, 4080270) 300 311 (357, [zR 0, zR 8, zR 97, .inl i], [.inl x3, .inl x2, .inl x1, zR 8]) M _
  refine zG_blk (c' := (361, [zR 0, zR 8, zR 97, .inl i], [.inl (i + 4), zR 0, .inl x3, .inl x2, .inl x1, zR 8])) 4 (by decide) hz (zsteps_seg hg (by rw [show (.inl (i + 4) : zV) = .inl (w32 (i + 4)) from by rw [w32_id (by omega)]]; rfl)) ?_
  refine zG_iald (by decide) hz (hg _ _ rfl) rfl (.inr rfl) (by omega) ?_
  obtain ⟨x4, hx4⟩ : ∃ x : Int, x = M 0 (i + 4).toNat := ⟨_, rfl⟩
  rw [← hx4]
  have hr4 : qin x4 := by rw [hx4]; exact hJ.1.rng 0 _ (by decide) (by decide)
  show zG n (114, 4080270) 300 311 (362, [zR 0, zR 8, zR 97, .inl i], [.inl x4, .inl x3, .inl x2, .inl x1, zR 8]) M _
  refine zG_call (by decide) hz (rfl : zP 126 = (zk_X10_meeting, 6, (0, 0))) (hg _ _ rfl) rfl (Nat.le_of_ble_eq_true rfl) ⟨Nat.le_of_ble_eq_true rfl, Nat.le_of_ble_eq_true rfl⟩ (zG.andH (qm_126_8 (by decide) hJ.1 x1 (by omega) x2 (by omega) x3 (by omega) x4 (by omega)) (fh_126_8 x1 x2 x3 x4)) (fun vr M1 hr => ?_)
  obtain ⟨⟨⟨hC1, hF1⟩, -⟩, rfl, hM1⟩ := hr
  have hi := hF1.hi rfl
  have hI := hJ.2.1.same hi
  have hc0 : ∀ j, M1 0 j = M 0 j := fun j => hF1 0 j (by decide)
  show zG n (114, 4080270) 300 311 (365, [zR 0, zR 8, zR 97, .inl i], [.inl (hf_126_8 M x1 x2 x3 x4).1]) M1 _
  refine zG_blk (c' := (370, [zR 0, zR 8, zR 97, .inl i], [.inl (i + 1), zR 0, zR 97, .inl (hf_126_8 M x1 x2 x3 x4).1])) 5 (by decide) hz (zsteps_seg hg (by rw [show (.inl (i + 1) : zV) = .inl (w32 (i + 1)) from by rw [w32_id (by omega)]]; rfl)) ?_
  refine zG_iald (by decide) hz (hg _ _ rfl) rfl (.inr rfl) (by omega) ?_
  rw [show M1 0 (i + 1).toNat = x1 from (hc0 _).trans hx1.symm]
  show zG n (114, 4080270) 300 311 (371, [zR 0, zR 8, zR 97, .inl i], [.inl x1, zR 97, .inl (hf_126_8 M x1 x2 x3 x4).1]) M1 _
  refine zG_blk (c' := (375, [zR 0, zR 8, zR 97, .inl i], [.inl (i + 2), zR 0, .inl x1, zR 97, .inl (hf_126_8 M x1 x2 x3 x4).1])) 4 (by decide) hz (zsteps_seg hg (by rw [show (.inl (i + 2) : zV) = .inl (w32 (i + 2)) from by rw [w32_id (by omega)]]; rfl)) ?_
  refine zG_iald (by decide) hz (hg _ _ rfl) rfl (.inr rfl) (by omega) ?_
  rw [show M1 0 (i + 2).toNat = x2 from (hc0 _).trans hx2.symm]
  show zG n (114, 4080270) 300 311 (376, [zR 0, zR 8, zR 97, .inl i], [.inl x2, .inl x1, zR 97, .inl (hf_126_8 M x1 x2 x3 x4).1]) M1 _
  refine zG_blk (c' := (380, [zR 0, zR 8, zR 97, .inl i], [.inl (i + 3), zR 0, .inl x2, .inl x1, zR 97, .inl (hf_126_8 M x1 x2 x3 x4).1])) 4 (by decide) hz (zsteps_seg hg (by rw [show (.inl (i + 3) : zV) = .inl (w32 (i + 3)) from by rw [w32_id (by omega)]]; rfl)) ?_
  refine zG_iald (by decide) hz (hg _ _ rfl) rfl (.inr rfl) (by omega) ?_
  rw [show M1 0 (i + 3).toNat = x3 from (hc0 _).trans hx3.symm]
  show zG n (114, 4080270) 300 311 (381, [zR 0, zR 8, zR 97, .inl i], [.inl x3, .inl x2, .inl x1, zR 97, .inl (hf_126_8 M x1 x2 x3 x4).1]) M1 _
  refine zG_blk (c' := (385, [zR 0, zR 8, zR 97, .inl i], [.inl (i + 4), zR 0, .inl x3, .inl x2, .inl x1, zR 97, .inl (hf_126_8 M x1 x2 x3 x4).1])) 4 (by decide) hz (zsteps_seg hg (by rw [show (.inl (i + 4) : zV) = .inl (w32 (i + 4)) from by rw [w32_id (by omega)]]; rfl)) ?_
  refine zG_iald (by decide) hz (hg _ _ rfl) rfl (.inr rfl) (by omega) ?_
  rw [show M1 0 (i + 4).toNat = x4 from (hc0 _).trans hx4.symm]
  show zG n (114, 4080270) 300 311 (386, [zR 0, zR 8, zR 97, .inl i], [.inl x4, .inl x3, .inl x2, .inl x1, zR 97, .inl (hf_126_8 M x1 x2 x3 x4).1]) M1 _
  refine zG_call (by decide) hz (rfl : zP 190 = (zk_X11_meeting, 6, (0, 0))) (hg _ _ rfl) rfl (Nat.le_of_ble_eq_true rfl) ⟨Nat.le_of_ble_eq_true rfl, Nat.le_of_ble_eq_true rfl⟩ (zG.andH (qm_190_97 (by decide) hI x1 (by omega) x2 (by omega) x3 (by omega) x4 (by omega)) (fh_190_97 x1 x2 x3 x4)) (fun vr M2 hr => ?_)
  obtain ⟨⟨⟨hC2, hF2⟩, -⟩, rfl, hM2⟩ := hr
  have hm := hm_126 hJ.2.2.1 hJ.1.tb hJ.2.1.bd (a1 := x1) (a2 := x2) (a3 := x3) (a4 := x4)
  rw [← hM1] at hm
  rw [← hM2] at hm
  have hJ2 : qJ M2 := hJ.mut hC1 hF1 rfl rfl hC2 hF2 rfl (by decide) hm.2
  show zG n (114, 4080270) 300 311 (389, [zR 0, zR 8, zR 97, .inl i], [.inl (hf_190_97 M1 x1 x2 x3 x4).1, .inl (hf_126_8 M x1 x2 x3 x4).1]) M2 _
  refine zG_icmp_eq (by decide) hz (hg _ _ rfl) (fun _ => ?_) (fun hne => absurd hm.1 hne)
  exact K M2 hJ2
def sg_4 : List zE := [(394, .aload_n ⟨1, zfin1⟩, 395, (0, 0, 0, [])),
  (395, .aload_n ⟨0, zfin0⟩, 396, (0, 0, 0, [])),
  (396, .iload_n ⟨3, zfin3⟩, 397, (0, 0, 0, [])),
  (397, .iconst 1, 398, (0, 0, 0, [])),
  (398, .iadd, 399, (0, 0, 0, [])),
  (399, .iaload, 400, (0, 0, 0, [])),
  (400, .aload_n ⟨0, zfin0⟩, 401, (0, 0, 0, [])),
  (401, .iload_n ⟨3, zfin3⟩, 402, (0, 0, 0, [])),
  (402, .iconst 2, 403, (0, 0, 0, [])),
  (403, .iadd, 404, (0, 0, 0, [])),
  (404, .iaload, 405, (0, 0, 0, [])),
  (405, .ifCond .eq (7), 408, (412, 0, 0, [])),
  (408, .iconst 1, 409, (0, 0, 0, [])),
  (409, .goto (4), 412, (413, 0, 0, [])),
  (412, .iconst 0, 413, (0, 0, 0, [])),
  (413, .invokevirtual 32, 416, (127, 3, 0, [11])),
  (416, .pop, 417, (0, 0, 0, [])),
  (417, .aload_n ⟨2, zfin2⟩, 418, (0, 0, 0, [])),
  (418, .aload_n ⟨0, zfin0⟩, 419, (0, 0, 0, [])),
  (419, .iload_n ⟨3, zfin3⟩, 420, (0, 0, 0, [])),
  (420, .iconst 1, 421, (0, 0, 0, [])),
  (421, .iadd, 422, (0, 0, 0, [])),
  (422, .iaload, 423, (0, 0, 0, [])),
  (423, .aload_n ⟨0, zfin0⟩, 424, (0, 0, 0, [])),
  (424, .iload_n ⟨3, zfin3⟩, 425, (0, 0, 0, [])),
  (425, .iconst 2, 426, (0, 0, 0, [])),
  (426, .iadd, 427, (0, 0, 0, [])),
  (427, .iaload, 428, (0, 0, 0, [])),
  (428, .ifCond .eq (7), 431, (435, 0, 0, [])),
  (431, .iconst 1, 432, (0, 0, 0, [])),
  (432, .goto (4), 435, (436, 0, 0, [])),
  (435, .iconst 0, 436, (0, 0, 0, [])),
  (436, .invokevirtual 36, 439, (191, 3, 0, [12])),
  (439, .pop, 440, (0, 0, 0, [])),
  (440, .goto (1718), 443, (2158, 0, 0, []))]
set_option maxRecDepth 100000 in
theorem sh_4 : zSeg zk_L_law sg_4 := zSeg_of 160 35 394 (by decide +kernel) rfl (by decide +kernel)
set_option maxRecDepth 100000 in
theorem qL_4 (hJ : qJ M) (hn : n ≤ 4096) (hi : 0 ≤ i ∧ i + 8 ≤ n) (K : ∀ M', qJ M' → zG n (114, 4080270) 300 311 (2158, [zR 0, zR 8, zR 97, .inl i], []) M' qLQ) : zG n (114, 4080270) 300 311 (394, [zR 0, zR 8, zR 97, .inl i], []) M qLQ := by
  have hz : zP 311 = (zk_L_law, 4, (114, 4080270)) := rfl
  have hg := sh_4
  refine zG_blk (c' := (399, [zR 0, zR 8, zR 97, .inl i], [.inl (i + 1), zR 0, zR 8])) 5 (by decide) hz (zsteps_seg hg (by rw [show (.inl (i + 1) : zV) = .inl (w32 (i + 1)) from by rw [w32_id (by omega)]]; rfl)) ?_
  refine zG_iald (by decide) hz (hg _ _ rfl) rfl (.inr rfl) (by omega) ?_
  obtain ⟨x1, hx1⟩ : ∃ x : Int, x = M 0 (i + 1).toNat := ⟨_, rfl⟩
  rw [← hx1]
  have hr1 : qin x1 := by rw [hx1]; exact hJ.1.rng 0 _ (by decide) (by decide)
  show zG n (114, 4080270) 300 311 (400, [zR 0, zR 8, zR 97, .inl i], [.inl x1, zR 8]) M _
  refine zG_blk (c' := (404, [zR 0, zR 8, zR 97, .inl i], [.inl (i + 2), zR 0, .inl x1, zR 8])) 4 (by decide) hz (zsteps_seg hg (by rw [show (.inl (i + 2) : zV) = .inl (w32 (i + 2)) from by rw [w32_id (by omega)]]; rfl)) ?_
  refine zG_iald (by decide) hz (hg _ _ rfl) rfl (.inr rfl) (by omega) ?_
  obtain ⟨x2, hx2⟩ : ∃ x : Int, x = M 0 (i + 2).toNat := ⟨_, rfl⟩
  rw [← hx2]
  have hr2 : qin x2 := by rw [hx2]; exact hJ.1.rng 0 _ (by decide) (by decide)
  show zG n (114, 4080270) 300 311 (405, [zR 0, zR 8, zR 97, .inl i], [.inl x2, .inl x1, zR 8]) M _
  have j413 : ∀ b405 : Int, ((x2 = 0 ∧ b405 = 0) ∨ (¬ x2 = 0 ∧ b405 = 1)) → zG n (114, 4080270) 300 311 (413, [zR 0, zR 8, zR 97, .inl i], [.inl b405, .inl x1, zR 8]) M qLQ := by
    intro b405 hb405
    refine zG_call (by decide) hz (rfl : zP 127 = (zk_X10_tear, 4, (0, 0))) (hg _ _ rfl) rfl (Nat.le_of_ble_eq_true rfl) ⟨Nat.le_of_ble_eq_true rfl, Nat.le_of_ble_eq_true rfl⟩ (zG.andH (qm_127_8 (by decide) hJ.1 x1 (by omega) b405 (by omega)) (fh_127_8 x1 b405)) (fun vr M1 hr => ?_)
    obtain ⟨⟨⟨hC1, hF1⟩, -⟩, rfl, hM1⟩ := hr
    have hi := hF1.hi rfl
    have hI := hJ.2.1.same hi
    have hc0 : ∀ j, M1 0 j = M 0 j := fun j => hF1 0 j (by decide)
    show zG n (114, 4080270) 300 311 (416, [zR 0, zR 8, zR 97, .inl i], [.inl (hf_127_8 M x1 b405).1]) M1 _
    refine zG_blk (c' := (422, [zR 0, zR 8, zR 97, .inl i], [.inl (i + 1), zR 0, zR 97])) 6 (by decide) hz (zsteps_seg hg (by rw [show (.inl (i + 1) : zV) = .inl (w32 (i + 1)) from by rw [w32_id (by omega)]]; rfl)) ?_
    refine zG_iald (by decide) hz (hg _ _ rfl) rfl (.inr rfl) (by omega) ?_
    rw [show M1 0 (i + 1).toNat = x1 from (hc0 _).trans hx1.symm]
    show zG n (114, 4080270) 300 311 (423, [zR 0, zR 8, zR 97, .inl i], [.inl x1, zR 97]) M1 _
    refine zG_blk (c' := (427, [zR 0, zR 8, zR 97, .inl i], [.inl (i + 2), zR 0, .inl x1, zR 97])) 4 (by decide) hz (zsteps_seg hg (by rw [show (.inl (i + 2) : zV) = .inl (w32 (i + 2)) from by rw [w32_id (by omega)]]; rfl)) ?_
    refine zG_iald (by decide) hz (hg _ _ rfl) rfl (.inr rfl) (by omega) ?_
    rw [show M1 0 (i + 2).toNat = x2 from (hc0 _).trans hx2.symm]
    show zG n (114, 4080270) 300 311 (428, [zR 0, zR 8, zR 97, .inl i], [.inl x2, .inl x1, zR 97]) M1 _
    have j436 : zG n (114, 4080270) 300 311 (436, [zR 0, zR 8, zR 97, .inl i], [.inl b405, .inl x1, zR 97]) M1 qLQ := by
      refine zG_call (by decide) hz (rfl : zP 191 = (zk_X11_tear, 4, (0, 0))) (hg _ _ rfl) rfl (Nat.le_of_ble_eq_true rfl) ⟨Nat.le_of_ble_eq_true rfl, Nat.le_of_ble_eq_true rfl⟩ (zG.andH (qm_191_97 (by decide) hI x1 (by omega) b405 (by omega)) (fh_191_97 x1 b405)) (fun vr M2 hr => ?_)
      obtain ⟨⟨⟨hC2, hF2⟩, -⟩, rfl, hM2⟩ := hr
      have hm := hm_127 hJ.2.2.1 hJ.1.tb hJ.2.1.bd (a1 := x1) (a2 := b405) (by omega)
      rw [← hM1] at hm
      rw [← hM2] at hm
      have hJ2 : qJ M2 := hJ.mut hC1 hF1 rfl rfl hC2 hF2 rfl (by decide) hm.2
      show zG n (114, 4080270) 300 311 (439, [zR 0, zR 8, zR 97, .inl i], [.inl (hf_191_97 M1 x1 b405).1]) M2 _
      refine zG_blk (c' := (2158, [zR 0, zR 8, zR 97, .inl i], [])) 2 (by decide) hz (zsteps_seg hg rfl) ?_
      exact K M2 hJ2
    refine zG_if_eq (by decide) hz (hg _ _ rfl) (fun hb => ?_) (fun hb => ?_)
    · exact zG_blk (c' := (436, [zR 0, zR 8, zR 97, .inl i], [.inl b405, .inl x1, zR 97])) 1 (by decide) hz (zsteps_seg hg (by rw [show b405 = 0 by omega]; rfl)) j436
    · exact zG_blk (c' := (436, [zR 0, zR 8, zR 97, .inl i], [.inl b405, .inl x1, zR 97])) 2 (by decide) hz (zsteps_seg hg (by rw [show b405 = 1 by omega]; rfl)) j436
  refine zG_if_eq (by decide) hz (hg _ _ rfl) (fun hb => ?_) (fun hb => ?_)
  · exact zG_blk (c' := (413, [zR 0, zR 8, zR 97, .inl i], [.inl 0, .inl x1, zR 8])) 1 (by decide) hz (zsteps_seg hg rfl) (j413 0 (.inl ⟨hb, rfl⟩))
  · exact zG_blk (c' := (413, [zR 0, zR 8, zR 97, .inl i], [.inl 1, .inl x1, zR 8])) 2 (by decide) hz (zsteps_seg hg rfl) (j413 1 (.inr ⟨hb, rfl⟩))
def sg_5 : List zE := [(443, .aload_n ⟨1, zfin1⟩, 444, (0, 0, 0, [])),
  (444, .aload_n ⟨0, zfin0⟩, 445, (0, 0, 0, [])),
  (445, .iload_n ⟨3, zfin3⟩, 446, (0, 0, 0, [])),
  (446, .iconst 1, 447, (0, 0, 0, [])),
  (447, .iadd, 448, (0, 0, 0, [])),
  (448, .iaload, 449, (0, 0, 0, [])),
  (449, .invokevirtual 37, 452, (128, 2, 0, [11])),
  (452, .pop, 453, (0, 0, 0, [])),
  (453, .aload_n ⟨2, zfin2⟩, 454, (0, 0, 0, [])),
  (454, .aload_n ⟨0, zfin0⟩, 455, (0, 0, 0, [])),
  (455, .iload_n ⟨3, zfin3⟩, 456, (0, 0, 0, [])),
  (456, .iconst 1, 457, (0, 0, 0, [])),
  (457, .iadd, 458, (0, 0, 0, [])),
  (458, .iaload, 459, (0, 0, 0, [])),
  (459, .invokevirtual 40, 462, (193, 2, 0, [12])),
  (462, .pop, 463, (0, 0, 0, [])),
  (463, .goto (1695), 466, (2158, 0, 0, []))]
set_option maxRecDepth 100000 in
theorem sh_5 : zSeg zk_L_law sg_5 := zSeg_of 195 17 443 (by decide +kernel) rfl (by decide +kernel)
set_option maxRecDepth 100000 in
theorem qL_5 (hJ : qJ M) (hn : n ≤ 4096) (hi : 0 ≤ i ∧ i + 8 ≤ n) (K : ∀ M', qJ M' → zG n (114, 4080270) 300 311 (2158, [zR 0, zR 8, zR 97, .inl i], []) M' qLQ) : zG n (114, 4080270) 300 311 (443, [zR 0, zR 8, zR 97, .inl i], []) M qLQ := by
  have hz : zP 311 = (zk_L_law, 4, (114, 4080270)) := rfl
  have hg := sh_5
  refine zG_blk (c' := (448, [zR 0, zR 8, zR 97, .inl i], [.inl (i + 1), zR 0, zR 8])) 5 (by decide) hz (zsteps_seg hg (by rw [show (.inl (i + 1) : zV) = .inl (w32 (i + 1)) from by rw [w32_id (by omega)]]; rfl)) ?_
  refine zG_iald (by decide) hz (hg _ _ rfl) rfl (.inr rfl) (by omega) ?_
  obtain ⟨x1, hx1⟩ : ∃ x : Int, x = M 0 (i + 1).toNat := ⟨_, rfl⟩
  rw [← hx1]
  have hr1 : qin x1 := by rw [hx1]; exact hJ.1.rng 0 _ (by decide) (by decide)
  show zG n (114, 4080270) 300 311 (449, [zR 0, zR 8, zR 97, .inl i], [.inl x1, zR 8]) M _
  refine zG_call (by decide) hz (rfl : zP 128 = (zk_X10_stands, 2, (0, 0))) (hg _ _ rfl) rfl (Nat.le_of_ble_eq_true rfl) ⟨Nat.le_of_ble_eq_true rfl, Nat.le_of_ble_eq_true rfl⟩ (qm_128_8 (by decide) hJ.1 x1 (by omega)) (fun vr M1 hr => ?_)
  obtain ⟨hq, hr⟩ := hr
  replace hq := hq.symm; subst hq
  have hc0 : ∀ j, M 0 j = M 0 j := fun _ => rfl
  obtain ⟨r1, rfl, -⟩ := hr
  show zG n (114, 4080270) 300 311 (452, [zR 0, zR 8, zR 97, .inl i], [.inl r1]) M _
  refine zG_blk (c' := (458, [zR 0, zR 8, zR 97, .inl i], [.inl (i + 1), zR 0, zR 97])) 6 (by decide) hz (zsteps_seg hg (by rw [show (.inl (i + 1) : zV) = .inl (w32 (i + 1)) from by rw [w32_id (by omega)]]; rfl)) ?_
  refine zG_iald (by decide) hz (hg _ _ rfl) rfl (.inr rfl) (by omega) ?_
  rw [show M 0 (i + 1).toNat = x1 from hx1.symm]
  show zG n (114, 4080270) 300 311 (459, [zR 0, zR 8, zR 97, .inl i], [.inl x1, zR 97]) M _
  refine zG_call (by decide) hz (rfl : zP 193 = (zk_X11_stands, 2, (0, 0))) (hg _ _ rfl) rfl (Nat.le_of_ble_eq_true rfl) ⟨Nat.le_of_ble_eq_true rfl, Nat.le_of_ble_eq_true rfl⟩ (qm_193_97 (by decide) hJ.2.1 x1 (by omega)) (fun vr M2 hr => ?_)
  obtain ⟨hq, hr⟩ := hr
  replace hq := hq.symm; subst hq
  obtain ⟨r2, hv9⟩ := hr
  first | (obtain ⟨rfl, -⟩ := hv9) | (obtain rfl := hv9)
  show zG n (114, 4080270) 300 311 (462, [zR 0, zR 8, zR 97, .inl i], [.inl r2]) M _
  refine zG_blk (c' := (2158, [zR 0, zR 8, zR 97, .inl i], [])) 2 (by decide) hz (zsteps_seg hg rfl) ?_
  exact K M hJ
def sg_6 : List zE := [(466, .aload_n ⟨1, zfin1⟩, 467, (0, 0, 0, [])),
  (467, .aload_n ⟨0, zfin0⟩, 468, (0, 0, 0, [])),
  (468, .iload_n ⟨3, zfin3⟩, 469, (0, 0, 0, [])),
  (469, .iconst 1, 470, (0, 0, 0, [])),
  (470, .iadd, 471, (0, 0, 0, [])),
  (471, .iaload, 472, (0, 0, 0, [])),
  (472, .aload_n ⟨0, zfin0⟩, 473, (0, 0, 0, [])),
  (473, .iload_n ⟨3, zfin3⟩, 474, (0, 0, 0, [])),
  (474, .iconst 2, 475, (0, 0, 0, [])),
  (475, .iadd, 476, (0, 0, 0, [])),
  (476, .iaload, 477, (0, 0, 0, [])),
  (477, .aload_n ⟨0, zfin0⟩, 478, (0, 0, 0, [])),
  (478, .iload_n ⟨3, zfin3⟩, 479, (0, 0, 0, [])),
  (479, .iconst 3, 480, (0, 0, 0, [])),
  (480, .iadd, 481, (0, 0, 0, [])),
  (481, .iaload, 482, (0, 0, 0, [])),
  (482, .aload_n ⟨0, zfin0⟩, 483, (0, 0, 0, [])),
  (483, .iload_n ⟨3, zfin3⟩, 484, (0, 0, 0, [])),
  (484, .iconst 4, 485, (0, 0, 0, [])),
  (485, .iadd, 486, (0, 0, 0, [])),
  (486, .iaload, 487, (0, 0, 0, [])),
  (487, .aload_n ⟨0, zfin0⟩, 488, (0, 0, 0, [])),
  (488, .iload_n ⟨3, zfin3⟩, 489, (0, 0, 0, [])),
  (489, .iconst 5, 490, (0, 0, 0, [])),
  (490, .iadd, 491, (0, 0, 0, [])),
  (491, .iaload, 492, (0, 0, 0, [])),
  (492, .aload_n ⟨0, zfin0⟩, 493, (0, 0, 0, [])),
  (493, .iload_n ⟨3, zfin3⟩, 494, (0, 0, 0, [])),
  (494, .bipush (6), 496, (0, 0, 0, [])),
  (496, .iadd, 497, (0, 0, 0, [])),
  (497, .iaload, 498, (0, 0, 0, [])),
  (498, .invokevirtual 41, 501, (129, 7, 0, [11])),
  (501, .pop, 502, (0, 0, 0, [])),
  (502, .aload_n ⟨2, zfin2⟩, 503, (0, 0, 0, [])),
  (503, .aload_n ⟨0, zfin0⟩, 504, (0, 0, 0, [])),
  (504, .iload_n ⟨3, zfin3⟩, 505, (0, 0, 0, [])),
  (505, .iconst 1, 506, (0, 0, 0, [])),
  (506, .iadd, 507, (0, 0, 0, [])),
  (507, .iaload, 508, (0, 0, 0, [])),
  (508, .aload_n ⟨0, zfin0⟩, 509, (0, 0, 0, [])),
  (509, .iload_n ⟨3, zfin3⟩, 510, (0, 0, 0, [])),
  (510, .iconst 2, 511, (0, 0, 0, [])),
  (511, .iadd, 512, (0, 0, 0, [])),
  (512, .iaload, 513, (0, 0, 0, [])),
  (513, .aload_n ⟨0, zfin0⟩, 514, (0, 0, 0, [])),
  (514, .iload_n ⟨3, zfin3⟩, 515, (0, 0, 0, [])),
  (515, .iconst 3, 516, (0, 0, 0, [])),
  (516, .iadd, 517, (0, 0, 0, [])),
  (517, .iaload, 518, (0, 0, 0, [])),
  (518, .aload_n ⟨0, zfin0⟩, 519, (0, 0, 0, [])),
  (519, .iload_n ⟨3, zfin3⟩, 520, (0, 0, 0, [])),
  (520, .iconst 4, 521, (0, 0, 0, [])),
  (521, .iadd, 522, (0, 0, 0, [])),
  (522, .iaload, 523, (0, 0, 0, [])),
  (523, .aload_n ⟨0, zfin0⟩, 524, (0, 0, 0, [])),
  (524, .iload_n ⟨3, zfin3⟩, 525, (0, 0, 0, [])),
  (525, .iconst 5, 526, (0, 0, 0, [])),
  (526, .iadd, 527, (0, 0, 0, [])),
  (527, .iaload, 528, (0, 0, 0, [])),
  (528, .aload_n ⟨0, zfin0⟩, 529, (0, 0, 0, [])),
  (529, .iload_n ⟨3, zfin3⟩, 530, (0, 0, 0, [])),
  (530, .bipush (6), 532, (0, 0, 0, [])),
  (532, .iadd, 533, (0, 0, 0, [])),
  (533, .iaload, 534, (0, 0, 0, [])),
  (534, .invokevirtual 45, 537, (201, 7, 0, [12])),
  (537, .pop, 538, (0, 0, 0, [])),
  (538, .goto (1620), 541, (2158, 0, 0, []))]
set_option maxRecDepth 100000 in
theorem sh_6 : zSeg zk_L_law sg_6 := zSeg_of 212 67 466 (by decide +kernel) rfl (by decide +kernel)
set_option maxRecDepth 100000 in
theorem qL_6 (hJ : qJ M) (hn : n ≤ 4096) (hi : 0 ≤ i ∧ i + 8 ≤ n) (K : ∀ M', qJ M' → zG n (114, 4080270) 300 311 (2158, [zR 0, zR 8, zR 97, .inl i], []) M' qLQ) : zG n (114, 4080270) 300 311 (466, [zR 0, zR 8, zR 97, .inl i], []) M qLQ := by
  have hz : zP 311 = (zk_L_law, 4, (114, 4080270)) := rfl
  have hg := sh_6
  refine zG_blk (c' := (471, [zR 0, zR 8, zR 97, .inl i], [.inl (i + 1), zR 0, zR 8])) 5 (by decide) hz (zsteps_seg hg (by rw [show (.inl (i + 1) : zV) = .inl (w32 (i + 1)) from by rw [w32_id (by omega)]]; rfl)) ?_
  refine zG_iald (by decide) hz (hg _ _ rfl) rfl (.inr rfl) (by omega) ?_
  obtain ⟨x1, hx1⟩ : ∃ x : Int, x = M 0 (i + 1).toNat := ⟨_, rfl⟩
  rw [← hx1]
  have hr1 : qin x1 := by rw [hx1]; exact hJ.1.rng 0 _ (by decide) (by decide)
  show zG n (114, 4080270) 300 311 (472, [zR 0, zR 8, zR 97, .inl i], [.inl x1, zR 8]) M _
  refine zG_blk (c' := (476, [zR 0, zR 8, zR 97, .inl i], [.inl (i + 2), zR 0, .inl x1, zR 8])) 4 (by decide) hz (zsteps_seg hg (by rw [show (.inl (i + 2) : zV) = .inl (w32 (i + 2)) from by rw [w32_id (by omega)]]; rfl)) ?_
  refine zG_iald (by decide) hz (hg _ _ rfl) rfl (.inr rfl) (by omega) ?_
  obtain ⟨x2, hx2⟩ : ∃ x : Int, x = M 0 (i + 2).toNat := ⟨_, rfl⟩
  rw [← hx2]
  have hr2 : qin x2 := by rw [hx2]; exact hJ.1.rng 0 _ (by decide) (by decide)
  show zG n (114, 4080270) 300 311 (477, [zR 0, zR 8, zR 97, .inl i], [.inl x2, .inl x1, zR 8]) M _
  refine zG_blk (c' := (481, [zR 0, zR 8, zR 97, .inl i], [.inl (i + 3), zR 0, .inl x2, .inl x1, zR 8])) 4 (by decide) hz (zsteps_seg hg (by rw [show (.inl (i + 3) : zV) = .inl (w32 (i + 3)) from by rw [w32_id (by omega)]]; rfl)) ?_
  refine zG_iald (by decide) hz (hg _ _ rfl) rfl (.inr rfl) (by omega) ?_
  obtain ⟨x3, hx3⟩ : ∃ x : Int, x = M 0 (i + 3).toNat := ⟨_, rfl⟩
  rw [← hx3]
  have hr3 : qin x3 := by rw [hx3]; exact hJ.1.rng 0 _ (by decide) (by decide)
  show zG n (114, 4080270) 300 311 (482, [zR 0, zR 8, zR 97, .inl i], [.inl x3, .inl x2, .inl x1, zR 8]) M _
  refine zG_blk (c' := (486, [zR 0, zR 8, zR 97, .inl i], [.inl (i + 4), zR 0, .inl x3, .inl x2, .inl x1, zR 8])) 4 (by decide) hz (zsteps_seg hg (by rw [show (.inl (i + 4) : zV) = .inl (w32 (i + 4)) from by rw [w32_id (by omega)]]; rfl)) ?_
  refine zG_iald (by decide) hz (hg _ _ rfl) rfl (.inr rfl) (by omega) ?_
  obtain ⟨x4, hx4⟩ : ∃ x : Int, x = M 0 (i + 4).toNat := ⟨_, rfl⟩
  rw [← hx4]
  have hr4 : qin x4 := by rw [hx4]; exact hJ.1.rng 0 _ (by decide) (by decide)
  show zG n (114, 4080270) 300 311 (487, [zR 0, zR 8, zR 97, .inl i], [.inl x4, .inl x3, .inl x2, .inl x1, zR 8]) M _
  refine zG_blk (c' := (491, [zR 0, zR 8, zR 97, .inl i], [.inl (i + 5), zR 0, .inl x4, .inl x3, .inl x2, .inl x1, zR 8])) 4 (by decide) hz (zsteps_seg hg (by rw [show (.inl (i + 5) : zV) = .inl (w32 (i + 5)) from by rw [w32_id (by omega)]]; rfl)) ?_
  refine zG_iald (by decide) hz (hg _ _ rfl) rfl (.inr rfl) (by omega) ?_
  obtain ⟨x5, hx5⟩ : ∃ x : Int, x = M 0 (i + 5).toNat := ⟨_, rfl⟩
  rw [← hx5]
  have hr5 : qin x5 := by rw [hx5]; exact hJ.1.rng 0 _ (by decide) (by decide)
  show zG n (114, 4080270) 300 311 (492, [zR 0, zR 8, zR 97, .inl i], [.inl x5, .inl x4, .inl x3, .inl x2, .inl x1, zR 8]) M _
  refine zG_blk (c' := (497, [zR 0, zR 8, zR 97, .inl i], [.inl (i + 6), zR 0, .inl x5, .inl x4, .inl x3, .inl x2, .inl x1, zR 8])) 4 (by decide) hz (zsteps_seg hg (by rw [show (.inl (i + 6) : zV) = .inl (w32 (i + 6)) from by rw [w32_id (by omega)]]; rfl)) ?_
  refine zG_iald (by decide) hz (hg _ _ rfl) rfl (.inr rfl) (by omega) ?_
  obtain ⟨x6, hx6⟩ : ∃ x : Int, x = M 0 (i + 6).toNat := ⟨_, rfl⟩
  rw [← hx6]
  have hr6 : qin x6 := by rw [hx6]; exact hJ.1.rng 0 _ (by decide) (by decide)
  show zG n (114, 4080270) 300 311 (498, [zR 0, zR 8, zR 97, .inl i], [.inl x6, .inl x5, .inl x4, .inl x3, .inl x2, .inl x1, zR 8]) M _
  refine zG_call (by decide) hz (rfl : zP 129 = (zk_X10_mark, 8, (0, 0))) (hg _ _ rfl) rfl (Nat.le_of_ble_eq_true rfl) ⟨Nat.le_of_ble_eq_true rfl, Nat.le_of_ble_eq_true rfl⟩ (zG.andH (qm_129_8 (by decide) hJ.1 x1 (by omega) x2 (by omega) x3 (by omega) x4 (by omega) x5 (by omega) x6 (by omega)) (fh_129_8 x1 x2 x3 x4 x5 x6)) (fun vr M1 hr => ?_)
  obtain ⟨⟨⟨hC1, hF1⟩, -⟩, rfl, hM1⟩ := hr
  have hi := hF1.hi rfl
  have hI := hJ.2.1.same hi
  have hc0 : ∀ j, M1 0 j = M 0 j := fun j => hF1 0 j (by decide)
  show zG n (114, 4080270) 300 311 (501, [zR 0, zR 8, zR 97, .inl i], [.inl (hf_129_8 M x1 x2 x3 x4 x5 x6).1]) M1 _
  refine zG_blk (c' := (507, [zR 0, zR 8, zR 97, .inl i], [.inl (i + 1), zR 0, zR 97])) 6 (by decide) hz (zsteps_seg hg (by rw [show (.inl (i + 1) : zV) = .inl (w32 (i + 1)) from by rw [w32_id (by omega)]]; rfl)) ?_
  refine zG_iald (by decide) hz (hg _ _ rfl) rfl (.inr rfl) (by omega) ?_
  rw [show M1 0 (i + 1).toNat = x1 from (hc0 _).trans hx1.symm]
  show zG n (114, 4080270) 300 311 (508, [zR 0, zR 8, zR 97, .inl i], [.inl x1, zR 97]) M1 _
  refine zG_blk (c' := (512, [zR 0, zR 8, zR 97, .inl i], [.inl (i + 2), zR 0, .inl x1, zR 97])) 4 (by decide) hz (zsteps_seg hg (by rw [show (.inl (i + 2) : zV) = .inl (w32 (i + 2)) from by rw [w32_id (by omega)]]; rfl)) ?_
  refine zG_iald (by decide) hz (hg _ _ rfl) rfl (.inr rfl) (by omega) ?_
  rw [show M1 0 (i + 2).toNat = x2 from (hc0 _).trans hx2.symm]
  show zG n (114, 4080270) 300 311 (513, [zR 0, zR 8, zR 97, .inl i], [.inl x2, .inl x1, zR 97]) M1 _
  refine zG_blk (c' := (517, [zR 0, zR 8, zR 97, .inl i], [.inl (i + 3), zR 0, .inl x2, .inl x1, zR 97])) 4 (by decide) hz (zsteps_seg hg (by rw [show (.inl (i + 3) : zV) = .inl (w32 (i + 3)) from by rw [w32_id (by omega)]]; rfl)) ?_
  refine zG_iald (by decide) hz (hg _ _ rfl) rfl (.inr rfl) (by omega) ?_
  rw [show M1 0 (i + 3).toNat = x3 from (hc0 _).trans hx3.symm]
  show zG n (114, 4080270) 300 311 (518, [zR 0, zR 8, zR 97, .inl i], [.inl x3, .inl x2, .inl x1, zR 97]) M1 _
  refine zG_blk (c' := (522, [zR 0, zR 8, zR 97, .inl i], [.inl (i + 4), zR 0, .inl x3, .inl x2, .inl x1, zR 97])) 4 (by decide) hz (zsteps_seg hg (by rw [show (.inl (i + 4) : zV) = .inl (w32 (i + 4)) from by rw [w32_id (by omega)]]; rfl)) ?_
  refine zG_iald (by decide) hz (hg _ _ rfl) rfl (.inr rfl) (by omega) ?_
  rw [show M1 0 (i + 4).toNat = x4 from (hc0 _).trans hx4.symm]
  show zG n (114, 4080270) 300 311 (523, [zR 0, zR 8, zR 97, .inl i], [.inl x4, .inl x3, .inl x2, .inl x1, zR 97]) M1 _
  refine zG_blk (c' := (527, [zR 0, zR 8, zR 97, .inl i], [.inl (i + 5), zR 0, .inl x4, .inl x3, .inl x2, .inl x1, zR 97])) 4 (by decide) hz (zsteps_seg hg (by rw [show (.inl (i + 5) : zV) = .inl (w32 (i + 5)) from by rw [w32_id (by omega)]]; rfl)) ?_
  refine zG_iald (by decide) hz (hg _ _ rfl) rfl (.inr rfl) (by omega) ?_
  rw [show M1 0 (i + 5).toNat = x5 from (hc0 _).trans hx5.symm]
  show zG n (114, 4080270) 300 311 (528, [zR 0, zR 8, zR 97, .inl i], [.inl x5, .inl x4, .inl x3, .inl x2, .inl x1, zR 97]) M1 _
  refine zG_blk (c' := (533, [zR 0, zR 8, zR 97, .inl i], [.inl (i + 6), zR 0, .inl x5, .inl x4, .inl x3, .inl x2, .inl x1, zR 97])) 4 (by decide) hz (zsteps_seg hg (by rw [show (.inl (i + 6) : zV) = .inl (w32 (i + 6)) from by rw [w32_id (by omega)]]; rfl)) ?_
  refine zG_iald (by decide) hz (hg _ _ rfl) rfl (.inr rfl) (by omega) ?_
  rw [show M1 0 (i + 6).toNat = x6 from (hc0 _).trans hx6.symm]
  show zG n (114, 4080270) 300 311 (534, [zR 0, zR 8, zR 97, .inl i], [.inl x6, .inl x5, .inl x4, .inl x3, .inl x2, .inl x1, zR 97]) M1 _
  refine zG_call (by decide) hz (rfl : zP 201 = (zk_X11_mark, 7, (0, 0))) (hg _ _ rfl) rfl (Nat.le_of_ble_eq_true rfl) ⟨Nat.le_of_ble_eq_true rfl, Nat.le_of_ble_eq_true rfl⟩ (zG.andH (qm_201_97 (by decide) hI x1 (by omega) x2 (by omega) x3 (by omega) x4 (by omega) x5 (by omega) x6 (by omega)) (fh_201_97 x1 x2 x3 x4 x5 x6)) (fun vr M2 hr => ?_)
  obtain ⟨⟨⟨hC2, hF2⟩, -⟩, rfl, hM2⟩ := hr
  have hm := hm_129 hJ.2.2.1 hJ.1.tb hJ.2.1.bd (a1 := x1) (a2 := x2) (a3 := x3) (a4 := x4) (a5 := x5) (a6 := x6)
  rw [← hM1] at hm
  rw [← hM2] at hm
  have hJ2 : qJ M2 := hJ.mut hC1 hF1 rfl rfl hC2 hF2 rfl (by decide) hm.2
  show zG n (114, 4080270) 300 311 (537, [zR 0, zR 8, zR 97, .inl i], [.inl (hf_201_97 M1 x1 x2 x3 x4 x5 x6).1]) M2 _
  refine zG_blk (c' := (2158, [zR 0, zR 8, zR 97, .inl i], [])) 2 (by decide) hz (zsteps_seg hg rfl) ?_
  exact K M2 hJ2
def sg_7 : List zE := [(541, .aload_n ⟨1, zfin1⟩, 542, (0, 0, 0, [])),
  (542, .aload_n ⟨0, zfin0⟩, 543, (0, 0, 0, [])),
  (543, .iload_n ⟨3, zfin3⟩, 544, (0, 0, 0, [])),
  (544, .iconst 1, 545, (0, 0, 0, [])),
  (545, .iadd, 546, (0, 0, 0, [])),
  (546, .iaload, 547, (0, 0, 0, [])),
  (547, .aload_n ⟨0, zfin0⟩, 548, (0, 0, 0, [])),
  (548, .iload_n ⟨3, zfin3⟩, 549, (0, 0, 0, [])),
  (549, .iconst 2, 550, (0, 0, 0, [])),
  (550, .iadd, 551, (0, 0, 0, [])),
  (551, .iaload, 552, (0, 0, 0, [])),
  (552, .aload_n ⟨0, zfin0⟩, 553, (0, 0, 0, [])),
  (553, .iload_n ⟨3, zfin3⟩, 554, (0, 0, 0, [])),
  (554, .iconst 3, 555, (0, 0, 0, [])),
  (555, .iadd, 556, (0, 0, 0, [])),
  (556, .iaload, 557, (0, 0, 0, [])),
  (557, .aload_n ⟨0, zfin0⟩, 558, (0, 0, 0, [])),
  (558, .iload_n ⟨3, zfin3⟩, 559, (0, 0, 0, [])),
  (559, .iconst 4, 560, (0, 0, 0, [])),
  (560, .iadd, 561, (0, 0, 0, [])),
  (561, .iaload, 562, (0, 0, 0, [])),
  (562, .aload_n ⟨0, zfin0⟩, 563, (0, 0, 0, [])),
  (563, .iload_n ⟨3, zfin3⟩, 564, (0, 0, 0, [])),
  (564, .iconst 5, 565, (0, 0, 0, [])),
  (565, .iadd, 566, (0, 0, 0, [])),
  (566, .iaload, 567, (0, 0, 0, [])),
  (567, .invokevirtual 46, 570, (130, 6, 0, [11])),
  (570, .pop, 571, (0, 0, 0, [])),
  (571, .aload_n ⟨2, zfin2⟩, 572, (0, 0, 0, [])),
  (572, .aload_n ⟨0, zfin0⟩, 573, (0, 0, 0, [])),
  (573, .iload_n ⟨3, zfin3⟩, 574, (0, 0, 0, [])),
  (574, .iconst 1, 575, (0, 0, 0, [])),
  (575, .iadd, 576, (0, 0, 0, [])),
  (576, .iaload, 577, (0, 0, 0, [])),
  (577, .aload_n ⟨0, zfin0⟩, 578, (0, 0, 0, [])),
  (578, .iload_n ⟨3, zfin3⟩, 579, (0, 0, 0, [])),
  (579, .iconst 2, 580, (0, 0, 0, [])),
  (580, .iadd, 581, (0, 0, 0, [])),
  (581, .iaload, 582, (0, 0, 0, [])),
  (582, .aload_n ⟨0, zfin0⟩, 583, (0, 0, 0, [])),
  (583, .iload_n ⟨3, zfin3⟩, 584, (0, 0, 0, [])),
  (584, .iconst 3, 585, (0, 0, 0, [])),
  (585, .iadd, 586, (0, 0, 0, [])),
  (586, .iaload, 587, (0, 0, 0, [])),
  (587, .aload_n ⟨0, zfin0⟩, 588, (0, 0, 0, [])),
  (588, .iload_n ⟨3, zfin3⟩, 589, (0, 0, 0, [])),
  (589, .iconst 4, 590, (0, 0, 0, [])),
  (590, .iadd, 591, (0, 0, 0, [])),
  (591, .iaload, 592, (0, 0, 0, [])),
  (592, .aload_n ⟨0, zfin0⟩, 593, (0, 0, 0, [])),
  (593, .iload_n ⟨3, zfin3⟩, 594, (0, 0, 0, [])),
  (594, .iconst 5, 595, (0, 0, 0, [])),
  (595, .iadd, 596, (0, 0, 0, [])),
  (596, .iaload, 597, (0, 0, 0, [])),
  (597, .invokevirtual 50, 600, (202, 6, 0, [12])),
  (600, .pop, 601, (0, 0, 0, [])),
  (601, .goto (1557), 604, (2158, 0, 0, []))]
set_option maxRecDepth 100000 in
theorem sh_7 : zSeg zk_L_law sg_7 := zSeg_of 279 57 541 (by decide +kernel) rfl (by decide +kernel)
set_option maxRecDepth 100000 in
theorem qL_7 (hJ : qJ M) (hn : n ≤ 4096) (hi : 0 ≤ i ∧ i + 8 ≤ n) (K : ∀ M', qJ M' → zG n (114, 4080270) 300 311 (2158, [zR 0, zR 8, zR 97, .inl i], []) M' qLQ) : zG n (114, 4080270) 300 311 (541, [zR 0, zR 8, zR 97, .inl i], []) M qLQ := by
  have hz : zP 311 = (zk_L_law, 4, (114, 4080270)) := rfl
  have hg := sh_7
  refine zG_blk (c' := (546, [zR 0, zR 8, zR 97, .inl i], [.inl (i + 1), zR 0, zR 8])) 5 (by decide) hz (zsteps_seg hg (by rw [show (.inl (i + 1) : zV) = .inl (w32 (i + 1)) from by rw [w32_id (by omega)]]; rfl)) ?_
  refine zG_iald (by decide) hz (hg _ _ rfl) rfl (.inr rfl) (by omega) ?_
  obtain ⟨x1, hx1⟩ : ∃ x : Int, x = M 0 (i + 1).toNat := ⟨_, rfl⟩
  rw [← hx1]
  have hr1 : qin x1 := by rw [hx1]; exact hJ.1.rng 0 _ (by decide) (by decide)
  show zG n (114, 4080270) 300 311 (547, [zR 0, zR 8, zR 97, .inl i], [.inl x1, zR 8]) M _
  refine zG_blk (c' := (551, [zR 0, zR 8, zR 97, .inl i], [.inl (i + 2), zR 0, .inl x1, zR 8])) 4 (by decide) hz (zsteps_seg hg (by rw [show (.inl (i + 2) : zV) = .inl (w32 (i + 2)) from by rw [w32_id (by omega)]]; rfl)) ?_
  refine zG_iald (by decide) hz (hg _ _ rfl) rfl (.inr rfl) (by omega) ?_
  obtain ⟨x2, hx2⟩ : ∃ x : Int, x = M 0 (i + 2).toNat := ⟨_, rfl⟩
  rw [← hx2]
  have hr2 : qin x2 := by rw [hx2]; exact hJ.1.rng 0 _ (by decide) (by decide)
  show zG n (114, 4080270) 300 311 (552, [zR 0, zR 8, zR 97, .inl i], [.inl x2, .inl x1, zR 8]) M _
  refine zG_blk (c' := (556, [zR 0, zR 8, zR 97, .inl i], [.inl (i + 3), zR 0, .inl x2, .inl x1, zR 8])) 4 (by decide) hz (zsteps_seg hg (by rw [show (.inl (i + 3) : zV) = .inl (w32 (i + 3)) from by rw [w32_id (by omega)]]; rfl)) ?_
  refine zG_iald (by decide) hz (hg _ _ rfl) rfl (.inr rfl) (by omega) ?_
  obtain ⟨x3, hx3⟩ : ∃ x : Int, x = M 0 (i + 3).toNat := ⟨_, rfl⟩
  rw [← hx3]
  have hr3 : qin x3 := by rw [hx3]; exact hJ.1.rng 0 _ (by decide) (by decide)
  show zG n (114, 4080270) 300 311 (557, [zR 0, zR 8, zR 97, .inl i], [.inl x3, .inl x2, .inl x1, zR 8]) M _
  refine zG_blk (c' := (561, [zR 0, zR 8, zR 97, .inl i], [.inl (i + 4), zR 0, .inl x3, .inl x2, .inl x1, zR 8])) 4 (by decide) hz (zsteps_seg hg (by rw [show (.inl (i + 4) : zV) = .inl (w32 (i + 4)) from by rw [w32_id (by omega)]]; rfl)) ?_
  refine zG_iald (by decide) hz (hg _ _ rfl) rfl (.inr rfl) (by omega) ?_
  obtain ⟨x4, hx4⟩ : ∃ x : Int, x = M 0 (i + 4).toNat := ⟨_, rfl⟩
  rw [← hx4]
  have hr4 : qin x4 := by rw [hx4]; exact hJ.1.rng 0 _ (by decide) (by decide)
  show zG n (114, 4080270) 300 311 (562, [zR 0, zR 8, zR 97, .inl i], [.inl x4, .inl x3, .inl x2, .inl x1, zR 8]) M _
  refine zG_blk (c' := (566, [zR 0, zR 8, zR 97, .inl i], [.inl (i + 5), zR 0, .inl x4, .inl x3, .inl x2, .inl x1, zR 8])) 4 (by decide) hz (zsteps_seg hg (by rw [show (.inl (i + 5) : zV) = .inl (w32 (i + 5)) from by rw [w32_id (by omega)]]; rfl)) ?_
  refine zG_iald (by decide) hz (hg _ _ rfl) rfl (.inr rfl) (by omega) ?_
  obtain ⟨x5, hx5⟩ : ∃ x : Int, x = M 0 (i + 5).toNat := ⟨_, rfl⟩
  rw [← hx5]
  have hr5 : qin x5 := by rw [hx5]; exact hJ.1.rng 0 _ (by decide) (by decide)
  show zG n (114, 4080270) 300 311 (567, [zR 0, zR 8, zR 97, .inl i], [.inl x5, .inl x4, .inl x3, .inl x2, .inl x1, zR 8]) M _
  refine zG_call (by decide) hz (rfl : zP 130 = (zk_X10_second, 7, (0, 0))) (hg _ _ rfl) rfl (Nat.le_of_ble_eq_true rfl) ⟨Nat.le_of_ble_eq_true rfl, Nat.le_of_ble_eq_true rfl⟩ (zG.andH (qm_130_8 (by decide) hJ.1 x1 (by omega) x2 (by omega) x3 (by omega) x4 (by omega) x5 (by omega)) (fh_130_8 x1 x2 x3 x4 x5)) (fun vr M1 hr => ?_)
  obtain ⟨⟨⟨hC1, hF1⟩, -⟩, rfl, hM1⟩ := hr
  have hi := hF1.hi rfl
  have hI := hJ.2.1.same hi
  have hc0 : ∀ j, M1 0 j = M 0 j := fun j => hF1 0 j (by decide)
  show zG n (114, 4080270) 300 311 (570, [zR 0, zR 8, zR 97, .inl i], [.inl (hf_130_8 M x1 x2 x3 x4 x5).1]) M1 _
  refine zG_blk (c' := (576, [zR 0, zR 8, zR 97, .inl i], [.inl (i + 1), zR 0, zR 97])) 6 (by decide) hz (zsteps_seg hg (by rw [show (.inl (i + 1) : zV) = .inl (w32 (i + 1)) from by rw [w32_id (by omega)]]; rfl)) ?_
  refine zG_iald (by decide) hz (hg _ _ rfl) rfl (.inr rfl) (by omega) ?_
  rw [show M1 0 (i + 1).toNat = x1 from (hc0 _).trans hx1.symm]
  show zG n (114, 4080270) 300 311 (577, [zR 0, zR 8, zR 97, .inl i], [.inl x1, zR 97]) M1 _
  refine zG_blk (c' := (581, [zR 0, zR 8, zR 97, .inl i], [.inl (i + 2), zR 0, .inl x1, zR 97])) 4 (by decide) hz (zsteps_seg hg (by rw [show (.inl (i + 2) : zV) = .inl (w32 (i + 2)) from by rw [w32_id (by omega)]]; rfl)) ?_
  refine zG_iald (by decide) hz (hg _ _ rfl) rfl (.inr rfl) (by omega) ?_
  rw [show M1 0 (i + 2).toNat = x2 from (hc0 _).trans hx2.symm]
  show zG n (114, 4080270) 300 311 (582, [zR 0, zR 8, zR 97, .inl i], [.inl x2, .inl x1, zR 97]) M1 _
  refine zG_blk (c' := (586, [zR 0, zR 8, zR 97, .inl i], [.inl (i + 3), zR 0, .inl x2, .inl x1, zR 97])) 4 (by decide) hz (zsteps_seg hg (by rw [show (.inl (i + 3) : zV) = .inl (w32 (i + 3)) from by rw [w32_id (by omega)]]; rfl)) ?_
  refine zG_iald (by decide) hz (hg _ _ rfl) rfl (.inr rfl) (by omega) ?_
  rw [show M1 0 (i + 3).toNat = x3 from (hc0 _).trans hx3.symm]
  show zG n (114, 4080270) 300 311 (587, [zR 0, zR 8, zR 97, .inl i], [.inl x3, .inl x2, .inl x1, zR 97]) M1 _
  refine zG_blk (c' := (591, [zR 0, zR 8, zR 97, .inl i], [.inl (i + 4), zR 0, .inl x3, .inl x2, .inl x1, zR 97])) 4 (by decide) hz (zsteps_seg hg (by rw [show (.inl (i + 4) : zV) = .inl (w32 (i + 4)) from by rw [w32_id (by omega)]]; rfl)) ?_
  refine zG_iald (by decide) hz (hg _ _ rfl) rfl (.inr rfl) (by omega) ?_
  rw [show M1 0 (i + 4).toNat = x4 from (hc0 _).trans hx4.symm]
  show zG n (114, 4080270) 300 311 (592, [zR 0, zR 8, zR 97, .inl i], [.inl x4, .inl x3, .inl x2, .inl x1, zR 97]) M1 _
  refine zG_blk (c' := (596, [zR 0, zR 8, zR 97, .inl i], [.inl (i + 5), zR 0, .inl x4, .inl x3, .inl x2, .inl x1, zR 97])) 4 (by decide) hz (zsteps_seg hg (by rw [show (.inl (i + 5) : zV) = .inl (w32 (i + 5)) from by rw [w32_id (by omega)]]; rfl)) ?_
  refine zG_iald (by decide) hz (hg _ _ rfl) rfl (.inr rfl) (by omega) ?_
  rw [show M1 0 (i + 5).toNat = x5 from (hc0 _).trans hx5.symm]
  show zG n (114, 4080270) 300 311 (597, [zR 0, zR 8, zR 97, .inl i], [.inl x5, .inl x4, .inl x3, .inl x2, .inl x1, zR 97]) M1 _
  refine zG_call (by decide) hz (rfl : zP 202 = (zk_X11_second, 6, (0, 0))) (hg _ _ rfl) rfl (Nat.le_of_ble_eq_true rfl) ⟨Nat.le_of_ble_eq_true rfl, Nat.le_of_ble_eq_true rfl⟩ (zG.andH (qm_202_97 (by decide) hI x1 (by omega) x2 (by omega) x3 (by omega) x4 (by omega) x5 (by omega)) (fh_202_97 x1 x2 x3 x4 x5)) (fun vr M2 hr => ?_)
  obtain ⟨⟨⟨hC2, hF2⟩, -⟩, rfl, hM2⟩ := hr
  have hm := hm_130 hJ.2.2.1 hJ.1.tb hJ.2.1.bd (a1 := x1) (a2 := x2) (a3 := x3) (a4 := x4) (a5 := x5)
  rw [← hM1] at hm
  rw [← hM2] at hm
  have hJ2 : qJ M2 := hJ.mut hC1 hF1 rfl rfl hC2 hF2 rfl (by decide) hm.2
  show zG n (114, 4080270) 300 311 (600, [zR 0, zR 8, zR 97, .inl i], [.inl (hf_202_97 M1 x1 x2 x3 x4 x5).1]) M2 _
  refine zG_blk (c' := (2158, [zR 0, zR 8, zR 97, .inl i], [])) 2 (by decide) hz (zsteps_seg hg rfl) ?_
  exact K M2 hJ2
def sg_8 : List zE := [(604, .aload_n ⟨1, zfin1⟩, 605, (0, 0, 0, [])),
  (605, .aload_n ⟨0, zfin0⟩, 606, (0, 0, 0, [])),
  (606, .iload_n ⟨3, zfin3⟩, 607, (0, 0, 0, [])),
  (607, .iconst 1, 608, (0, 0, 0, [])),
  (608, .iadd, 609, (0, 0, 0, [])),
  (609, .iaload, 610, (0, 0, 0, [])),
  (610, .aload_n ⟨0, zfin0⟩, 611, (0, 0, 0, [])),
  (611, .iload_n ⟨3, zfin3⟩, 612, (0, 0, 0, [])),
  (612, .iconst 2, 613, (0, 0, 0, [])),
  (613, .iadd, 614, (0, 0, 0, [])),
  (614, .iaload, 615, (0, 0, 0, [])),
  (615, .aload_n ⟨0, zfin0⟩, 616, (0, 0, 0, [])),
  (616, .iload_n ⟨3, zfin3⟩, 617, (0, 0, 0, [])),
  (617, .iconst 3, 618, (0, 0, 0, [])),
  (618, .iadd, 619, (0, 0, 0, [])),
  (619, .iaload, 620, (0, 0, 0, [])),
  (620, .aload_n ⟨0, zfin0⟩, 621, (0, 0, 0, [])),
  (621, .iload_n ⟨3, zfin3⟩, 622, (0, 0, 0, [])),
  (622, .iconst 4, 623, (0, 0, 0, [])),
  (623, .iadd, 624, (0, 0, 0, [])),
  (624, .iaload, 625, (0, 0, 0, [])),
  (625, .invokevirtual 51, 628, (131, 5, 0, [11])),
  (628, .pop, 629, (0, 0, 0, [])),
  (629, .aload_n ⟨2, zfin2⟩, 630, (0, 0, 0, [])),
  (630, .aload_n ⟨0, zfin0⟩, 631, (0, 0, 0, [])),
  (631, .iload_n ⟨3, zfin3⟩, 632, (0, 0, 0, [])),
  (632, .iconst 1, 633, (0, 0, 0, [])),
  (633, .iadd, 634, (0, 0, 0, [])),
  (634, .iaload, 635, (0, 0, 0, [])),
  (635, .aload_n ⟨0, zfin0⟩, 636, (0, 0, 0, [])),
  (636, .iload_n ⟨3, zfin3⟩, 637, (0, 0, 0, [])),
  (637, .iconst 2, 638, (0, 0, 0, [])),
  (638, .iadd, 639, (0, 0, 0, [])),
  (639, .iaload, 640, (0, 0, 0, [])),
  (640, .aload_n ⟨0, zfin0⟩, 641, (0, 0, 0, [])),
  (641, .iload_n ⟨3, zfin3⟩, 642, (0, 0, 0, [])),
  (642, .iconst 3, 643, (0, 0, 0, [])),
  (643, .iadd, 644, (0, 0, 0, [])),
  (644, .iaload, 645, (0, 0, 0, [])),
  (645, .aload_n ⟨0, zfin0⟩, 646, (0, 0, 0, [])),
  (646, .iload_n ⟨3, zfin3⟩, 647, (0, 0, 0, [])),
  (647, .iconst 4, 648, (0, 0, 0, [])),
  (648, .iadd, 649, (0, 0, 0, [])),
  (649, .iaload, 650, (0, 0, 0, [])),
  (650, .invokevirtual 54, 653, (203, 5, 0, [12])),
  (653, .pop, 654, (0, 0, 0, [])),
  (654, .goto (1504), 657, (2158, 0, 0, []))]
set_option maxRecDepth 100000 in
theorem sh_8 : zSeg zk_L_law sg_8 := zSeg_of 336 47 604 (by decide +kernel) rfl (by decide +kernel)
set_option maxRecDepth 100000 in
theorem qL_8 (hJ : qJ M) (hn : n ≤ 4096) (hi : 0 ≤ i ∧ i + 8 ≤ n) (K : ∀ M', qJ M' → zG n (114, 4080270) 300 311 (2158, [zR 0, zR 8, zR 97, .inl i], []) M' qLQ) : zG n (114, 4080270) 300 311 (604, [zR 0, zR 8, zR 97, .inl i], []) M qLQ := by
  have hz : zP 311 = (zk_L_law, 4, (114, 4080270)) := rfl
  have hg := sh_8
  refine zG_blk (c' := (609, [zR 0, zR 8, zR 97, .inl i], [.inl (i + 1), zR 0, zR 8])) 5 (by decide) hz (zsteps_seg hg (by rw [show (.inl (i + 1) : zV) = .inl (w32 (i + 1)) from by rw [w32_id (by omega)]]; rfl)) ?_
  refine zG_iald (by decide) hz (hg _ _ rfl) rfl (.inr rfl) (by omega) ?_
  obtain ⟨x1, hx1⟩ : ∃ x : Int, x = M 0 (i + 1).toNat := ⟨_, rfl⟩
  rw [← hx1]
  have hr1 : qin x1 := by rw [hx1]; exact hJ.1.rng 0 _ (by decide) (by decide)
  show zG n (114, 4080270) 300 311 (610, [zR 0, zR 8, zR 97, .inl i], [.inl x1, zR 8]) M _
  refine zG_blk (c' := (614, [zR 0, zR 8, zR 97, .inl i], [.inl (i + 2), zR 0, .inl x1, zR 8])) 4 (by decide) hz (zsteps_seg hg (by rw [show (.inl (i + 2) : zV) = .inl (w32 (i + 2)) from by rw [w32_id (by omega)]]; rfl)) ?_
  refine zG_iald (by decide) hz (hg _ _ rfl) rfl (.inr rfl) (by omega) ?_
  obtain ⟨x2, hx2⟩ : ∃ x : Int, x = M 0 (i + 2).toNat := ⟨_, rfl⟩
  rw [← hx2]
  have hr2 : qin x2 := by rw [hx2]; exact hJ.1.rng 0 _ (by decide) (by decide)
  show zG n (114, 4080270) 300 311 (615, [zR 0, zR 8, zR 97, .inl i], [.inl x2, .inl x1, zR 8]) M _
  refine zG_blk (c' := (619, [zR 0, zR 8, zR 97, .inl i], [.inl (i + 3), zR 0, .inl x2, .inl x1, zR 8])) 4 (by decide) hz (zsteps_seg hg (by rw [show (.inl (i + 3) : zV) = .inl (w32 (i + 3)) from by rw [w32_id (by omega)]]; rfl)) ?_
  refine zG_iald (by decide) hz (hg _ _ rfl) rfl (.inr rfl) (by omega) ?_
  obtain ⟨x3, hx3⟩ : ∃ x : Int, x = M 0 (i + 3).toNat := ⟨_, rfl⟩
  rw [← hx3]
  have hr3 : qin x3 := by rw [hx3]; exact hJ.1.rng 0 _ (by decide) (by decide)
  show zG n (114, 4080270) 300 311 (620, [zR 0, zR 8, zR 97, .inl i], [.inl x3, .inl x2, .inl x1, zR 8]) M _
  refine zG_blk (c' := (624, [zR 0, zR 8, zR 97, .inl i], [.inl (i + 4), zR 0, .inl x3, .inl x2, .inl x1, zR 8])) 4 (by decide) hz (zsteps_seg hg (by rw [show (.inl (i + 4) : zV) = .inl (w32 (i + 4)) from by rw [w32_id (by omega)]]; rfl)) ?_
  refine zG_iald (by decide) hz (hg _ _ rfl) rfl (.inr rfl) (by omega) ?_
  obtain ⟨x4, hx4⟩ : ∃ x : Int, x = M 0 (i + 4).toNat := ⟨_, rfl⟩
  rw [← hx4]
  have hr4 : qin x4 := by rw [hx4]; exact hJ.1.rng 0 _ (by decide) (by decide)
  show zG n (114, 4080270) 300 311 (625, [zR 0, zR 8, zR 97, .inl i], [.inl x4, .inl x3, .inl x2, .inl x1, zR 8]) M _
  refine zG_call (by decide) hz (rfl : zP 131 = (zk_X10_moderate, 6, (0, 0))) (hg _ _ rfl) rfl (Nat.le_of_ble_eq_true rfl) ⟨Nat.le_of_ble_eq_true rfl, Nat.le_of_ble_eq_true rfl⟩ (zG.andH (qm_131_8 (by decide) hJ.1 x1 (by omega) x2 (by omega) x3 (by omega) x4 (by omega)) (fh_131_8 x1 x2 x3 x4)) (fun vr M1 hr => ?_)
  obtain ⟨⟨⟨hC1, hF1⟩, -⟩, rfl, hM1⟩ := hr
  have hi := hF1.hi rfl
  have hI := hJ.2.1.same hi
  have hc0 : ∀ j, M1 0 j = M 0 j := fun j => hF1 0 j (by decide)
  show zG n (114, 4080270) 300 311 (628, [zR 0, zR 8, zR 97, .inl i], [.inl (hf_131_8 M x1 x2 x3 x4).1]) M1 _
  refine zG_blk (c' := (634, [zR 0, zR 8, zR 97, .inl i], [.inl (i + 1), zR 0, zR 97])) 6 (by decide) hz (zsteps_seg hg (by rw [show (.inl (i + 1) : zV) = .inl (w32 (i + 1)) from by rw [w32_id (by omega)]]; rfl)) ?_
  refine zG_iald (by decide) hz (hg _ _ rfl) rfl (.inr rfl) (by omega) ?_
  rw [show M1 0 (i + 1).toNat = x1 from (hc0 _).trans hx1.symm]
  show zG n (114, 4080270) 300 311 (635, [zR 0, zR 8, zR 97, .inl i], [.inl x1, zR 97]) M1 _
  refine zG_blk (c' := (639, [zR 0, zR 8, zR 97, .inl i], [.inl (i + 2), zR 0, .inl x1, zR 97])) 4 (by decide) hz (zsteps_seg hg (by rw [show (.inl (i + 2) : zV) = .inl (w32 (i + 2)) from by rw [w32_id (by omega)]]; rfl)) ?_
  refine zG_iald (by decide) hz (hg _ _ rfl) rfl (.inr rfl) (by omega) ?_
  rw [show M1 0 (i + 2).toNat = x2 from (hc0 _).trans hx2.symm]
  show zG n (114, 4080270) 300 311 (640, [zR 0, zR 8, zR 97, .inl i], [.inl x2, .inl x1, zR 97]) M1 _
  refine zG_blk (c' := (644, [zR 0, zR 8, zR 97, .inl i], [.inl (i + 3), zR 0, .inl x2, .inl x1, zR 97])) 4 (by decide) hz (zsteps_seg hg (by rw [show (.inl (i + 3) : zV) = .inl (w32 (i + 3)) from by rw [w32_id (by omega)]]; rfl)) ?_
  refine zG_iald (by decide) hz (hg _ _ rfl) rfl (.inr rfl) (by omega) ?_
  rw [show M1 0 (i + 3).toNat = x3 from (hc0 _).trans hx3.symm]
  show zG n (114, 4080270) 300 311 (645, [zR 0, zR 8, zR 97, .inl i], [.inl x3, .inl x2, .inl x1, zR 97]) M1 _
  refine zG_blk (c' := (649, [zR 0, zR 8, zR 97, .inl i], [.inl (i + 4), zR 0, .inl x3, .inl x2, .inl x1, zR 97])) 4 (by decide) hz (zsteps_seg hg (by rw [show (.inl (i + 4) : zV) = .inl (w32 (i + 4)) from by rw [w32_id (by omega)]]; rfl)) ?_
  refine zG_iald (by decide) hz (hg _ _ rfl) rfl (.inr rfl) (by omega) ?_
  rw [show M1 0 (i + 4).toNat = x4 from (hc0 _).trans hx4.symm]
  show zG n (114, 4080270) 300 311 (650, [zR 0, zR 8, zR 97, .inl i], [.inl x4, .inl x3, .inl x2, .inl x1, zR 97]) M1 _
  refine zG_call (by decide) hz (rfl : zP 203 = (zk_X11_moderate, 5, (0, 0))) (hg _ _ rfl) rfl (Nat.le_of_ble_eq_true rfl) ⟨Nat.le_of_ble_eq_true rfl, Nat.le_of_ble_eq_true rfl⟩ (zG.andH (qm_203_97 (by decide) hI x1 (by omega) x2 (by omega) x3 (by omega) x4 (by omega)) (fh_203_97 x1 x2 x3 x4)) (fun vr M2 hr => ?_)
  obtain ⟨⟨⟨hC2, hF2⟩, -⟩, rfl, hM2⟩ := hr
  have hm := hm_131 hJ.2.2.1 hJ.1.tb hJ.2.1.bd (a1 := x1) (a2 := x2) (a3 := x3) (a4 := x4)
  rw [← hM1] at hm
  rw [← hM2] at hm
  have hJ2 : qJ M2 := hJ.mut hC1 hF1 rfl rfl hC2 hF2 rfl (by decide) hm.2
  show zG n (114, 4080270) 300 311 (653, [zR 0, zR 8, zR 97, .inl i], [.inl (hf_203_97 M1 x1 x2 x3 x4).1]) M2 _
  refine zG_blk (c' := (2158, [zR 0, zR 8, zR 97, .inl i], [])) 2 (by decide) hz (zsteps_seg hg rfl) ?_
  exact K M2 hJ2
def sg_9 : List zE := [(657, .aload_n ⟨1, zfin1⟩, 658, (0, 0, 0, [])),
  (658, .aload_n ⟨0, zfin0⟩, 659, (0, 0, 0, [])),
  (659, .iload_n ⟨3, zfin3⟩, 660, (0, 0, 0, [])),
  (660, .iconst 1, 661, (0, 0, 0, [])),
  (661, .iadd, 662, (0, 0, 0, [])),
  (662, .iaload, 663, (0, 0, 0, [])),
  (663, .aload_n ⟨0, zfin0⟩, 664, (0, 0, 0, [])),
  (664, .iload_n ⟨3, zfin3⟩, 665, (0, 0, 0, [])),
  (665, .iconst 2, 666, (0, 0, 0, [])),
  (666, .iadd, 667, (0, 0, 0, [])),
  (667, .iaload, 668, (0, 0, 0, [])),
  (668, .aload_n ⟨0, zfin0⟩, 669, (0, 0, 0, [])),
  (669, .iload_n ⟨3, zfin3⟩, 670, (0, 0, 0, [])),
  (670, .iconst 3, 671, (0, 0, 0, [])),
  (671, .iadd, 672, (0, 0, 0, [])),
  (672, .iaload, 673, (0, 0, 0, [])),
  (673, .aload_n ⟨0, zfin0⟩, 674, (0, 0, 0, [])),
  (674, .iload_n ⟨3, zfin3⟩, 675, (0, 0, 0, [])),
  (675, .iconst 4, 676, (0, 0, 0, [])),
  (676, .iadd, 677, (0, 0, 0, [])),
  (677, .iaload, 678, (0, 0, 0, [])),
  (678, .aload_n ⟨0, zfin0⟩, 679, (0, 0, 0, [])),
  (679, .iload_n ⟨3, zfin3⟩, 680, (0, 0, 0, [])),
  (680, .iconst 5, 681, (0, 0, 0, [])),
  (681, .iadd, 682, (0, 0, 0, [])),
  (682, .iaload, 683, (0, 0, 0, [])),
  (683, .aload_n ⟨0, zfin0⟩, 684, (0, 0, 0, [])),
  (684, .iload_n ⟨3, zfin3⟩, 685, (0, 0, 0, [])),
  (685, .bipush (6), 687, (0, 0, 0, [])),
  (687, .iadd, 688, (0, 0, 0, [])),
  (688, .iaload, 689, (0, 0, 0, [])),
  (689, .invokevirtual 55, 692, (132, 7, 0, [11])),
  (692, .pop, 693, (0, 0, 0, [])),
  (693, .aload_n ⟨2, zfin2⟩, 694, (0, 0, 0, [])),
  (694, .aload_n ⟨0, zfin0⟩, 695, (0, 0, 0, [])),
  (695, .iload_n ⟨3, zfin3⟩, 696, (0, 0, 0, [])),
  (696, .iconst 1, 697, (0, 0, 0, [])),
  (697, .iadd, 698, (0, 0, 0, [])),
  (698, .iaload, 699, (0, 0, 0, [])),
  (699, .aload_n ⟨0, zfin0⟩, 700, (0, 0, 0, [])),
  (700, .iload_n ⟨3, zfin3⟩, 701, (0, 0, 0, [])),
  (701, .iconst 2, 702, (0, 0, 0, [])),
  (702, .iadd, 703, (0, 0, 0, [])),
  (703, .iaload, 704, (0, 0, 0, [])),
  (704, .aload_n ⟨0, zfin0⟩, 705, (0, 0, 0, [])),
  (705, .iload_n ⟨3, zfin3⟩, 706, (0, 0, 0, [])),
  (706, .iconst 3, 707, (0, 0, 0, [])),
  (707, .iadd, 708, (0, 0, 0, [])),
  (708, .iaload, 709, (0, 0, 0, [])),
  (709, .aload_n ⟨0, zfin0⟩, 710, (0, 0, 0, [])),
  (710, .iload_n ⟨3, zfin3⟩, 711, (0, 0, 0, [])),
  (711, .iconst 4, 712, (0, 0, 0, [])),
  (712, .iadd, 713, (0, 0, 0, [])),
  (713, .iaload, 714, (0, 0, 0, [])),
  (714, .aload_n ⟨0, zfin0⟩, 715, (0, 0, 0, [])),
  (715, .iload_n ⟨3, zfin3⟩, 716, (0, 0, 0, [])),
  (716, .iconst 5, 717, (0, 0, 0, [])),
  (717, .iadd, 718, (0, 0, 0, [])),
  (718, .iaload, 719, (0, 0, 0, [])),
  (719, .aload_n ⟨0, zfin0⟩, 720, (0, 0, 0, [])),
  (720, .iload_n ⟨3, zfin3⟩, 721, (0, 0, 0, [])),
  (721, .bipush (6), 723, (0, 0, 0, [])),
  (723, .iadd, 724, (0, 0, 0, [])),
  (724, .iaload, 725, (0, 0, 0, [])),
  (725, .invokevirtual 58, 728, (204, 7, 0, [12])),
  (728, .pop, 729, (0, 0, 0, [])),
  (729, .goto (1429), 732, (2158, 0, 0, []))]
set_option maxRecDepth 100000 in
theorem sh_9 : zSeg zk_L_law sg_9 := zSeg_of 383 67 657 (by decide +kernel) rfl (by decide +kernel)
set_option maxRecDepth 100000 in
theorem qL_9 (hJ : qJ M) (hn : n ≤ 4096) (hi : 0 ≤ i ∧ i + 8 ≤ n) (K : ∀ M', qJ M' → zG n (114, 4080270) 300 311 (2158, [zR 0, zR 8, zR 97, .inl i], []) M' qLQ) : zG n (114, 4080270) 300 311 (657, [zR 0, zR 8, zR 97, .inl i], []) M qLQ := by
  have hz : zP 311 = (zk_L_law, 4, (114, 4080270)) := rfl
  have hg := sh_9
  refine zG_blk (c' := (662, [zR 0, zR 8, zR 97, .inl i], [.inl (i + 1), zR 0, zR 8])) 5 (by decide) hz (zsteps_seg hg (by rw [show (.inl (i + 1) : zV) = .inl (w32 (i + 1)) from by rw [w32_id (by omega)]]; rfl)) ?_
  refine zG_iald (by decide) hz (hg _ _ rfl) rfl (.inr rfl) (by omega) ?_
  obtain ⟨x1, hx1⟩ : ∃ x : Int, x = M 0 (i + 1).toNat := ⟨_, rfl⟩
  rw [← hx1]
  have hr1 : qin x1 := by rw [hx1]; exact hJ.1.rng 0 _ (by decide) (by decide)
  show zG n (114, 4080270) 300 311 (663, [zR 0, zR 8, zR 97, .inl i], [.inl x1, zR 8]) M _
  refine zG_blk (c' := (667, [zR 0, zR 8, zR 97, .inl i], [.inl (i + 2), zR 0, .inl x1, zR 8])) 4 (by decide) hz (zsteps_seg hg (by rw [show (.inl (i + 2) : zV) = .inl (w32 (i + 2)) from by rw [w32_id (by omega)]]; rfl)) ?_
  refine zG_iald (by decide) hz (hg _ _ rfl) rfl (.inr rfl) (by omega) ?_
  obtain ⟨x2, hx2⟩ : ∃ x : Int, x = M 0 (i + 2).toNat := ⟨_, rfl⟩
  rw [← hx2]
  have hr2 : qin x2 := by rw [hx2]; exact hJ.1.rng 0 _ (by decide) (by decide)
  show zG n (114, 4080270) 300 311 (668, [zR 0, zR 8, zR 97, .inl i], [.inl x2, .inl x1, zR 8]) M _
  refine zG_blk (c' := (672, [zR 0, zR 8, zR 97, .inl i], [.inl (i + 3), zR 0, .inl x2, .inl x1, zR 8])) 4 (by decide) hz (zsteps_seg hg (by rw [show (.inl (i + 3) : zV) = .inl (w32 (i + 3)) from by rw [w32_id (by omega)]]; rfl)) ?_
  refine zG_iald (by decide) hz (hg _ _ rfl) rfl (.inr rfl) (by omega) ?_
  obtain ⟨x3, hx3⟩ : ∃ x : Int, x = M 0 (i + 3).toNat := ⟨_, rfl⟩
  rw [← hx3]
  have hr3 : qin x3 := by rw [hx3]; exact hJ.1.rng 0 _ (by decide) (by decide)
  show zG n (114, 4080270) 300 311 (673, [zR 0, zR 8, zR 97, .inl i], [.inl x3, .inl x2, .inl x1, zR 8]) M _
  refine zG_blk (c' := (677, [zR 0, zR 8, zR 97, .inl i], [.inl (i + 4), zR 0, .inl x3, .inl x2, .inl x1, zR 8])) 4 (by decide) hz (zsteps_seg hg (by rw [show (.inl (i + 4) : zV) = .inl (w32 (i + 4)) from by rw [w32_id (by omega)]]; rfl)) ?_
  refine zG_iald (by decide) hz (hg _ _ rfl) rfl (.inr rfl) (by omega) ?_
  obtain ⟨x4, hx4⟩ : ∃ x : Int, x = M 0 (i + 4).toNat := ⟨_, rfl⟩
  rw [← hx4]
  have hr4 : qin x4 := by rw [hx4]; exact hJ.1.rng 0 _ (by decide) (by decide)
  show zG n (114, 4080270) 300 311 (678, [zR 0, zR 8, zR 97, .inl i], [.inl x4, .inl x3, .inl x2, .inl x1, zR 8]) M _
  refine zG_blk (c' := (682, [zR 0, zR 8, zR 97, .inl i], [.inl (i + 5), zR 0, .inl x4, .inl x3, .inl x2, .inl x1, zR 8])) 4 (by decide) hz (zsteps_seg hg (by rw [show (.inl (i + 5) : zV) = .inl (w32 (i + 5)) from by rw [w32_id (by omega)]]; rfl)) ?_
  refine zG_iald (by decide) hz (hg _ _ rfl) rfl (.inr rfl) (by omega) ?_
  obtain ⟨x5, hx5⟩ : ∃ x : Int, x = M 0 (i + 5).toNat := ⟨_, rfl⟩
  rw [← hx5]
  have hr5 : qin x5 := by rw [hx5]; exact hJ.1.rng 0 _ (by decide) (by decide)
  show zG n (114, 4080270) 300 311 (683, [zR 0, zR 8, zR 97, .inl i], [.inl x5, .inl x4, .inl x3, .inl x2, .inl x1, zR 8]) M _
  refine zG_blk (c' := (688, [zR 0, zR 8, zR 97, .inl i], [.inl (i + 6), zR 0, .inl x5, .inl x4, .inl x3, .inl x2, .inl x1, zR 8])) 4 (by decide) hz (zsteps_seg hg (by rw [show (.inl (i + 6) : zV) = .inl (w32 (i + 6)) from by rw [w32_id (by omega)]]; rfl)) ?_
  refine zG_iald (by decide) hz (hg _ _ rfl) rfl (.inr rfl) (by omega) ?_
  obtain ⟨x6, hx6⟩ : ∃ x : Int, x = M 0 (i + 6).toNat := ⟨_, rfl⟩
  rw [← hx6]
  have hr6 : qin x6 := by rw [hx6]; exact hJ.1.rng 0 _ (by decide) (by decide)
  show zG n (114, 4080270) 300 311 (689, [zR 0, zR 8, zR 97, .inl i], [.inl x6, .inl x5, .inl x4, .inl x3, .inl x2, .inl x1, zR 8]) M _
  refine zG_call (by decide) hz (rfl : zP 132 = (zk_X10_scale, 8, (0, 0))) (hg _ _ rfl) rfl (Nat.le_of_ble_eq_true rfl) ⟨Nat.le_of_ble_eq_true rfl, Nat.le_of_ble_eq_true rfl⟩ (zG.andH (qm_132_8 (by decide) hJ.1 x1 (by omega) x2 (by omega) x3 (by omega) x4 (by omega) x5 (by omega) x6 (by omega)) (fh_132_8 x1 x2 x3 x4 x5 x6)) (fun vr M1 hr => ?_)
  obtain ⟨⟨⟨hC1, hF1⟩, -⟩, rfl, hM1⟩ := hr
  have hi := hF1.hi rfl
  have hI := hJ.2.1.same hi
  have hc0 : ∀ j, M1 0 j = M 0 j := fun j => hF1 0 j (by decide)
  show zG n (114, 4080270) 300 311 (692, [zR 0, zR 8, zR 97, .inl i], [.inl (hf_132_8 M x1 x2 x3 x4 x5 x6).1]) M1 _
  refine zG_blk (c' := (698, [zR 0, zR 8, zR 97, .inl i], [.inl (i + 1), zR 0, zR 97])) 6 (by decide) hz (zsteps_seg hg (by rw [show (.inl (i + 1) : zV) = .inl (w32 (i + 1)) from by rw [w32_id (by omega)]]; rfl)) ?_
  refine zG_iald (by decide) hz (hg _ _ rfl) rfl (.inr rfl) (by omega) ?_
  rw [show M1 0 (i + 1).toNat = x1 from (hc0 _).trans hx1.symm]
  show zG n (114, 4080270) 300 311 (699, [zR 0, zR 8, zR 97, .inl i], [.inl x1, zR 97]) M1 _
  refine zG_blk (c' := (703, [zR 0, zR 8, zR 97, .inl i], [.inl (i + 2), zR 0, .inl x1, zR 97])) 4 (by decide) hz (zsteps_seg hg (by rw [show (.inl (i + 2) : zV) = .inl (w32 (i + 2)) from by rw [w32_id (by omega)]]; rfl)) ?_
  refine zG_iald (by decide) hz (hg _ _ rfl) rfl (.inr rfl) (by omega) ?_
  rw [show M1 0 (i + 2).toNat = x2 from (hc0 _).trans hx2.symm]
  show zG n (114, 4080270) 300 311 (704, [zR 0, zR 8, zR 97, .inl i], [.inl x2, .inl x1, zR 97]) M1 _
  refine zG_blk (c' := (708, [zR 0, zR 8, zR 97, .inl i], [.inl (i + 3), zR 0, .inl x2, .inl x1, zR 97])) 4 (by decide) hz (zsteps_seg hg (by rw [show (.inl (i + 3) : zV) = .inl (w32 (i + 3)) from by rw [w32_id (by omega)]]; rfl)) ?_
  refine zG_iald (by decide) hz (hg _ _ rfl) rfl (.inr rfl) (by omega) ?_
  rw [show M1 0 (i + 3).toNat = x3 from (hc0 _).trans hx3.symm]
  show zG n (114, 4080270) 300 311 (709, [zR 0, zR 8, zR 97, .inl i], [.inl x3, .inl x2, .inl x1, zR 97]) M1 _
  refine zG_blk (c' := (713, [zR 0, zR 8, zR 97, .inl i], [.inl (i + 4), zR 0, .inl x3, .inl x2, .inl x1, zR 97])) 4 (by decide) hz (zsteps_seg hg (by rw [show (.inl (i + 4) : zV) = .inl (w32 (i + 4)) from by rw [w32_id (by omega)]]; rfl)) ?_
  refine zG_iald (by decide) hz (hg _ _ rfl) rfl (.inr rfl) (by omega) ?_
  rw [show M1 0 (i + 4).toNat = x4 from (hc0 _).trans hx4.symm]
  show zG n (114, 4080270) 300 311 (714, [zR 0, zR 8, zR 97, .inl i], [.inl x4, .inl x3, .inl x2, .inl x1, zR 97]) M1 _
  refine zG_blk (c' := (718, [zR 0, zR 8, zR 97, .inl i], [.inl (i + 5), zR 0, .inl x4, .inl x3, .inl x2, .inl x1, zR 97])) 4 (by decide) hz (zsteps_seg hg (by rw [show (.inl (i + 5) : zV) = .inl (w32 (i + 5)) from by rw [w32_id (by omega)]]; rfl)) ?_
  refine zG_iald (by decide) hz (hg _ _ rfl) rfl (.inr rfl) (by omega) ?_
  rw [show M1 0 (i + 5).toNat = x5 from (hc0 _).trans hx5.symm]
  show zG n (114, 4080270) 300 311 (719, [zR 0, zR 8, zR 97, .inl i], [.inl x5, .inl x4, .inl x3, .inl x2, .inl x1, zR 97]) M1 _
  refine zG_blk (c' := (724, [zR 0, zR 8, zR 97, .inl i], [.inl (i + 6), zR 0, .inl x5, .inl x4, .inl x3, .inl x2, .inl x1, zR 97])) 4 (by decide) hz (zsteps_seg hg (by rw [show (.inl (i + 6) : zV) = .inl (w32 (i + 6)) from by rw [w32_id (by omega)]]; rfl)) ?_
  refine zG_iald (by decide) hz (hg _ _ rfl) rfl (.inr rfl) (by omega) ?_
  rw [show M1 0 (i + 6).toNat = x6 from (hc0 _).trans hx6.symm]
  show zG n (114, 4080270) 300 311 (725, [zR 0, zR 8, zR 97, .inl i], [.inl x6, .inl x5, .inl x4, .inl x3, .inl x2, .inl x1, zR 97]) M1 _
  refine zG_call (by decide) hz (rfl : zP 204 = (zk_X11_scale, 7, (0, 0))) (hg _ _ rfl) rfl (Nat.le_of_ble_eq_true rfl) ⟨Nat.le_of_ble_eq_true rfl, Nat.le_of_ble_eq_true rfl⟩ (zG.andH (qm_204_97 (by decide) hI x1 (by omega) x2 (by omega) x3 (by omega) x4 (by omega) x5 (by omega) x6 (by omega)) (fh_204_97 x1 x2 x3 x4 x5 x6)) (fun vr M2 hr => ?_)
  obtain ⟨⟨⟨hC2, hF2⟩, -⟩, rfl, hM2⟩ := hr
  have hm := hm_132 hJ.2.2.1 hJ.1.tb hJ.2.1.bd (a1 := x1) (a2 := x2) (a3 := x3) (a4 := x4) (a5 := x5) (a6 := x6)
  rw [← hM1] at hm
  rw [← hM2] at hm
  have hJ2 : qJ M2 := hJ.mut hC1 hF1 rfl rfl hC2 hF2 rfl (by decide) hm.2
  show zG n (114, 4080270) 300 311 (728, [zR 0, zR 8, zR 97, .inl i], [.inl (hf_204_97 M1 x1 x2 x3 x4 x5 x6).1]) M2 _
  refine zG_blk (c' := (2158, [zR 0, zR 8, zR 97, .inl i], [])) 2 (by decide) hz (zsteps_seg hg rfl) ?_
  exact K M2 hJ2
def sg_10 : List zE := [(732, .aload_n ⟨1, zfin1⟩, 733, (0, 0, 0, [])),
  (733, .aload_n ⟨0, zfin0⟩, 734, (0, 0, 0, [])),
  (734, .iload_n ⟨3, zfin3⟩, 735, (0, 0, 0, [])),
  (735, .iconst 1, 736, (0, 0, 0, [])),
  (736, .iadd, 737, (0, 0, 0, [])),
  (737, .iaload, 738, (0, 0, 0, [])),
  (738, .aload_n ⟨0, zfin0⟩, 739, (0, 0, 0, [])),
  (739, .iload_n ⟨3, zfin3⟩, 740, (0, 0, 0, [])),
  (740, .iconst 2, 741, (0, 0, 0, [])),
  (741, .iadd, 742, (0, 0, 0, [])),
  (742, .iaload, 743, (0, 0, 0, [])),
  (743, .aload_n ⟨0, zfin0⟩, 744, (0, 0, 0, [])),
  (744, .iload_n ⟨3, zfin3⟩, 745, (0, 0, 0, [])),
  (745, .iconst 3, 746, (0, 0, 0, [])),
  (746, .iadd, 747, (0, 0, 0, [])),
  (747, .iaload, 748, (0, 0, 0, [])),
  (748, .aload_n ⟨0, zfin0⟩, 749, (0, 0, 0, [])),
  (749, .iload_n ⟨3, zfin3⟩, 750, (0, 0, 0, [])),
  (750, .iconst 4, 751, (0, 0, 0, [])),
  (751, .iadd, 752, (0, 0, 0, [])),
  (752, .iaload, 753, (0, 0, 0, [])),
  (753, .invokevirtual 59, 756, (133, 5, 0, [11])),
  (756, .pop, 757, (0, 0, 0, [])),
  (757, .aload_n ⟨2, zfin2⟩, 758, (0, 0, 0, [])),
  (758, .aload_n ⟨0, zfin0⟩, 759, (0, 0, 0, [])),
  (759, .iload_n ⟨3, zfin3⟩, 760, (0, 0, 0, [])),
  (760, .iconst 1, 761, (0, 0, 0, [])),
  (761, .iadd, 762, (0, 0, 0, [])),
  (762, .iaload, 763, (0, 0, 0, [])),
  (763, .aload_n ⟨0, zfin0⟩, 764, (0, 0, 0, [])),
  (764, .iload_n ⟨3, zfin3⟩, 765, (0, 0, 0, [])),
  (765, .iconst 2, 766, (0, 0, 0, [])),
  (766, .iadd, 767, (0, 0, 0, [])),
  (767, .iaload, 768, (0, 0, 0, [])),
  (768, .aload_n ⟨0, zfin0⟩, 769, (0, 0, 0, [])),
  (769, .iload_n ⟨3, zfin3⟩, 770, (0, 0, 0, [])),
  (770, .iconst 3, 771, (0, 0, 0, [])),
  (771, .iadd, 772, (0, 0, 0, [])),
  (772, .iaload, 773, (0, 0, 0, [])),
  (773, .aload_n ⟨0, zfin0⟩, 774, (0, 0, 0, [])),
  (774, .iload_n ⟨3, zfin3⟩, 775, (0, 0, 0, [])),
  (775, .iconst 4, 776, (0, 0, 0, [])),
  (776, .iadd, 777, (0, 0, 0, [])),
  (777, .iaload, 778, (0, 0, 0, [])),
  (778, .invokevirtual 62, 781, (205, 5, 0, [12])),
  (781, .pop, 782, (0, 0, 0, [])),
  (782, .goto (1376), 785, (2158, 0, 0, []))]
set_option maxRecDepth 100000 in
theorem sh_10 : zSeg zk_L_law sg_10 := zSeg_of 450 47 732 (by decide +kernel) rfl (by decide +kernel)
set_option maxRecDepth 100000 in
theorem qL_10 (hJ : qJ M) (hn : n ≤ 4096) (hi : 0 ≤ i ∧ i + 8 ≤ n) (K : ∀ M', qJ M' → zG n (114, 4080270) 300 311 (2158, [zR 0, zR 8, zR 97, .inl i], []) M' qLQ) : zG n (114, 4080270) 300 311 (732, [zR 0, zR 8, zR 97, .inl i], []) M qLQ := by
  have hz : zP 311 = (zk_L_law, 4, (114, 4080270)) := rfl
  have hg := sh_10
  refine zG_blk (c' := (737, [zR 0, zR 8, zR 97, .inl i], [.inl (i + 1), zR 0, zR 8])) 5 (by decide) hz (zsteps_seg hg (by rw [show (.inl (i + 1) : zV) = .inl (w32 (i + 1)) from by rw [w32_id (by omega)]]; rfl)) ?_
  refine zG_iald (by decide) hz (hg _ _ rfl) rfl (.inr rfl) (by omega) ?_
  obtain ⟨x1, hx1⟩ : ∃ x : Int, x = M 0 (i + 1).toNat := ⟨_, rfl⟩
  rw [← hx1]
  have hr1 : qin x1 := by rw [hx1]; exact hJ.1.rng 0 _ (by decide) (by decide)
  show zG n (114, 4080270) 300 311 (738, [zR 0, zR 8, zR 97, .inl i], [.inl x1, zR 8]) M _
  refine zG_blk (c' := (742, [zR 0, zR 8, zR 97, .inl i], [.inl (i + 2), zR 0, .inl x1, zR 8])) 4 (by decide) hz (zsteps_seg hg (by rw [show (.inl (i + 2) : zV) = .inl (w32 (i + 2)) from by rw [w32_id (by omega)]]; rfl)) ?_
  refine zG_iald (by decide) hz (hg _ _ rfl) rfl (.inr rfl) (by omega) ?_
  obtain ⟨x2, hx2⟩ : ∃ x : Int, x = M 0 (i + 2).toNat := ⟨_, rfl⟩
  rw [← hx2]
  have hr2 : qin x2 := by rw [hx2]; exact hJ.1.rng 0 _ (by decide) (by decide)
  show zG n (114, 4080270) 300 311 (743, [zR 0, zR 8, zR 97, .inl i], [.inl x2, .inl x1, zR 8]) M _
  refine zG_blk (c' := (747, [zR 0, zR 8, zR 97, .inl i], [.inl (i + 3), zR 0, .inl x2, .inl x1, zR 8])) 4 (by decide) hz (zsteps_seg hg (by rw [show (.inl (i + 3) : zV) = .inl (w32 (i + 3)) from by rw [w32_id (by omega)]]; rfl)) ?_
  refine zG_iald (by decide) hz (hg _ _ rfl) rfl (.inr rfl) (by omega) ?_
  obtain ⟨x3, hx3⟩ : ∃ x : Int, x = M 0 (i + 3).toNat := ⟨_, rfl⟩
  rw [← hx3]
  have hr3 : qin x3 := by rw [hx3]; exact hJ.1.rng 0 _ (by decide) (by decide)
  show zG n (114, 4080270) 300 311 (748, [zR 0, zR 8, zR 97, .inl i], [.inl x3, .inl x2, .inl x1, zR 8]) M _
  refine zG_blk (c' := (752, [zR 0, zR 8, zR 97, .inl i], [.inl (i + 4), zR 0, .inl x3, .inl x2, .inl x1, zR 8])) 4 (by decide) hz (zsteps_seg hg (by rw [show (.inl (i + 4) : zV) = .inl (w32 (i + 4)) from by rw [w32_id (by omega)]]; rfl)) ?_
  refine zG_iald (by decide) hz (hg _ _ rfl) rfl (.inr rfl) (by omega) ?_
  obtain ⟨x4, hx4⟩ : ∃ x : Int, x = M 0 (i + 4).toNat := ⟨_, rfl⟩
  rw [← hx4]
  have hr4 : qin x4 := by rw [hx4]; exact hJ.1.rng 0 _ (by decide) (by decide)
  show zG n (114, 4080270) 300 311 (753, [zR 0, zR 8, zR 97, .inl i], [.inl x4, .inl x3, .inl x2, .inl x1, zR 8]) M _
  refine zG_call (by decide) hz (rfl : zP 133 = (zk_X10_excuse, 6, (0, 0))) (hg _ _ rfl) rfl (Nat.le_of_ble_eq_true rfl) ⟨Nat.le_of_ble_eq_true rfl, Nat.le_of_ble_eq_true rfl⟩ (zG.andH (qm_133_8 (by decide) hJ.1 x1 (by omega) x2 (by omega) x3 (by omega) x4 (by omega)) (fh_133_8 x1 x2 x3 x4)) (fun vr M1 hr => ?_)
  obtain ⟨⟨⟨hC1, hF1⟩, -⟩, rfl, hM1⟩ := hr
  have hi := hF1.hi rfl
  have hI := hJ.2.1.same hi
  have hc0 : ∀ j, M1 0 j = M 0 j := fun j => hF1 0 j (by decide)
  show zG n (114, 4080270) 300 311 (756, [zR 0, zR 8, zR 97, .inl i], [.inl (hf_133_8 M x1 x2 x3 x4).1]) M1 _
  refine zG_blk (c' := (762, [zR 0, zR 8, zR 97, .inl i], [.inl (i + 1), zR 0, zR 97])) 6 (by decide) hz (zsteps_seg hg (by rw [show (.inl (i + 1) : zV) = .inl (w32 (i + 1)) from by rw [w32_id (by omega)]]; rfl)) ?_
  refine zG_iald (by decide) hz (hg _ _ rfl) rfl (.inr rfl) (by omega) ?_
  rw [show M1 0 (i + 1).toNat = x1 from (hc0 _).trans hx1.symm]
  show zG n (114, 4080270) 300 311 (763, [zR 0, zR 8, zR 97, .inl i], [.inl x1, zR 97]) M1 _
  refine zG_blk (c' := (767, [zR 0, zR 8, zR 97, .inl i], [.inl (i + 2), zR 0, .inl x1, zR 97])) 4 (by decide) hz (zsteps_seg hg (by rw [show (.inl (i + 2) : zV) = .inl (w32 (i + 2)) from by rw [w32_id (by omega)]]; rfl)) ?_
  refine zG_iald (by decide) hz (hg _ _ rfl) rfl (.inr rfl) (by omega) ?_
  rw [show M1 0 (i + 2).toNat = x2 from (hc0 _).trans hx2.symm]
  show zG n (114, 4080270) 300 311 (768, [zR 0, zR 8, zR 97, .inl i], [.inl x2, .inl x1, zR 97]) M1 _
  refine zG_blk (c' := (772, [zR 0, zR 8, zR 97, .inl i], [.inl (i + 3), zR 0, .inl x2, .inl x1, zR 97])) 4 (by decide) hz (zsteps_seg hg (by rw [show (.inl (i + 3) : zV) = .inl (w32 (i + 3)) from by rw [w32_id (by omega)]]; rfl)) ?_
  refine zG_iald (by decide) hz (hg _ _ rfl) rfl (.inr rfl) (by omega) ?_
  rw [show M1 0 (i + 3).toNat = x3 from (hc0 _).trans hx3.symm]
  show zG n (114, 4080270) 300 311 (773, [zR 0, zR 8, zR 97, .inl i], [.inl x3, .inl x2, .inl x1, zR 97]) M1 _
  refine zG_blk (c' := (777, [zR 0, zR 8, zR 97, .inl i], [.inl (i + 4), zR 0, .inl x3, .inl x2, .inl x1, zR 97])) 4 (by decide) hz (zsteps_seg hg (by rw [show (.inl (i + 4) : zV) = .inl (w32 (i + 4)) from by rw [w32_id (by omega)]]; rfl)) ?_
  refine zG_iald (by decide) hz (hg _ _ rfl) rfl (.inr rfl) (by omega) ?_
  rw [show M1 0 (i + 4).toNat = x4 from (hc0 _).trans hx4.symm]
  show zG n (114, 4080270) 300 311 (778, [zR 0, zR 8, zR 97, .inl i], [.inl x4, .inl x3, .inl x2, .inl x1, zR 97]) M1 _
  refine zG_call (by decide) hz (rfl : zP 205 = (zk_X11_excuse, 5, (0, 0))) (hg _ _ rfl) rfl (Nat.le_of_ble_eq_true rfl) ⟨Nat.le_of_ble_eq_true rfl, Nat.le_of_ble_eq_true rfl⟩ (zG.andH (qm_205_97 (by decide) hI x1 (by omega) x2 (by omega) x3 (by omega) x4 (by omega)) (fh_205_97 x1 x2 x3 x4)) (fun vr M2 hr => ?_)
  obtain ⟨⟨⟨hC2, hF2⟩, -⟩, rfl, hM2⟩ := hr
  have hm := hm_133 hJ.2.2.1 hJ.1.tb hJ.2.1.bd (a1 := x1) (a2 := x2) (a3 := x3) (a4 := x4)
  rw [← hM1] at hm
  rw [← hM2] at hm
  have hJ2 : qJ M2 := hJ.mut hC1 hF1 rfl rfl hC2 hF2 rfl (by decide) hm.2
  show zG n (114, 4080270) 300 311 (781, [zR 0, zR 8, zR 97, .inl i], [.inl (hf_205_97 M1 x1 x2 x3 x4).1]) M2 _
  refine zG_blk (c' := (2158, [zR 0, zR 8, zR 97, .inl i], [])) 2 (by decide) hz (zsteps_seg hg rfl) ?_
  exact K M2 hJ2
def sg_11 : List zE := [(785, .aload_n ⟨1, zfin1⟩, 786, (0, 0, 0, [])),
  (786, .aload_n ⟨0, zfin0⟩, 787, (0, 0, 0, [])),
  (787, .iload_n ⟨3, zfin3⟩, 788, (0, 0, 0, [])),
  (788, .iconst 1, 789, (0, 0, 0, [])),
  (789, .iadd, 790, (0, 0, 0, [])),
  (790, .iaload, 791, (0, 0, 0, [])),
  (791, .aload_n ⟨0, zfin0⟩, 792, (0, 0, 0, [])),
  (792, .iload_n ⟨3, zfin3⟩, 793, (0, 0, 0, [])),
  (793, .iconst 2, 794, (0, 0, 0, [])),
  (794, .iadd, 795, (0, 0, 0, [])),
  (795, .iaload, 796, (0, 0, 0, [])),
  (796, .aload_n ⟨0, zfin0⟩, 797, (0, 0, 0, [])),
  (797, .iload_n ⟨3, zfin3⟩, 798, (0, 0, 0, [])),
  (798, .iconst 3, 799, (0, 0, 0, [])),
  (799, .iadd, 800, (0, 0, 0, [])),
  (800, .iaload, 801, (0, 0, 0, [])),
  (801, .invokevirtual 63, 804, (134, 4, 0, [11])),
  (804, .pop, 805, (0, 0, 0, [])),
  (805, .aload_n ⟨2, zfin2⟩, 806, (0, 0, 0, [])),
  (806, .aload_n ⟨0, zfin0⟩, 807, (0, 0, 0, [])),
  (807, .iload_n ⟨3, zfin3⟩, 808, (0, 0, 0, [])),
  (808, .iconst 1, 809, (0, 0, 0, [])),
  (809, .iadd, 810, (0, 0, 0, [])),
  (810, .iaload, 811, (0, 0, 0, [])),
  (811, .aload_n ⟨0, zfin0⟩, 812, (0, 0, 0, [])),
  (812, .iload_n ⟨3, zfin3⟩, 813, (0, 0, 0, [])),
  (813, .iconst 2, 814, (0, 0, 0, [])),
  (814, .iadd, 815, (0, 0, 0, [])),
  (815, .iaload, 816, (0, 0, 0, [])),
  (816, .aload_n ⟨0, zfin0⟩, 817, (0, 0, 0, [])),
  (817, .iload_n ⟨3, zfin3⟩, 818, (0, 0, 0, [])),
  (818, .iconst 3, 819, (0, 0, 0, [])),
  (819, .iadd, 820, (0, 0, 0, [])),
  (820, .iaload, 821, (0, 0, 0, [])),
  (821, .invokevirtual 67, 824, (206, 4, 0, [12])),
  (824, .pop, 825, (0, 0, 0, [])),
  (825, .goto (1333), 828, (2158, 0, 0, []))]
set_option maxRecDepth 100000 in
theorem sh_11 : zSeg zk_L_law sg_11 := zSeg_of 497 37 785 (by decide +kernel) rfl (by decide +kernel)
set_option maxRecDepth 100000 in
theorem qL_11 (hJ : qJ M) (hn : n ≤ 4096) (hi : 0 ≤ i ∧ i + 8 ≤ n) (K : ∀ M', qJ M' → zG n (114, 4080270) 300 311 (2158, [zR 0, zR 8, zR 97, .inl i], []) M' qLQ) : zG n (114, 4080270) 300 311 (785, [zR 0, zR 8, zR 97, .inl i], []) M qLQ := by
  have hz : zP 311 = (zk_L_law, 4, (114, 4080270)) := rfl
  have hg := sh_11
  refine zG_blk (c' := (790, [zR 0, zR 8, zR 97, .inl i], [.inl (i + 1), zR 0, zR 8])) 5 (by decide) hz (zsteps_seg hg (by rw [show (.inl (i + 1) : zV) = .inl (w32 (i + 1)) from by rw [w32_id (by omega)]]; rfl)) ?_
  refine zG_iald (by decide) hz (hg _ _ rfl) rfl (.inr rfl) (by omega) ?_
  obtain ⟨x1, hx1⟩ : ∃ x : Int, x = M 0 (i + 1).toNat := ⟨_, rfl⟩
  rw [← hx1]
  have hr1 : qin x1 := by rw [hx1]; exact hJ.1.rng 0 _ (by decide) (by decide)
  show zG n (114, 4080270) 300 311 (791, [zR 0, zR 8, zR 97, .inl i], [.inl x1, zR 8]) M _
  refine zG_blk (c' := (795, [zR 0, zR 8, zR 97, .inl i], [.inl (i + 2), zR 0, .inl x1, zR 8])) 4 (by decide) hz (zsteps_seg hg (by rw [show (.inl (i + 2) : zV) = .inl (w32 (i + 2)) from by rw [w32_id (by omega)]]; rfl)) ?_
  refine zG_iald (by decide) hz (hg _ _ rfl) rfl (.inr rfl) (by omega) ?_
  obtain ⟨x2, hx2⟩ : ∃ x : Int, x = M 0 (i + 2).toNat := ⟨_, rfl⟩
  rw [← hx2]
  have hr2 : qin x2 := by rw [hx2]; exact hJ.1.rng 0 _ (by decide) (by decide)
  show zG n (114, 4080270) 300 311 (796, [zR 0, zR 8, zR 97, .inl i], [.inl x2, .inl x1, zR 8]) M _
  refine zG_blk (c' := (800, [zR 0, zR 8, zR 97, .inl i], [.inl (i + 3), zR 0, .inl x2, .inl x1, zR 8])) 4 (by decide) hz (zsteps_seg hg (by rw [show (.inl (i + 3) : zV) = .inl (w32 (i + 3)) from by rw [w32_id (by omega)]]; rfl)) ?_
  refine zG_iald (by decide) hz (hg _ _ rfl) rfl (.inr rfl) (by omega) ?_
  obtain ⟨x3, hx3⟩ : ∃ x : Int, x = M 0 (i + 3).toNat := ⟨_, rfl⟩
  rw [← hx3]
  have hr3 : qin x3 := by rw [hx3]; exact hJ.1.rng 0 _ (by decide) (by decide)
  show zG n (114, 4080270) 300 311 (801, [zR 0, zR 8, zR 97, .inl i], [.inl x3, .inl x2, .inl x1, zR 8]) M _
  refine zG_call (by decide) hz (rfl : zP 134 = (zk_X10_strike, 5, (0, 0))) (hg _ _ rfl) rfl (Nat.le_of_ble_eq_true rfl) ⟨Nat.le_of_ble_eq_true rfl, Nat.le_of_ble_eq_true rfl⟩ (zG.andH (qm_134_8 (by decide) hJ.1 x1 (by omega) x2 (by omega) x3 (by omega)) (fh_134_8 x1 x2 x3)) (fun vr M1 hr => ?_)
  obtain ⟨⟨⟨hC1, hF1⟩, -⟩, rfl, hM1⟩ := hr
  have hi := hF1.hi rfl
  have hI := hJ.2.1.same hi
  have hc0 : ∀ j, M1 0 j = M 0 j := fun j => hF1 0 j (by decide)
  show zG n (114, 4080270) 300 311 (804, [zR 0, zR 8, zR 97, .inl i], [.inl (hf_134_8 M x1 x2 x3).1]) M1 _
  refine zG_blk (c' := (810, [zR 0, zR 8, zR 97, .inl i], [.inl (i + 1), zR 0, zR 97])) 6 (by decide) hz (zsteps_seg hg (by rw [show (.inl (i + 1) : zV) = .inl (w32 (i + 1)) from by rw [w32_id (by omega)]]; rfl)) ?_
  refine zG_iald (by decide) hz (hg _ _ rfl) rfl (.inr rfl) (by omega) ?_
  rw [show M1 0 (i + 1).toNat = x1 from (hc0 _).trans hx1.symm]
  show zG n (114, 4080270) 300 311 (811, [zR 0, zR 8, zR 97, .inl i], [.inl x1, zR 97]) M1 _
  refine zG_blk (c' := (815, [zR 0, zR 8, zR 97, .inl i], [.inl (i + 2), zR 0, .inl x1, zR 97])) 4 (by decide) hz (zsteps_seg hg (by rw [show (.inl (i + 2) : zV) = .inl (w32 (i + 2)) from by rw [w32_id (by omega)]]; rfl)) ?_
  refine zG_iald (by decide) hz (hg _ _ rfl) rfl (.inr rfl) (by omega) ?_
  rw [show M1 0 (i + 2).toNat = x2 from (hc0 _).trans hx2.symm]
  show zG n (114, 4080270) 300 311 (816, [zR 0, zR 8, zR 97, .inl i], [.inl x2, .inl x1, zR 97]) M1 _
  refine zG_blk (c' := (820, [zR 0, zR 8, zR 97, .inl i], [.inl (i + 3), zR 0, .inl x2, .inl x1, zR 97])) 4 (by decide) hz (zsteps_seg hg (by rw [show (.inl (i + 3) : zV) = .inl (w32 (i + 3)) from by rw [w32_id (by omega)]]; rfl)) ?_
  refine zG_iald (by decide) hz (hg _ _ rfl) rfl (.inr rfl) (by omega) ?_
  rw [show M1 0 (i + 3).toNat = x3 from (hc0 _).trans hx3.symm]
  show zG n (114, 4080270) 300 311 (821, [zR 0, zR 8, zR 97, .inl i], [.inl x3, .inl x2, .inl x1, zR 97]) M1 _
  refine zG_call (by decide) hz (rfl : zP 206 = (zk_X11_strike, 4, (0, 0))) (hg _ _ rfl) rfl (Nat.le_of_ble_eq_true rfl) ⟨Nat.le_of_ble_eq_true rfl, Nat.le_of_ble_eq_true rfl⟩ (zG.andH (qm_206_97 (by decide) hI x1 (by omega) x2 (by omega) x3 (by omega)) (fh_206_97 x1 x2 x3)) (fun vr M2 hr => ?_)
  obtain ⟨⟨⟨hC2, hF2⟩, -⟩, rfl, hM2⟩ := hr
  have hm := hm_134 hJ.2.2.1 hJ.1.tb hJ.2.1.bd (a1 := x1) (a2 := x2) (a3 := x3)
  rw [← hM1] at hm
  rw [← hM2] at hm
  have hJ2 : qJ M2 := hJ.mut hC1 hF1 rfl rfl hC2 hF2 rfl (by decide) hm.2
  show zG n (114, 4080270) 300 311 (824, [zR 0, zR 8, zR 97, .inl i], [.inl (hf_206_97 M1 x1 x2 x3).1]) M2 _
  refine zG_blk (c' := (2158, [zR 0, zR 8, zR 97, .inl i], [])) 2 (by decide) hz (zsteps_seg hg rfl) ?_
  exact K M2 hJ2
def sg_12 : List zE := [(828, .aload_n ⟨1, zfin1⟩, 829, (0, 0, 0, [])),
  (829, .aload_n ⟨0, zfin0⟩, 830, (0, 0, 0, [])),
  (830, .iload_n ⟨3, zfin3⟩, 831, (0, 0, 0, [])),
  (831, .iconst 1, 832, (0, 0, 0, [])),
  (832, .iadd, 833, (0, 0, 0, [])),
  (833, .iaload, 834, (0, 0, 0, [])),
  (834, .aload_n ⟨0, zfin0⟩, 835, (0, 0, 0, [])),
  (835, .iload_n ⟨3, zfin3⟩, 836, (0, 0, 0, [])),
  (836, .iconst 2, 837, (0, 0, 0, [])),
  (837, .iadd, 838, (0, 0, 0, [])),
  (838, .iaload, 839, (0, 0, 0, [])),
  (839, .aload_n ⟨0, zfin0⟩, 840, (0, 0, 0, [])),
  (840, .iload_n ⟨3, zfin3⟩, 841, (0, 0, 0, [])),
  (841, .iconst 3, 842, (0, 0, 0, [])),
  (842, .iadd, 843, (0, 0, 0, [])),
  (843, .iaload, 844, (0, 0, 0, [])),
  (844, .invokevirtual 68, 847, (135, 4, 0, [11])),
  (847, .pop, 848, (0, 0, 0, [])),
  (848, .aload_n ⟨2, zfin2⟩, 849, (0, 0, 0, [])),
  (849, .aload_n ⟨0, zfin0⟩, 850, (0, 0, 0, [])),
  (850, .iload_n ⟨3, zfin3⟩, 851, (0, 0, 0, [])),
  (851, .iconst 1, 852, (0, 0, 0, [])),
  (852, .iadd, 853, (0, 0, 0, [])),
  (853, .iaload, 854, (0, 0, 0, [])),
  (854, .aload_n ⟨0, zfin0⟩, 855, (0, 0, 0, [])),
  (855, .iload_n ⟨3, zfin3⟩, 856, (0, 0, 0, [])),
  (856, .iconst 2, 857, (0, 0, 0, [])),
  (857, .iadd, 858, (0, 0, 0, [])),
  (858, .iaload, 859, (0, 0, 0, [])),
  (859, .aload_n ⟨0, zfin0⟩, 860, (0, 0, 0, [])),
  (860, .iload_n ⟨3, zfin3⟩, 861, (0, 0, 0, [])),
  (861, .iconst 3, 862, (0, 0, 0, [])),
  (862, .iadd, 863, (0, 0, 0, [])),
  (863, .iaload, 864, (0, 0, 0, [])),
  (864, .invokevirtual 71, 867, (207, 4, 0, [12])),
  (867, .pop, 868, (0, 0, 0, [])),
  (868, .goto (1290), 871, (2158, 0, 0, []))]
set_option maxRecDepth 100000 in
theorem sh_12 : zSeg zk_L_law sg_12 := zSeg_of 534 37 828 (by decide +kernel) rfl (by decide +kernel)
set_option maxRecDepth 100000 in
theorem qL_12 (hJ : qJ M) (hn : n ≤ 4096) (hi : 0 ≤ i ∧ i + 8 ≤ n) (K : ∀ M', qJ M' → zG n (114, 4080270) 300 311 (2158, [zR 0, zR 8, zR 97, .inl i], []) M' qLQ) : zG n (114, 4080270) 300 311 (828, [zR 0, zR 8, zR 97, .inl i], []) M qLQ := by
  have hz : zP 311 = (zk_L_law, 4, (114, 4080270)) := rfl
  have hg := sh_12
  refine zG_blk (c' := (833, [zR 0, zR 8, zR 97, .inl i], [.inl (i + 1), zR 0, zR 8])) 5 (by decide) hz (zsteps_seg hg (by rw [show (.inl (i + 1) : zV) = .inl (w32 (i + 1)) from by rw [w32_id (by omega)]]; rfl)) ?_
  refine zG_iald (by decide) hz (hg _ _ rfl) rfl (.inr rfl) (by omega) ?_
  obtain ⟨x1, hx1⟩ : ∃ x : Int, x = M 0 (i + 1).toNat := ⟨_, rfl⟩
  rw [← hx1]
  have hr1 : qin x1 := by rw [hx1]; exact hJ.1.rng 0 _ (by decide) (by decide)
  show zG n (114, 4080270) 300 311 (834, [zR 0, zR 8, zR 97, .inl i], [.inl x1, zR 8]) M _
  refine zG_blk (c' := (838, [zR 0, zR 8, zR 97, .inl i], [.inl (i + 2), zR 0, .inl x1, zR 8])) 4 (by decide) hz (zsteps_seg hg (by rw [show (.inl (i + 2) : zV) = .inl (w32 (i + 2)) from by rw [w32_id (by omega)]]; rfl)) ?_
  refine zG_iald (by decide) hz (hg _ _ rfl) rfl (.inr rfl) (by omega) ?_
  obtain ⟨x2, hx2⟩ : ∃ x : Int, x = M 0 (i + 2).toNat := ⟨_, rfl⟩
  rw [← hx2]
  have hr2 : qin x2 := by rw [hx2]; exact hJ.1.rng 0 _ (by decide) (by decide)
  show zG n (114, 4080270) 300 311 (839, [zR 0, zR 8, zR 97, .inl i], [.inl x2, .inl x1, zR 8]) M _
  refine zG_blk (c' := (843, [zR 0, zR 8, zR 97, .inl i], [.inl (i + 3), zR 0, .inl x2, .inl x1, zR 8])) 4 (by decide) hz (zsteps_seg hg (by rw [show (.inl (i + 3) : zV) = .inl (w32 (i + 3)) from by rw [w32_id (by omega)]]; rfl)) ?_
  refine zG_iald (by decide) hz (hg _ _ rfl) rfl (.inr rfl) (by omega) ?_
  obtain ⟨x3, hx3⟩ : ∃ x : Int, x = M 0 (i + 3).toNat := ⟨_, rfl⟩
  rw [← hx3]
  have hr3 : qin x3 := by rw [hx3]; exact hJ.1.rng 0 _ (by decide) (by decide)
  show zG n (114, 4080270) 300 311 (844, [zR 0, zR 8, zR 97, .inl i], [.inl x3, .inl x2, .inl x1, zR 8]) M _
  refine zG_call (by decide) hz (rfl : zP 135 = (zk_X10_degree, 5, (0, 0))) (hg _ _ rfl) rfl (Nat.le_of_ble_eq_true rfl) ⟨Nat.le_of_ble_eq_true rfl, Nat.le_of_ble_eq_true rfl⟩ (zG.andH (qm_135_8 (by decide) hJ.1 x1 (by omega) x2 (by omega) x3 (by omega)) (fh_135_8 x1 x2 x3)) (fun vr M1 hr => ?_)
  obtain ⟨⟨⟨hC1, hF1⟩, -⟩, rfl, hM1⟩ := hr
  have hi := hF1.hi rfl
  have hI := hJ.2.1.same hi
  have hc0 : ∀ j, M1 0 j = M 0 j := fun j => hF1 0 j (by decide)
  show zG n (114, 4080270) 300 311 (847, [zR 0, zR 8, zR 97, .inl i], [.inl (hf_135_8 M x1 x2 x3).1]) M1 _
  refine zG_blk (c' := (853, [zR 0, zR 8, zR 97, .inl i], [.inl (i + 1), zR 0, zR 97])) 6 (by decide) hz (zsteps_seg hg (by rw [show (.inl (i + 1) : zV) = .inl (w32 (i + 1)) from by rw [w32_id (by omega)]]; rfl)) ?_
  refine zG_iald (by decide) hz (hg _ _ rfl) rfl (.inr rfl) (by omega) ?_
  rw [show M1 0 (i + 1).toNat = x1 from (hc0 _).trans hx1.symm]
  show zG n (114, 4080270) 300 311 (854, [zR 0, zR 8, zR 97, .inl i], [.inl x1, zR 97]) M1 _
  refine zG_blk (c' := (858, [zR 0, zR 8, zR 97, .inl i], [.inl (i + 2), zR 0, .inl x1, zR 97])) 4 (by decide) hz (zsteps_seg hg (by rw [show (.inl (i + 2) : zV) = .inl (w32 (i + 2)) from by rw [w32_id (by omega)]]; rfl)) ?_
  refine zG_iald (by decide) hz (hg _ _ rfl) rfl (.inr rfl) (by omega) ?_
  rw [show M1 0 (i + 2).toNat = x2 from (hc0 _).trans hx2.symm]
  show zG n (114, 4080270) 300 311 (859, [zR 0, zR 8, zR 97, .inl i], [.inl x2, .inl x1, zR 97]) M1 _
  refine zG_blk (c' := (863, [zR 0, zR 8, zR 97, .inl i], [.inl (i + 3), zR 0, .inl x2, .inl x1, zR 97])) 4 (by decide) hz (zsteps_seg hg (by rw [show (.inl (i + 3) : zV) = .inl (w32 (i + 3)) from by rw [w32_id (by omega)]]; rfl)) ?_
  refine zG_iald (by decide) hz (hg _ _ rfl) rfl (.inr rfl) (by omega) ?_
  rw [show M1 0 (i + 3).toNat = x3 from (hc0 _).trans hx3.symm]
  show zG n (114, 4080270) 300 311 (864, [zR 0, zR 8, zR 97, .inl i], [.inl x3, .inl x2, .inl x1, zR 97]) M1 _
  refine zG_call (by decide) hz (rfl : zP 207 = (zk_X11_degree, 4, (0, 0))) (hg _ _ rfl) rfl (Nat.le_of_ble_eq_true rfl) ⟨Nat.le_of_ble_eq_true rfl, Nat.le_of_ble_eq_true rfl⟩ (zG.andH (qm_207_97 (by decide) hI x1 (by omega) x2 (by omega) x3 (by omega)) (fh_207_97 x1 x2 x3)) (fun vr M2 hr => ?_)
  obtain ⟨⟨⟨hC2, hF2⟩, -⟩, rfl, hM2⟩ := hr
  have hm := hm_135 hJ.2.2.1 hJ.1.tb hJ.2.1.bd (a1 := x1) (a2 := x2) (a3 := x3)
  rw [← hM1] at hm
  rw [← hM2] at hm
  have hJ2 : qJ M2 := hJ.mut hC1 hF1 rfl rfl hC2 hF2 rfl (by decide) hm.2
  show zG n (114, 4080270) 300 311 (867, [zR 0, zR 8, zR 97, .inl i], [.inl (hf_207_97 M1 x1 x2 x3).1]) M2 _
  refine zG_blk (c' := (2158, [zR 0, zR 8, zR 97, .inl i], [])) 2 (by decide) hz (zsteps_seg hg rfl) ?_
  exact K M2 hJ2
def sg_13 : List zE := [(871, .aload_n ⟨1, zfin1⟩, 872, (0, 0, 0, [])),
  (872, .aload_n ⟨0, zfin0⟩, 873, (0, 0, 0, [])),
  (873, .iload_n ⟨3, zfin3⟩, 874, (0, 0, 0, [])),
  (874, .iconst 1, 875, (0, 0, 0, [])),
  (875, .iadd, 876, (0, 0, 0, [])),
  (876, .iaload, 877, (0, 0, 0, [])),
  (877, .aload_n ⟨0, zfin0⟩, 878, (0, 0, 0, [])),
  (878, .iload_n ⟨3, zfin3⟩, 879, (0, 0, 0, [])),
  (879, .iconst 2, 880, (0, 0, 0, [])),
  (880, .iadd, 881, (0, 0, 0, [])),
  (881, .iaload, 882, (0, 0, 0, [])),
  (882, .invokevirtual 72, 885, (136, 3, 0, [11])),
  (885, .pop, 886, (0, 0, 0, [])),
  (886, .aload_n ⟨2, zfin2⟩, 887, (0, 0, 0, [])),
  (887, .aload_n ⟨0, zfin0⟩, 888, (0, 0, 0, [])),
  (888, .iload_n ⟨3, zfin3⟩, 889, (0, 0, 0, [])),
  (889, .iconst 1, 890, (0, 0, 0, [])),
  (890, .iadd, 891, (0, 0, 0, [])),
  (891, .iaload, 892, (0, 0, 0, [])),
  (892, .aload_n ⟨0, zfin0⟩, 893, (0, 0, 0, [])),
  (893, .iload_n ⟨3, zfin3⟩, 894, (0, 0, 0, [])),
  (894, .iconst 2, 895, (0, 0, 0, [])),
  (895, .iadd, 896, (0, 0, 0, [])),
  (896, .iaload, 897, (0, 0, 0, [])),
  (897, .invokevirtual 75, 900, (208, 3, 0, [12])),
  (900, .pop, 901, (0, 0, 0, [])),
  (901, .goto (1257), 904, (2158, 0, 0, []))]
set_option maxRecDepth 100000 in
theorem sh_13 : zSeg zk_L_law sg_13 := zSeg_of 571 27 871 (by decide +kernel) rfl (by decide +kernel)
set_option maxRecDepth 100000 in
theorem qL_13 (hJ : qJ M) (hn : n ≤ 4096) (hi : 0 ≤ i ∧ i + 8 ≤ n) (K : ∀ M', qJ M' → zG n (114, 4080270) 300 311 (2158, [zR 0, zR 8, zR 97, .inl i], []) M' qLQ) : zG n (114, 4080270) 300 311 (871, [zR 0, zR 8, zR 97, .inl i], []) M qLQ := by
  have hz : zP 311 = (zk_L_law, 4, (114, 4080270)) := rfl
  have hg := sh_13
  refine zG_blk (c' := (876, [zR 0, zR 8, zR 97, .inl i], [.inl (i + 1), zR 0, zR 8])) 5 (by decide) hz (zsteps_seg hg (by rw [show (.inl (i + 1) : zV) = .inl (w32 (i + 1)) from by rw [w32_id (by omega)]]; rfl)) ?_
  refine zG_iald (by decide) hz (hg _ _ rfl) rfl (.inr rfl) (by omega) ?_
  obtain ⟨x1, hx1⟩ : ∃ x : Int, x = M 0 (i + 1).toNat := ⟨_, rfl⟩
  rw [← hx1]
  have hr1 : qin x1 := by rw [hx1]; exact hJ.1.rng 0 _ (by decide) (by decide)
  show zG n (114, 4080270) 300 311 (877, [zR 0, zR 8, zR 97, .inl i], [.inl x1, zR 8]) M _
  refine zG_blk (c' := (881, [zR 0, zR 8, zR 97, .inl i], [.inl (i + 2), zR 0, .inl x1, zR 8])) 4 (by decide) hz (zsteps_seg hg (by rw [show (.inl (i + 2) : zV) = .inl (w32 (i + 2)) from by rw [w32_id (by omega)]]; rfl)) ?_
  refine zG_iald (by decide) hz (hg _ _ rfl) rfl (.inr rfl) (by omega) ?_
  obtain ⟨x2, hx2⟩ : ∃ x : Int, x = M 0 (i + 2).toNat := ⟨_, rfl⟩
  rw [← hx2]
  have hr2 : qin x2 := by rw [hx2]; exact hJ.1.rng 0 _ (by decide) (by decide)
  show zG n (114, 4080270) 300 311 (882, [zR 0, zR 8, zR 97, .inl i], [.inl x2, .inl x1, zR 8]) M _
  refine zG_call (by decide) hz (rfl : zP 136 = (zk_X10_appeal, 5, (0, 0))) (hg _ _ rfl) rfl (Nat.le_of_ble_eq_true rfl) ⟨Nat.le_of_ble_eq_true rfl, Nat.le_of_ble_eq_true rfl⟩ (zG.andH (qm_136_8 (by decide) hJ.1 x1 (by omega) x2 (by omega)) (fh_136_8 x1 x2)) (fun vr M1 hr => ?_)
  obtain ⟨⟨⟨hC1, hF1⟩, -⟩, rfl, hM1⟩ := hr
  have hi := hF1.hi rfl
  have hI := hJ.2.1.same hi
  have hc0 : ∀ j, M1 0 j = M 0 j := fun j => hF1 0 j (by decide)
  show zG n (114, 4080270) 300 311 (885, [zR 0, zR 8, zR 97, .inl i], [.inl (hf_136_8 M x1 x2).1]) M1 _
  refine zG_blk (c' := (891, [zR 0, zR 8, zR 97, .inl i], [.inl (i + 1), zR 0, zR 97])) 6 (by decide) hz (zsteps_seg hg (by rw [show (.inl (i + 1) : zV) = .inl (w32 (i + 1)) from by rw [w32_id (by omega)]]; rfl)) ?_
  refine zG_iald (by decide) hz (hg _ _ rfl) rfl (.inr rfl) (by omega) ?_
  rw [show M1 0 (i + 1).toNat = x1 from (hc0 _).trans hx1.symm]
  show zG n (114, 4080270) 300 311 (892, [zR 0, zR 8, zR 97, .inl i], [.inl x1, zR 97]) M1 _
  refine zG_blk (c' := (896, [zR 0, zR 8, zR 97, .inl i], [.inl (i + 2), zR 0, .inl x1, zR 97])) 4 (by decide) hz (zsteps_seg hg (by rw [show (.inl (i + 2) : zV) = .inl (w32 (i + 2)) from by rw [w32_id (by omega)]]; rfl)) ?_
  refine zG_iald (by decide) hz (hg _ _ rfl) rfl (.inr rfl) (by omega) ?_
  rw [show M1 0 (i + 2).toNat = x2 from (hc0 _).trans hx2.symm]
  show zG n (114, 4080270) 300 311 (897, [zR 0, zR 8, zR 97, .inl i], [.inl x2, .inl x1, zR 97]) M1 _
  refine zG_call (by decide) hz (rfl : zP 208 = (zk_X11_appeal, 3, (0, 0))) (hg _ _ rfl) rfl (Nat.le_of_ble_eq_true rfl) ⟨Nat.le_of_ble_eq_true rfl, Nat.le_of_ble_eq_true rfl⟩ (zG.andH (qm_208_97 (by decide) hI x1 (by omega) x2 (by omega)) (fh_208_97 x1 x2)) (fun vr M2 hr => ?_)
  obtain ⟨⟨⟨hC2, hF2⟩, -⟩, rfl, hM2⟩ := hr
  have hm := hm_136 hJ.2.2.1 hJ.1.tb hJ.2.1.bd (a1 := x1) (a2 := x2)
  rw [← hM1] at hm
  rw [← hM2] at hm
  have hJ2 : qJ M2 := hJ.mut hC1 hF1 rfl rfl hC2 hF2 rfl (by decide) hm.2
  show zG n (114, 4080270) 300 311 (900, [zR 0, zR 8, zR 97, .inl i], [.inl (hf_208_97 M1 x1 x2).1]) M2 _
  refine zG_blk (c' := (2158, [zR 0, zR 8, zR 97, .inl i], [])) 2 (by decide) hz (zsteps_seg hg rfl) ?_
  exact K M2 hJ2
def sg_14 : List zE := [(904, .aload_n ⟨1, zfin1⟩, 905, (0, 0, 0, [])),
  (905, .aload_n ⟨0, zfin0⟩, 906, (0, 0, 0, [])),
  (906, .iload_n ⟨3, zfin3⟩, 907, (0, 0, 0, [])),
  (907, .iconst 1, 908, (0, 0, 0, [])),
  (908, .iadd, 909, (0, 0, 0, [])),
  (909, .iaload, 910, (0, 0, 0, [])),
  (910, .invokevirtual 76, 913, (137, 2, 0, [11])),
  (913, .pop, 914, (0, 0, 0, [])),
  (914, .aload_n ⟨2, zfin2⟩, 915, (0, 0, 0, [])),
  (915, .aload_n ⟨0, zfin0⟩, 916, (0, 0, 0, [])),
  (916, .iload_n ⟨3, zfin3⟩, 917, (0, 0, 0, [])),
  (917, .iconst 1, 918, (0, 0, 0, [])),
  (918, .iadd, 919, (0, 0, 0, [])),
  (919, .iaload, 920, (0, 0, 0, [])),
  (920, .invokevirtual 79, 923, (209, 2, 0, [12])),
  (923, .pop, 924, (0, 0, 0, [])),
  (924, .goto (1234), 927, (2158, 0, 0, []))]
set_option maxRecDepth 100000 in
theorem sh_14 : zSeg zk_L_law sg_14 := zSeg_of 598 17 904 (by decide +kernel) rfl (by decide +kernel)
set_option maxRecDepth 100000 in
theorem qL_14 (hJ : qJ M) (hn : n ≤ 4096) (hi : 0 ≤ i ∧ i + 8 ≤ n) (K : ∀ M', qJ M' → zG n (114, 4080270) 300 311 (2158, [zR 0, zR 8, zR 97, .inl i], []) M' qLQ) : zG n (114, 4080270) 300 311 (904, [zR 0, zR 8, zR 97, .inl i], []) M qLQ := by
  have hz : zP 311 = (zk_L_law, 4, (114, 4080270)) := rfl
  have hg := sh_14
  refine zG_blk (c' := (909, [zR 0, zR 8, zR 97, .inl i], [.inl (i + 1), zR 0, zR 8])) 5 (by decide) hz (zsteps_seg hg (by rw [show (.inl (i + 1) : zV) = .inl (w32 (i + 1)) from by rw [w32_id (by omega)]]; rfl)) ?_
  refine zG_iald (by decide) hz (hg _ _ rfl) rfl (.inr rfl) (by omega) ?_
  obtain ⟨x1, hx1⟩ : ∃ x : Int, x = M 0 (i + 1).toNat := ⟨_, rfl⟩
  rw [← hx1]
  have hr1 : qin x1 := by rw [hx1]; exact hJ.1.rng 0 _ (by decide) (by decide)
  show zG n (114, 4080270) 300 311 (910, [zR 0, zR 8, zR 97, .inl i], [.inl x1, zR 8]) M _
  refine zG_call (by decide) hz (rfl : zP 137 = (zk_X10_days, 3, (0, 0))) (hg _ _ rfl) rfl (Nat.le_of_ble_eq_true rfl) ⟨Nat.le_of_ble_eq_true rfl, Nat.le_of_ble_eq_true rfl⟩ (zG.andH (qm_137_8 (by decide) hJ.1 x1 (by omega)) (fh_137_8 x1)) (fun vr M1 hr => ?_)
  obtain ⟨⟨⟨hC1, hF1⟩, -⟩, rfl, hM1⟩ := hr
  have hi := hF1.hi rfl
  have hI := hJ.2.1.same hi
  have hc0 : ∀ j, M1 0 j = M 0 j := fun j => hF1 0 j (by decide)
  show zG n (114, 4080270) 300 311 (913, [zR 0, zR 8, zR 97, .inl i], [.inl (hf_137_8 M x1).1]) M1 _
  refine zG_blk (c' := (919, [zR 0, zR 8, zR 97, .inl i], [.inl (i + 1), zR 0, zR 97])) 6 (by decide) hz (zsteps_seg hg (by rw [show (.inl (i + 1) : zV) = .inl (w32 (i + 1)) from by rw [w32_id (by omega)]]; rfl)) ?_
  refine zG_iald (by decide) hz (hg _ _ rfl) rfl (.inr rfl) (by omega) ?_
  rw [show M1 0 (i + 1).toNat = x1 from (hc0 _).trans hx1.symm]
  show zG n (114, 4080270) 300 311 (920, [zR 0, zR 8, zR 97, .inl i], [.inl x1, zR 97]) M1 _
  refine zG_call (by decide) hz (rfl : zP 209 = (zk_X11_days, 3, (0, 0))) (hg _ _ rfl) rfl (Nat.le_of_ble_eq_true rfl) ⟨Nat.le_of_ble_eq_true rfl, Nat.le_of_ble_eq_true rfl⟩ (zG.andH (qm_209_97 (by decide) hI x1 (by omega)) (fh_209_97 x1)) (fun vr M2 hr => ?_)
  obtain ⟨⟨⟨hC2, hF2⟩, -⟩, rfl, hM2⟩ := hr
  have hm := hm_137 hJ.2.2.1 hJ.1.tb hJ.2.1.bd (a1 := x1)
  rw [← hM1] at hm
  rw [← hM2] at hm
  have hJ2 : qJ M2 := hJ.mut hC1 hF1 rfl rfl hC2 hF2 rfl (by decide) hm.2
  show zG n (114, 4080270) 300 311 (923, [zR 0, zR 8, zR 97, .inl i], [.inl (hf_209_97 M1 x1).1]) M2 _
  refine zG_blk (c' := (2158, [zR 0, zR 8, zR 97, .inl i], [])) 2 (by decide) hz (zsteps_seg hg rfl) ?_
  exact K M2 hJ2
def sg_15 : List zE := [(927, .aload_n ⟨1, zfin1⟩, 928, (0, 0, 0, [])),
  (928, .aload_n ⟨0, zfin0⟩, 929, (0, 0, 0, [])),
  (929, .iload_n ⟨3, zfin3⟩, 930, (0, 0, 0, [])),
  (930, .iconst 1, 931, (0, 0, 0, [])),
  (931, .iadd, 932, (0, 0, 0, [])),
  (932, .iaload, 933, (0, 0, 0, [])),
  (933, .aload_n ⟨0, zfin0⟩, 934, (0, 0, 0, [])),
  (934, .iload_n ⟨3, zfin3⟩, 935, (0, 0, 0, [])),
  (935, .iconst 2, 936, (0, 0, 0, [])),
  (936, .iadd, 937, (0, 0, 0, [])),
  (937, .iaload, 938, (0, 0, 0, [])),
  (938, .invokevirtual 80, 941, (138, 3, 0, [11])),
  (941, .pop, 942, (0, 0, 0, [])),
  (942, .aload_n ⟨2, zfin2⟩, 943, (0, 0, 0, [])),
  (943, .aload_n ⟨0, zfin0⟩, 944, (0, 0, 0, [])),
  (944, .iload_n ⟨3, zfin3⟩, 945, (0, 0, 0, [])),
  (945, .iconst 1, 946, (0, 0, 0, [])),
  (946, .iadd, 947, (0, 0, 0, [])),
  (947, .iaload, 948, (0, 0, 0, [])),
  (948, .aload_n ⟨0, zfin0⟩, 949, (0, 0, 0, [])),
  (949, .iload_n ⟨3, zfin3⟩, 950, (0, 0, 0, [])),
  (950, .iconst 2, 951, (0, 0, 0, [])),
  (951, .iadd, 952, (0, 0, 0, [])),
  (952, .iaload, 953, (0, 0, 0, [])),
  (953, .invokevirtual 83, 956, (210, 3, 0, [12])),
  (956, .pop, 957, (0, 0, 0, [])),
  (957, .goto (1201), 960, (2158, 0, 0, []))]
set_option maxRecDepth 100000 in
theorem sh_15 : zSeg zk_L_law sg_15 := zSeg_of 615 27 927 (by decide +kernel) rfl (by decide +kernel)
set_option maxRecDepth 100000 in
theorem qL_15 (hJ : qJ M) (hn : n ≤ 4096) (hi : 0 ≤ i ∧ i + 8 ≤ n) (K : ∀ M', qJ M' → zG n (114, 4080270) 300 311 (2158, [zR 0, zR 8, zR 97, .inl i], []) M' qLQ) : zG n (114, 4080270) 300 311 (927, [zR 0, zR 8, zR 97, .inl i], []) M qLQ := by
  have hz : zP 311 = (zk_L_law, 4, (114, 4080270)) := rfl
  have hg := sh_15
  refine zG_blk (c' := (932, [zR 0, zR 8, zR 97, .inl i], [.inl (i + 1), zR 0, zR 8])) 5 (by decide) hz (zsteps_seg hg (by rw [show (.inl (i + 1) : zV) = .inl (w32 (i + 1)) from by rw [w32_id (by omega)]]; rfl)) ?_
  refine zG_iald (by decide) hz (hg _ _ rfl) rfl (.inr rfl) (by omega) ?_
  obtain ⟨x1, hx1⟩ : ∃ x : Int, x = M 0 (i + 1).toNat := ⟨_, rfl⟩
  rw [← hx1]
  have hr1 : qin x1 := by rw [hx1]; exact hJ.1.rng 0 _ (by decide) (by decide)
  show zG n (114, 4080270) 300 311 (933, [zR 0, zR 8, zR 97, .inl i], [.inl x1, zR 8]) M _
  refine zG_blk (c' := (937, [zR 0, zR 8, zR 97, .inl i], [.inl (i + 2), zR 0, .inl x1, zR 8])) 4 (by decide) hz (zsteps_seg hg (by rw [show (.inl (i + 2) : zV) = .inl (w32 (i + 2)) from by rw [w32_id (by omega)]]; rfl)) ?_
  refine zG_iald (by decide) hz (hg _ _ rfl) rfl (.inr rfl) (by omega) ?_
  obtain ⟨x2, hx2⟩ : ∃ x : Int, x = M 0 (i + 2).toNat := ⟨_, rfl⟩
  rw [← hx2]
  have hr2 : qin x2 := by rw [hx2]; exact hJ.1.rng 0 _ (by decide) (by decide)
  show zG n (114, 4080270) 300 311 (938, [zR 0, zR 8, zR 97, .inl i], [.inl x2, .inl x1, zR 8]) M _
  refine zG_call (by decide) hz (rfl : zP 138 = (zk_X10_about, 3, (0, 0))) (hg _ _ rfl) rfl (Nat.le_of_ble_eq_true rfl) ⟨Nat.le_of_ble_eq_true rfl, Nat.le_of_ble_eq_true rfl⟩ (zG.andH (qm_138_8 (by decide) hJ.1 x1 (by omega) x2 (by omega)) (fh_138_8 x1 x2)) (fun vr M1 hr => ?_)
  obtain ⟨⟨hq, -⟩, rfl, -⟩ := hr
  replace hq := hq.symm; subst hq
  have hc0 : ∀ j, M 0 j = M 0 j := fun _ => rfl
  show zG n (114, 4080270) 300 311 (941, [zR 0, zR 8, zR 97, .inl i], [.inl (hf_138_8 M x1 x2)]) M _
  refine zG_blk (c' := (947, [zR 0, zR 8, zR 97, .inl i], [.inl (i + 1), zR 0, zR 97])) 6 (by decide) hz (zsteps_seg hg (by rw [show (.inl (i + 1) : zV) = .inl (w32 (i + 1)) from by rw [w32_id (by omega)]]; rfl)) ?_
  refine zG_iald (by decide) hz (hg _ _ rfl) rfl (.inr rfl) (by omega) ?_
  rw [show M 0 (i + 1).toNat = x1 from hx1.symm]
  show zG n (114, 4080270) 300 311 (948, [zR 0, zR 8, zR 97, .inl i], [.inl x1, zR 97]) M _
  refine zG_blk (c' := (952, [zR 0, zR 8, zR 97, .inl i], [.inl (i + 2), zR 0, .inl x1, zR 97])) 4 (by decide) hz (zsteps_seg hg (by rw [show (.inl (i + 2) : zV) = .inl (w32 (i + 2)) from by rw [w32_id (by omega)]]; rfl)) ?_
  refine zG_iald (by decide) hz (hg _ _ rfl) rfl (.inr rfl) (by omega) ?_
  rw [show M 0 (i + 2).toNat = x2 from hx2.symm]
  show zG n (114, 4080270) 300 311 (953, [zR 0, zR 8, zR 97, .inl i], [.inl x2, .inl x1, zR 97]) M _
  refine zG_call (by decide) hz (rfl : zP 210 = (zk_X11_about, 3, (0, 0))) (hg _ _ rfl) rfl (Nat.le_of_ble_eq_true rfl) ⟨Nat.le_of_ble_eq_true rfl, Nat.le_of_ble_eq_true rfl⟩ (zG.andH (qm_210_97 (by decide) hJ.2.1 x1 (by omega) x2 (by omega)) (fh_210_97 x1 x2)) (fun vr M2 hr => ?_)
  obtain ⟨⟨hq, -⟩, rfl, -⟩ := hr
  replace hq := hq.symm; subst hq
  show zG n (114, 4080270) 300 311 (956, [zR 0, zR 8, zR 97, .inl i], [.inl (hf_210_97 M x1 x2)]) M _
  refine zG_blk (c' := (2158, [zR 0, zR 8, zR 97, .inl i], [])) 2 (by decide) hz (zsteps_seg hg rfl) ?_
  exact K M hJ
def sg_16 : List zE := [(960, .aload_n ⟨1, zfin1⟩, 961, (0, 0, 0, [])),
  (961, .aload_n ⟨0, zfin0⟩, 962, (0, 0, 0, [])),
  (962, .iload_n ⟨3, zfin3⟩, 963, (0, 0, 0, [])),
  (963, .iconst 1, 964, (0, 0, 0, [])),
  (964, .iadd, 965, (0, 0, 0, [])),
  (965, .iaload, 966, (0, 0, 0, [])),
  (966, .aload_n ⟨0, zfin0⟩, 967, (0, 0, 0, [])),
  (967, .iload_n ⟨3, zfin3⟩, 968, (0, 0, 0, [])),
  (968, .iconst 2, 969, (0, 0, 0, [])),
  (969, .iadd, 970, (0, 0, 0, [])),
  (970, .iaload, 971, (0, 0, 0, [])),
  (971, .invokevirtual 84, 974, (139, 3, 0, [11])),
  (974, .pop, 975, (0, 0, 0, [])),
  (975, .aload_n ⟨2, zfin2⟩, 976, (0, 0, 0, [])),
  (976, .aload_n ⟨0, zfin0⟩, 977, (0, 0, 0, [])),
  (977, .iload_n ⟨3, zfin3⟩, 978, (0, 0, 0, [])),
  (978, .iconst 1, 979, (0, 0, 0, [])),
  (979, .iadd, 980, (0, 0, 0, [])),
  (980, .iaload, 981, (0, 0, 0, [])),
  (981, .aload_n ⟨0, zfin0⟩, 982, (0, 0, 0, [])),
  (982, .iload_n ⟨3, zfin3⟩, 983, (0, 0, 0, [])),
  (983, .iconst 2, 984, (0, 0, 0, [])),
  (984, .iadd, 985, (0, 0, 0, [])),
  (985, .iaload, 986, (0, 0, 0, [])),
  (986, .invokevirtual 87, 989, (212, 3, 0, [12])),
  (989, .pop, 990, (0, 0, 0, [])),
  (990, .goto (1168), 993, (2158, 0, 0, []))]
set_option maxRecDepth 100000 in
theorem sh_16 : zSeg zk_L_law sg_16 := zSeg_of 642 27 960 (by decide +kernel) rfl (by decide +kernel)
set_option maxRecDepth 100000 in
theorem qL_16 (hJ : qJ M) (hn : n ≤ 4096) (hi : 0 ≤ i ∧ i + 8 ≤ n) (K : ∀ M', qJ M' → zG n (114, 4080270) 300 311 (2158, [zR 0, zR 8, zR 97, .inl i], []) M' qLQ) : zG n (114, 4080270) 300 311 (960, [zR 0, zR 8, zR 97, .inl i], []) M qLQ := by
  have hz : zP 311 = (zk_L_law, 4, (114, 4080270)) := rfl
  have hg := sh_16
  refine zG_blk (c' := (965, [zR 0, zR 8, zR 97, .inl i], [.inl (i + 1), zR 0, zR 8])) 5 (by decide) hz (zsteps_seg hg (by rw [show (.inl (i + 1) : zV) = .inl (w32 (i + 1)) from by rw [w32_id (by omega)]]; rfl)) ?_
  refine zG_iald (by decide) hz (hg _ _ rfl) rfl (.inr rfl) (by omega) ?_
  obtain ⟨x1, hx1⟩ : ∃ x : Int, x = M 0 (i + 1).toNat := ⟨_, rfl⟩
  rw [← hx1]
  have hr1 : qin x1 := by rw [hx1]; exact hJ.1.rng 0 _ (by decide) (by decide)
  show zG n (114, 4080270) 300 311 (966, [zR 0, zR 8, zR 97, .inl i], [.inl x1, zR 8]) M _
  refine zG_blk (c' := (970, [zR 0, zR 8, zR 97, .inl i], [.inl (i + 2), zR 0, .inl x1, zR 8])) 4 (by decide) hz (zsteps_seg hg (by rw [show (.inl (i + 2) : zV) = .inl (w32 (i + 2)) from by rw [w32_id (by omega)]]; rfl)) ?_
  refine zG_iald (by decide) hz (hg _ _ rfl) rfl (.inr rfl) (by omega) ?_
  obtain ⟨x2, hx2⟩ : ∃ x : Int, x = M 0 (i + 2).toNat := ⟨_, rfl⟩
  rw [← hx2]
  have hr2 : qin x2 := by rw [hx2]; exact hJ.1.rng 0 _ (by decide) (by decide)
  show zG n (114, 4080270) 300 311 (971, [zR 0, zR 8, zR 97, .inl i], [.inl x2, .inl x1, zR 8]) M _
  refine zG_call (by decide) hz (rfl : zP 139 = (zk_X10_counts, 3, (0, 0))) (hg _ _ rfl) rfl (Nat.le_of_ble_eq_true rfl) ⟨Nat.le_of_ble_eq_true rfl, Nat.le_of_ble_eq_true rfl⟩ (qm_139_8 (by decide) hJ.1 x1 (by omega) x2 (by omega)) (fun vr M1 hr => ?_)
  obtain ⟨⟨hCM1, hFM1⟩, hr⟩ := hr
  have hJM1 : qJ M1 := hJ.cls hCM1 hFM1 rfl rfl
  have hc0 : ∀ j, M1 0 j = M 0 j := fun j => hFM1 0 j (by decide)
  obtain ⟨r1, rfl, -⟩ := hr
  show zG n (114, 4080270) 300 311 (974, [zR 0, zR 8, zR 97, .inl i], [.inl r1]) M1 _
  refine zG_blk (c' := (980, [zR 0, zR 8, zR 97, .inl i], [.inl (i + 1), zR 0, zR 97])) 6 (by decide) hz (zsteps_seg hg (by rw [show (.inl (i + 1) : zV) = .inl (w32 (i + 1)) from by rw [w32_id (by omega)]]; rfl)) ?_
  refine zG_iald (by decide) hz (hg _ _ rfl) rfl (.inr rfl) (by omega) ?_
  rw [show M1 0 (i + 1).toNat = x1 from (hc0 _).trans hx1.symm]
  show zG n (114, 4080270) 300 311 (981, [zR 0, zR 8, zR 97, .inl i], [.inl x1, zR 97]) M1 _
  refine zG_blk (c' := (985, [zR 0, zR 8, zR 97, .inl i], [.inl (i + 2), zR 0, .inl x1, zR 97])) 4 (by decide) hz (zsteps_seg hg (by rw [show (.inl (i + 2) : zV) = .inl (w32 (i + 2)) from by rw [w32_id (by omega)]]; rfl)) ?_
  refine zG_iald (by decide) hz (hg _ _ rfl) rfl (.inr rfl) (by omega) ?_
  rw [show M1 0 (i + 2).toNat = x2 from (hc0 _).trans hx2.symm]
  show zG n (114, 4080270) 300 311 (986, [zR 0, zR 8, zR 97, .inl i], [.inl x2, .inl x1, zR 97]) M1 _
  refine zG_call (by decide) hz (rfl : zP 212 = (zk_X11_counts, 3, (0, 0))) (hg _ _ rfl) rfl (Nat.le_of_ble_eq_true rfl) ⟨Nat.le_of_ble_eq_true rfl, Nat.le_of_ble_eq_true rfl⟩ (qm_212_97 (by decide) hJM1.2.1 x1 (by omega) x2 (by omega)) (fun vr M2 hr => ?_)
  obtain ⟨⟨hCM2, hFM2⟩, hr⟩ := hr
  have hJM2 : qJ M2 := hJM1.mdl hCM2 hFM2 rfl (by decide) (fun j _ _ _ _ => hFM2.ar 98 j (by decide) (by decide))
  obtain ⟨r2, hv9⟩ := hr
  first | (obtain ⟨rfl, -⟩ := hv9) | (obtain rfl := hv9)
  show zG n (114, 4080270) 300 311 (989, [zR 0, zR 8, zR 97, .inl i], [.inl r2]) M2 _
  refine zG_blk (c' := (2158, [zR 0, zR 8, zR 97, .inl i], [])) 2 (by decide) hz (zsteps_seg hg rfl) ?_
  exact K M2 hJM2
def sg_17 : List zE := [(993, .aload_n ⟨1, zfin1⟩, 994, (0, 0, 0, [])),
  (994, .aload_n ⟨0, zfin0⟩, 995, (0, 0, 0, [])),
  (995, .iload_n ⟨3, zfin3⟩, 996, (0, 0, 0, [])),
  (996, .iconst 1, 997, (0, 0, 0, [])),
  (997, .iadd, 998, (0, 0, 0, [])),
  (998, .iaload, 999, (0, 0, 0, [])),
  (999, .aload_n ⟨0, zfin0⟩, 1000, (0, 0, 0, [])),
  (1000, .iload_n ⟨3, zfin3⟩, 1001, (0, 0, 0, [])),
  (1001, .iconst 2, 1002, (0, 0, 0, [])),
  (1002, .iadd, 1003, (0, 0, 0, [])),
  (1003, .iaload, 1004, (0, 0, 0, [])),
  (1004, .aload_n ⟨0, zfin0⟩, 1005, (0, 0, 0, [])),
  (1005, .iload_n ⟨3, zfin3⟩, 1006, (0, 0, 0, [])),
  (1006, .iconst 3, 1007, (0, 0, 0, [])),
  (1007, .iadd, 1008, (0, 0, 0, [])),
  (1008, .iaload, 1009, (0, 0, 0, [])),
  (1009, .invokevirtual 88, 1012, (140, 4, 0, [11])),
  (1012, .pop, 1013, (0, 0, 0, [])),
  (1013, .aload_n ⟨2, zfin2⟩, 1014, (0, 0, 0, [])),
  (1014, .aload_n ⟨0, zfin0⟩, 1015, (0, 0, 0, [])),
  (1015, .iload_n ⟨3, zfin3⟩, 1016, (0, 0, 0, [])),
  (1016, .iconst 1, 1017, (0, 0, 0, [])),
  (1017, .iadd, 1018, (0, 0, 0, [])),
  (1018, .iaload, 1019, (0, 0, 0, [])),
  (1019, .aload_n ⟨0, zfin0⟩, 1020, (0, 0, 0, [])),
  (1020, .iload_n ⟨3, zfin3⟩, 1021, (0, 0, 0, [])),
  (1021, .iconst 2, 1022, (0, 0, 0, [])),
  (1022, .iadd, 1023, (0, 0, 0, [])),
  (1023, .iaload, 1024, (0, 0, 0, [])),
  (1024, .aload_n ⟨0, zfin0⟩, 1025, (0, 0, 0, [])),
  (1025, .iload_n ⟨3, zfin3⟩, 1026, (0, 0, 0, [])),
  (1026, .iconst 3, 1027, (0, 0, 0, [])),
  (1027, .iadd, 1028, (0, 0, 0, [])),
  (1028, .iaload, 1029, (0, 0, 0, [])),
  (1029, .invokevirtual 91, 1032, (217, 4, 0, [12])),
  (1032, .pop, 1033, (0, 0, 0, [])),
  (1033, .goto (1125), 1036, (2158, 0, 0, []))]
set_option maxRecDepth 100000 in
theorem sh_17 : zSeg zk_L_law sg_17 := zSeg_of 669 37 993 (by decide +kernel) rfl (by decide +kernel)
set_option maxRecDepth 100000 in
theorem qL_17 (hJ : qJ M) (hn : n ≤ 4096) (hi : 0 ≤ i ∧ i + 8 ≤ n) (K : ∀ M', qJ M' → zG n (114, 4080270) 300 311 (2158, [zR 0, zR 8, zR 97, .inl i], []) M' qLQ) : zG n (114, 4080270) 300 311 (993, [zR 0, zR 8, zR 97, .inl i], []) M qLQ := by
  have hz : zP 311 = (zk_L_law, 4, (114, 4080270)) := rfl
  have hg := sh_17
  refine zG_blk (c' := (998, [zR 0, zR 8, zR 97, .inl i], [.inl (i + 1), zR 0, zR 8])) 5 (by decide) hz (zsteps_seg hg (by rw [show (.inl (i + 1) : zV) = .inl (w32 (i + 1)) from by rw [w32_id (by omega)]]; rfl)) ?_
  refine zG_iald (by decide) hz (hg _ _ rfl) rfl (.inr rfl) (by omega) ?_
  obtain ⟨x1, hx1⟩ : ∃ x : Int, x = M 0 (i + 1).toNat := ⟨_, rfl⟩
  rw [← hx1]
  have hr1 : qin x1 := by rw [hx1]; exact hJ.1.rng 0 _ (by decide) (by decide)
  show zG n (114, 4080270) 300 311 (999, [zR 0, zR 8, zR 97, .inl i], [.inl x1, zR 8]) M _
  refine zG_blk (c' := (1003, [zR 0, zR 8, zR 97, .inl i], [.inl (i + 2), zR 0, .inl x1, zR 8])) 4 (by decide) hz (zsteps_seg hg (by rw [show (.inl (i + 2) : zV) = .inl (w32 (i + 2)) from by rw [w32_id (by omega)]]; rfl)) ?_
  refine zG_iald (by decide) hz (hg _ _ rfl) rfl (.inr rfl) (by omega) ?_
  obtain ⟨x2, hx2⟩ : ∃ x : Int, x = M 0 (i + 2).toNat := ⟨_, rfl⟩
  rw [← hx2]
  have hr2 : qin x2 := by rw [hx2]; exact hJ.1.rng 0 _ (by decide) (by decide)
  show zG n (114, 4080270) 300 311 (1004, [zR 0, zR 8, zR 97, .inl i], [.inl x2, .inl x1, zR 8]) M _
  refine zG_blk (c' := (1008, [zR 0, zR 8, zR 97, .inl i], [.inl (i + 3), zR 0, .inl x2, .inl x1, zR 8])) 4 (by decide) hz (zsteps_seg hg (by rw [show (.inl (i + 3) : zV) = .inl (w32 (i + 3)) from by rw [w32_id (by omega)]]; rfl)) ?_
  refine zG_iald (by decide) hz (hg _ _ rfl) rfl (.inr rfl) (by omega) ?_
  obtain ⟨x3, hx3⟩ : ∃ x : Int, x = M 0 (i + 3).toNat := ⟨_, rfl⟩
  rw [← hx3]
  have hr3 : qin x3 := by rw [hx3]; exact hJ.1.rng 0 _ (by decide) (by decide)
  show zG n (114, 4080270) 300 311 (1009, [zR 0, zR 8, zR 97, .inl i], [.inl x3, .inl x2, .inl x1, zR 8]) M _
  refine zG_call (by decide) hz (rfl : zP 140 = (zk_X10_step, 4, (0, 0))) (hg _ _ rfl) rfl (Nat.le_of_ble_eq_true rfl) ⟨Nat.le_of_ble_eq_true rfl, Nat.le_of_ble_eq_true rfl⟩ (qm_140_8 (by decide) hJ.1 x1 (by omega) x2 (by omega) x3 (by omega)) (fun vr M1 hr => ?_)
  obtain ⟨⟨hCM1, hFM1⟩, hr⟩ := hr
  have hJM1 : qJ M1 := hJ.cls hCM1 hFM1 rfl rfl
  have hc0 : ∀ j, M1 0 j = M 0 j := fun j => hFM1 0 j (by decide)
  obtain ⟨r1, rfl, -⟩ := hr
  show zG n (114, 4080270) 300 311 (1012, [zR 0, zR 8, zR 97, .inl i], [.inl r1]) M1 _
  refine zG_blk (c' := (1018, [zR 0, zR 8, zR 97, .inl i], [.inl (i + 1), zR 0, zR 97])) 6 (by decide) hz (zsteps_seg hg (by rw [show (.inl (i + 1) : zV) = .inl (w32 (i + 1)) from by rw [w32_id (by omega)]]; rfl)) ?_
  refine zG_iald (by decide) hz (hg _ _ rfl) rfl (.inr rfl) (by omega) ?_
  rw [show M1 0 (i + 1).toNat = x1 from (hc0 _).trans hx1.symm]
  show zG n (114, 4080270) 300 311 (1019, [zR 0, zR 8, zR 97, .inl i], [.inl x1, zR 97]) M1 _
  refine zG_blk (c' := (1023, [zR 0, zR 8, zR 97, .inl i], [.inl (i + 2), zR 0, .inl x1, zR 97])) 4 (by decide) hz (zsteps_seg hg (by rw [show (.inl (i + 2) : zV) = .inl (w32 (i + 2)) from by rw [w32_id (by omega)]]; rfl)) ?_
  refine zG_iald (by decide) hz (hg _ _ rfl) rfl (.inr rfl) (by omega) ?_
  rw [show M1 0 (i + 2).toNat = x2 from (hc0 _).trans hx2.symm]
  show zG n (114, 4080270) 300 311 (1024, [zR 0, zR 8, zR 97, .inl i], [.inl x2, .inl x1, zR 97]) M1 _
  refine zG_blk (c' := (1028, [zR 0, zR 8, zR 97, .inl i], [.inl (i + 3), zR 0, .inl x2, .inl x1, zR 97])) 4 (by decide) hz (zsteps_seg hg (by rw [show (.inl (i + 3) : zV) = .inl (w32 (i + 3)) from by rw [w32_id (by omega)]]; rfl)) ?_
  refine zG_iald (by decide) hz (hg _ _ rfl) rfl (.inr rfl) (by omega) ?_
  rw [show M1 0 (i + 3).toNat = x3 from (hc0 _).trans hx3.symm]
  show zG n (114, 4080270) 300 311 (1029, [zR 0, zR 8, zR 97, .inl i], [.inl x3, .inl x2, .inl x1, zR 97]) M1 _
  refine zG_call (by decide) hz (rfl : zP 217 = (zk_X11_step, 4, (0, 0))) (hg _ _ rfl) rfl (Nat.le_of_ble_eq_true rfl) ⟨Nat.le_of_ble_eq_true rfl, Nat.le_of_ble_eq_true rfl⟩ (qm_217_97 (by decide) hJM1.2.1 x1 (by omega) x2 (by omega) x3 (by omega)) (fun vr M2 hr => ?_)
  obtain ⟨⟨hCM2, hFM2⟩, hr⟩ := hr
  have hJM2 : qJ M2 := hJM1.mdl hCM2 hFM2 rfl (by decide) (fun j _ _ _ _ => hFM2.ar 98 j (by decide) (by decide))
  obtain ⟨r2, hv9⟩ := hr
  first | (obtain ⟨rfl, -⟩ := hv9) | (obtain rfl := hv9)
  show zG n (114, 4080270) 300 311 (1032, [zR 0, zR 8, zR 97, .inl i], [.inl r2]) M2 _
  refine zG_blk (c' := (2158, [zR 0, zR 8, zR 97, .inl i], [])) 2 (by decide) hz (zsteps_seg hg rfl) ?_
  exact K M2 hJM2
def sg_18 : List zE := [(1036, .aload_n ⟨1, zfin1⟩, 1037, (0, 0, 0, [])),
  (1037, .aload_n ⟨0, zfin0⟩, 1038, (0, 0, 0, [])),
  (1038, .iload_n ⟨3, zfin3⟩, 1039, (0, 0, 0, [])),
  (1039, .iconst 1, 1040, (0, 0, 0, [])),
  (1040, .iadd, 1041, (0, 0, 0, [])),
  (1041, .iaload, 1042, (0, 0, 0, [])),
  (1042, .aload_n ⟨0, zfin0⟩, 1043, (0, 0, 0, [])),
  (1043, .iload_n ⟨3, zfin3⟩, 1044, (0, 0, 0, [])),
  (1044, .iconst 2, 1045, (0, 0, 0, [])),
  (1045, .iadd, 1046, (0, 0, 0, [])),
  (1046, .iaload, 1047, (0, 0, 0, [])),
  (1047, .aload_n ⟨0, zfin0⟩, 1048, (0, 0, 0, [])),
  (1048, .iload_n ⟨3, zfin3⟩, 1049, (0, 0, 0, [])),
  (1049, .iconst 3, 1050, (0, 0, 0, [])),
  (1050, .iadd, 1051, (0, 0, 0, [])),
  (1051, .iaload, 1052, (0, 0, 0, [])),
  (1052, .aload_n ⟨0, zfin0⟩, 1053, (0, 0, 0, [])),
  (1053, .iload_n ⟨3, zfin3⟩, 1054, (0, 0, 0, [])),
  (1054, .iconst 4, 1055, (0, 0, 0, [])),
  (1055, .iadd, 1056, (0, 0, 0, [])),
  (1056, .iaload, 1057, (0, 0, 0, [])),
  (1057, .invokevirtual 92, 1060, (141, 5, 0, [11])),
  (1060, .pop, 1061, (0, 0, 0, [])),
  (1061, .aload_n ⟨2, zfin2⟩, 1062, (0, 0, 0, [])),
  (1062, .aload_n ⟨0, zfin0⟩, 1063, (0, 0, 0, [])),
  (1063, .iload_n ⟨3, zfin3⟩, 1064, (0, 0, 0, [])),
  (1064, .iconst 1, 1065, (0, 0, 0, [])),
  (1065, .iadd, 1066, (0, 0, 0, [])),
  (1066, .iaload, 1067, (0, 0, 0, [])),
  (1067, .aload_n ⟨0, zfin0⟩, 1068, (0, 0, 0, [])),
  (1068, .iload_n ⟨3, zfin3⟩, 1069, (0, 0, 0, [])),
  (1069, .iconst 2, 1070, (0, 0, 0, [])),
  (1070, .iadd, 1071, (0, 0, 0, [])),
  (1071, .iaload, 1072, (0, 0, 0, [])),
  (1072, .aload_n ⟨0, zfin0⟩, 1073, (0, 0, 0, [])),
  (1073, .iload_n ⟨3, zfin3⟩, 1074, (0, 0, 0, [])),
  (1074, .iconst 3, 1075, (0, 0, 0, [])),
  (1075, .iadd, 1076, (0, 0, 0, [])),
  (1076, .iaload, 1077, (0, 0, 0, [])),
  (1077, .aload_n ⟨0, zfin0⟩, 1078, (0, 0, 0, [])),
  (1078, .iload_n ⟨3, zfin3⟩, 1079, (0, 0, 0, [])),
  (1079, .iconst 4, 1080, (0, 0, 0, [])),
  (1080, .iadd, 1081, (0, 0, 0, [])),
  (1081, .iaload, 1082, (0, 0, 0, [])),
  (1082, .invokevirtual 95, 1085, (219, 5, 0, [12])),
  (1085, .pop, 1086, (0, 0, 0, [])),
  (1086, .goto (1072), 1089, (2158, 0, 0, []))]
set_option maxRecDepth 100000 in
theorem sh_18 : zSeg zk_L_law sg_18 := zSeg_of 706 47 1036 (by decide +kernel) rfl (by decide +kernel)
set_option maxRecDepth 100000 in
theorem qL_18 (hJ : qJ M) (hn : n ≤ 4096) (hi : 0 ≤ i ∧ i + 8 ≤ n) (K : ∀ M', qJ M' → zG n (114, 4080270) 300 311 (2158, [zR 0, zR 8, zR 97, .inl i], []) M' qLQ) : zG n (114, 4080270) 300 311 (1036, [zR 0, zR 8, zR 97, .inl i], []) M qLQ := by
  have hz : zP 311 = (zk_L_law, 4, (114, 4080270)) := rfl
  have hg := sh_18
  refine zG_blk (c' := (1041, [zR 0, zR 8, zR 97, .inl i], [.inl (i + 1), zR 0, zR 8])) 5 (by decide) hz (zsteps_seg hg (by rw [show (.inl (i + 1) : zV) = .inl (w32 (i + 1)) from by rw [w32_id (by omega)]]; rfl)) ?_
  refine zG_iald (by decide) hz (hg _ _ rfl) rfl (.inr rfl) (by omega) ?_
  obtain ⟨x1, hx1⟩ : ∃ x : Int, x = M 0 (i + 1).toNat := ⟨_, rfl⟩
  rw [← hx1]
  have hr1 : qin x1 := by rw [hx1]; exact hJ.1.rng 0 _ (by decide) (by decide)
  show zG n (114, 4080270) 300 311 (1042, [zR 0, zR 8, zR 97, .inl i], [.inl x1, zR 8]) M _
  refine zG_blk (c' := (1046, [zR 0, zR 8, zR 97, .inl i], [.inl (i + 2), zR 0, .inl x1, zR 8])) 4 (by decide) hz (zsteps_seg hg (by rw [show (.inl (i + 2) : zV) = .inl (w32 (i + 2)) from by rw [w32_id (by omega)]]; rfl)) ?_
  refine zG_iald (by decide) hz (hg _ _ rfl) rfl (.inr rfl) (by omega) ?_
  obtain ⟨x2, hx2⟩ : ∃ x : Int, x = M 0 (i + 2).toNat := ⟨_, rfl⟩
  rw [← hx2]
  have hr2 : qin x2 := by rw [hx2]; exact hJ.1.rng 0 _ (by decide) (by decide)
  show zG n (114, 4080270) 300 311 (1047, [zR 0, zR 8, zR 97, .inl i], [.inl x2, .inl x1, zR 8]) M _
  refine zG_blk (c' := (1051, [zR 0, zR 8, zR 97, .inl i], [.inl (i + 3), zR 0, .inl x2, .inl x1, zR 8])) 4 (by decide) hz (zsteps_seg hg (by rw [show (.inl (i + 3) : zV) = .inl (w32 (i + 3)) from by rw [w32_id (by omega)]]; rfl)) ?_
  refine zG_iald (by decide) hz (hg _ _ rfl) rfl (.inr rfl) (by omega) ?_
  obtain ⟨x3, hx3⟩ : ∃ x : Int, x = M 0 (i + 3).toNat := ⟨_, rfl⟩
  rw [← hx3]
  have hr3 : qin x3 := by rw [hx3]; exact hJ.1.rng 0 _ (by decide) (by decide)
  show zG n (114, 4080270) 300 311 (1052, [zR 0, zR 8, zR 97, .inl i], [.inl x3, .inl x2, .inl x1, zR 8]) M _
  refine zG_blk (c' := (1056, [zR 0, zR 8, zR 97, .inl i], [.inl (i + 4), zR 0, .inl x3, .inl x2, .inl x1, zR 8])) 4 (by decide) hz (zsteps_seg hg (by rw [show (.inl (i + 4) : zV) = .inl (w32 (i + 4)) from by rw [w32_id (by omega)]]; rfl)) ?_
  refine zG_iald (by decide) hz (hg _ _ rfl) rfl (.inr rfl) (by omega) ?_
  obtain ⟨x4, hx4⟩ : ∃ x : Int, x = M 0 (i + 4).toNat := ⟨_, rfl⟩
  rw [← hx4]
  have hr4 : qin x4 := by rw [hx4]; exact hJ.1.rng 0 _ (by decide) (by decide)
  show zG n (114, 4080270) 300 311 (1057, [zR 0, zR 8, zR 97, .inl i], [.inl x4, .inl x3, .inl x2, .inl x1, zR 8]) M _
  refine zG_call (by decide) hz (rfl : zP 141 = (zk_X10_outcome, 5, (0, 0))) (hg _ _ rfl) rfl (Nat.le_of_ble_eq_true rfl) ⟨Nat.le_of_ble_eq_true rfl, Nat.le_of_ble_eq_true rfl⟩ (qm_141_8 (by decide) hJ.1 x1 (by omega) x2 (by omega) x3 (by omega) x4 (by omega)) (fun vr M1 hr => ?_)
  obtain ⟨⟨hCM1, hFM1⟩, hr⟩ := hr
  have hJM1 : qJ M1 := hJ.cls hCM1 hFM1 rfl rfl
  have hc0 : ∀ j, M1 0 j = M 0 j := fun j => hFM1 0 j (by decide)
  obtain ⟨r1, rfl, -⟩ := hr
  show zG n (114, 4080270) 300 311 (1060, [zR 0, zR 8, zR 97, .inl i], [.inl r1]) M1 _
  refine zG_blk (c' := (1066, [zR 0, zR 8, zR 97, .inl i], [.inl (i + 1), zR 0, zR 97])) 6 (by decide) hz (zsteps_seg hg (by rw [show (.inl (i + 1) : zV) = .inl (w32 (i + 1)) from by rw [w32_id (by omega)]]; rfl)) ?_
  refine zG_iald (by decide) hz (hg _ _ rfl) rfl (.inr rfl) (by omega) ?_
  rw [show M1 0 (i + 1).toNat = x1 from (hc0 _).trans hx1.symm]
  show zG n (114, 4080270) 300 311 (1067, [zR 0, zR 8, zR 97, .inl i], [.inl x1, zR 97]) M1 _
  refine zG_blk (c' := (1071, [zR 0, zR 8, zR 97, .inl i], [.inl (i + 2), zR 0, .inl x1, zR 97])) 4 (by decide) hz (zsteps_seg hg (by rw [show (.inl (i + 2) : zV) = .inl (w32 (i + 2)) from by rw [w32_id (by omega)]]; rfl)) ?_
  refine zG_iald (by decide) hz (hg _ _ rfl) rfl (.inr rfl) (by omega) ?_
  rw [show M1 0 (i + 2).toNat = x2 from (hc0 _).trans hx2.symm]
  show zG n (114, 4080270) 300 311 (1072, [zR 0, zR 8, zR 97, .inl i], [.inl x2, .inl x1, zR 97]) M1 _
  refine zG_blk (c' := (1076, [zR 0, zR 8, zR 97, .inl i], [.inl (i + 3), zR 0, .inl x2, .inl x1, zR 97])) 4 (by decide) hz (zsteps_seg hg (by rw [show (.inl (i + 3) : zV) = .inl (w32 (i + 3)) from by rw [w32_id (by omega)]]; rfl)) ?_
  refine zG_iald (by decide) hz (hg _ _ rfl) rfl (.inr rfl) (by omega) ?_
  rw [show M1 0 (i + 3).toNat = x3 from (hc0 _).trans hx3.symm]
  show zG n (114, 4080270) 300 311 (1077, [zR 0, zR 8, zR 97, .inl i], [.inl x3, .inl x2, .inl x1, zR 97]) M1 _
  refine zG_blk (c' := (1081, [zR 0, zR 8, zR 97, .inl i], [.inl (i + 4), zR 0, .inl x3, .inl x2, .inl x1, zR 97])) 4 (by decide) hz (zsteps_seg hg (by rw [show (.inl (i + 4) : zV) = .inl (w32 (i + 4)) from by rw [w32_id (by omega)]]; rfl)) ?_
  refine zG_iald (by decide) hz (hg _ _ rfl) rfl (.inr rfl) (by omega) ?_
  rw [show M1 0 (i + 4).toNat = x4 from (hc0 _).trans hx4.symm]
  show zG n (114, 4080270) 300 311 (1082, [zR 0, zR 8, zR 97, .inl i], [.inl x4, .inl x3, .inl x2, .inl x1, zR 97]) M1 _
  refine zG_call (by decide) hz (rfl : zP 219 = (zk_X11_outcome, 5, (0, 0))) (hg _ _ rfl) rfl (Nat.le_of_ble_eq_true rfl) ⟨Nat.le_of_ble_eq_true rfl, Nat.le_of_ble_eq_true rfl⟩ (qm_219_97 (by decide) hJM1.2.1 x1 (by omega) x2 (by omega) x3 (by omega) x4 (by omega)) (fun vr M2 hr => ?_)
  obtain ⟨⟨hCM2, hFM2⟩, hr⟩ := hr
  have hJM2 : qJ M2 := hJM1.mdl hCM2 hFM2 rfl (by decide) (fun j _ _ _ _ => hFM2.ar 98 j (by decide) (by decide))
  obtain ⟨r2, hv9⟩ := hr
  first | (obtain ⟨rfl, -⟩ := hv9) | (obtain rfl := hv9)
  show zG n (114, 4080270) 300 311 (1085, [zR 0, zR 8, zR 97, .inl i], [.inl r2]) M2 _
  refine zG_blk (c' := (2158, [zR 0, zR 8, zR 97, .inl i], [])) 2 (by decide) hz (zsteps_seg hg rfl) ?_
  exact K M2 hJM2
def sg_19 : List zE := [(1089, .aload_n ⟨1, zfin1⟩, 1090, (0, 0, 0, [])),
  (1090, .aload_n ⟨0, zfin0⟩, 1091, (0, 0, 0, [])),
  (1091, .iload_n ⟨3, zfin3⟩, 1092, (0, 0, 0, [])),
  (1092, .iconst 1, 1093, (0, 0, 0, [])),
  (1093, .iadd, 1094, (0, 0, 0, [])),
  (1094, .iaload, 1095, (0, 0, 0, [])),
  (1095, .aload_n ⟨0, zfin0⟩, 1096, (0, 0, 0, [])),
  (1096, .iload_n ⟨3, zfin3⟩, 1097, (0, 0, 0, [])),
  (1097, .iconst 2, 1098, (0, 0, 0, [])),
  (1098, .iadd, 1099, (0, 0, 0, [])),
  (1099, .iaload, 1100, (0, 0, 0, [])),
  (1100, .aload_n ⟨0, zfin0⟩, 1101, (0, 0, 0, [])),
  (1101, .iload_n ⟨3, zfin3⟩, 1102, (0, 0, 0, [])),
  (1102, .iconst 3, 1103, (0, 0, 0, [])),
  (1103, .iadd, 1104, (0, 0, 0, [])),
  (1104, .iaload, 1105, (0, 0, 0, [])),
  (1105, .invokevirtual 96, 1108, (142, 4, 0, [11])),
  (1108, .pop, 1109, (0, 0, 0, [])),
  (1109, .aload_n ⟨2, zfin2⟩, 1110, (0, 0, 0, [])),
  (1110, .aload_n ⟨0, zfin0⟩, 1111, (0, 0, 0, [])),
  (1111, .iload_n ⟨3, zfin3⟩, 1112, (0, 0, 0, [])),
  (1112, .iconst 1, 1113, (0, 0, 0, [])),
  (1113, .iadd, 1114, (0, 0, 0, [])),
  (1114, .iaload, 1115, (0, 0, 0, [])),
  (1115, .aload_n ⟨0, zfin0⟩, 1116, (0, 0, 0, [])),
  (1116, .iload_n ⟨3, zfin3⟩, 1117, (0, 0, 0, [])),
  (1117, .iconst 2, 1118, (0, 0, 0, [])),
  (1118, .iadd, 1119, (0, 0, 0, [])),
  (1119, .iaload, 1120, (0, 0, 0, [])),
  (1120, .aload_n ⟨0, zfin0⟩, 1121, (0, 0, 0, [])),
  (1121, .iload_n ⟨3, zfin3⟩, 1122, (0, 0, 0, [])),
  (1122, .iconst 3, 1123, (0, 0, 0, [])),
  (1123, .iadd, 1124, (0, 0, 0, [])),
  (1124, .iaload, 1125, (0, 0, 0, [])),
  (1125, .invokevirtual 99, 1128, (246, 4, 0, [12])),
  (1128, .pop, 1129, (0, 0, 0, [])),
  (1129, .goto (1029), 1132, (2158, 0, 0, []))]
set_option maxRecDepth 100000 in
theorem sh_19 : zSeg zk_L_law sg_19 := zSeg_of 753 37 1089 (by decide +kernel) rfl (by decide +kernel)
set_option maxRecDepth 100000 in
theorem qL_19 (hJ : qJ M) (hn : n ≤ 4096) (hi : 0 ≤ i ∧ i + 8 ≤ n) (K : ∀ M', qJ M' → zG n (114, 4080270) 300 311 (2158, [zR 0, zR 8, zR 97, .inl i], []) M' qLQ) : zG n (114, 4080270) 300 311 (1089, [zR 0, zR 8, zR 97, .inl i], []) M qLQ := by
  have hz : zP 311 = (zk_L_law, 4, (114, 4080270)) := rfl
  have hg := sh_19
  refine zG_blk (c' := (1094, [zR 0, zR 8, zR 97, .inl i], [.inl (i + 1), zR 0, zR 8])) 5 (by decide) hz (zsteps_seg hg (by rw [show (.inl (i + 1) : zV) = .inl (w32 (i + 1)) from by rw [w32_id (by omega)]]; rfl)) ?_
  refine zG_iald (by decide) hz (hg _ _ rfl) rfl (.inr rfl) (by omega) ?_
  obtain ⟨x1, hx1⟩ : ∃ x : Int, x = M 0 (i + 1).toNat := ⟨_, rfl⟩
  rw [← hx1]
  have hr1 : qin x1 := by rw [hx1]; exact hJ.1.rng 0 _ (by decide) (by decide)
  show zG n (114, 4080270) 300 311 (1095, [zR 0, zR 8, zR 97, .inl i], [.inl x1, zR 8]) M _
  refine zG_blk (c' := (1099, [zR 0, zR 8, zR 97, .inl i], [.inl (i + 2), zR 0, .inl x1, zR 8])) 4 (by decide) hz (zsteps_seg hg (by rw [show (.inl (i + 2) : zV) = .inl (w32 (i + 2)) from by rw [w32_id (by omega)]]; rfl)) ?_
  refine zG_iald (by decide) hz (hg _ _ rfl) rfl (.inr rfl) (by omega) ?_
  obtain ⟨x2, hx2⟩ : ∃ x : Int, x = M 0 (i + 2).toNat := ⟨_, rfl⟩
  rw [← hx2]
  have hr2 : qin x2 := by rw [hx2]; exact hJ.1.rng 0 _ (by decide) (by decide)
  show zG n (114, 4080270) 300 311 (1100, [zR 0, zR 8, zR 97, .inl i], [.inl x2, .inl x1, zR 8]) M _
  refine zG_blk (c' := (1104, [zR 0, zR 8, zR 97, .inl i], [.inl (i + 3), zR 0, .inl x2, .inl x1, zR 8])) 4 (by decide) hz (zsteps_seg hg (by rw [show (.inl (i + 3) : zV) = .inl (w32 (i + 3)) from by rw [w32_id (by omega)]]; rfl)) ?_
  refine zG_iald (by decide) hz (hg _ _ rfl) rfl (.inr rfl) (by omega) ?_
  obtain ⟨x3, hx3⟩ : ∃ x : Int, x = M 0 (i + 3).toNat := ⟨_, rfl⟩
  rw [← hx3]
  have hr3 : qin x3 := by rw [hx3]; exact hJ.1.rng 0 _ (by decide) (by decide)
  show zG n (114, 4080270) 300 311 (1105, [zR 0, zR 8, zR 97, .inl i], [.inl x3, .inl x2, .inl x1, zR 8]) M _
  refine zG_call (by decide) hz (rfl : zP 142 = (zk_X10_passed, 4, (0, 0))) (hg _ _ rfl) rfl (Nat.le_of_ble_eq_true rfl) ⟨Nat.le_of_ble_eq_true rfl, Nat.le_of_ble_eq_true rfl⟩ (qm_142_8 (by decide) hJ.1 x1 (by omega) x2 (by omega) x3 (by omega)) (fun vr M1 hr => ?_)
  obtain ⟨⟨hCM1, hFM1⟩, hr⟩ := hr
  have hJM1 : qJ M1 := hJ.cls hCM1 hFM1 rfl rfl
  have hc0 : ∀ j, M1 0 j = M 0 j := fun j => hFM1 0 j (by decide)
  obtain ⟨r1, rfl, -⟩ := hr
  show zG n (114, 4080270) 300 311 (1108, [zR 0, zR 8, zR 97, .inl i], [.inl r1]) M1 _
  refine zG_blk (c' := (1114, [zR 0, zR 8, zR 97, .inl i], [.inl (i + 1), zR 0, zR 97])) 6 (by decide) hz (zsteps_seg hg (by rw [show (.inl (i + 1) : zV) = .inl (w32 (i + 1)) from by rw [w32_id (by omega)]]; rfl)) ?_
  refine zG_iald (by decide) hz (hg _ _ rfl) rfl (.inr rfl) (by omega) ?_
  rw [show M1 0 (i + 1).toNat = x1 from (hc0 _).trans hx1.symm]
  show zG n (114, 4080270) 300 311 (1115, [zR 0, zR 8, zR 97, .inl i], [.inl x1, zR 97]) M1 _
  refine zG_blk (c' := (1119, [zR 0, zR 8, zR 97, .inl i], [.inl (i + 2), zR 0, .inl x1, zR 97])) 4 (by decide) hz (zsteps_seg hg (by rw [show (.inl (i + 2) : zV) = .inl (w32 (i + 2)) from by rw [w32_id (by omega)]]; rfl)) ?_
  refine zG_iald (by decide) hz (hg _ _ rfl) rfl (.inr rfl) (by omega) ?_
  rw [show M1 0 (i + 2).toNat = x2 from (hc0 _).trans hx2.symm]
  show zG n (114, 4080270) 300 311 (1120, [zR 0, zR 8, zR 97, .inl i], [.inl x2, .inl x1, zR 97]) M1 _
  refine zG_blk (c' := (1124, [zR 0, zR 8, zR 97, .inl i], [.inl (i + 3), zR 0, .inl x2, .inl x1, zR 97])) 4 (by decide) hz (zsteps_seg hg (by rw [show (.inl (i + 3) : zV) = .inl (w32 (i + 3)) from by rw [w32_id (by omega)]]; rfl)) ?_
  refine zG_iald (by decide) hz (hg _ _ rfl) rfl (.inr rfl) (by omega) ?_
  rw [show M1 0 (i + 3).toNat = x3 from (hc0 _).trans hx3.symm]
  show zG n (114, 4080270) 300 311 (1125, [zR 0, zR 8, zR 97, .inl i], [.inl x3, .inl x2, .inl x1, zR 97]) M1 _
  refine zG_call (by decide) hz (rfl : zP 246 = (zk_X11_passed, 4, (0, 0))) (hg _ _ rfl) rfl (Nat.le_of_ble_eq_true rfl) ⟨Nat.le_of_ble_eq_true rfl, Nat.le_of_ble_eq_true rfl⟩ (qm_246_97 (by decide) hJM1.2.1 x1 (by omega) x2 (by omega) x3 (by omega)) (fun vr M2 hr => ?_)
  obtain ⟨⟨hCM2, hFM2⟩, hr⟩ := hr
  have hJM2 : qJ M2 := hJM1.mdl hCM2 hFM2 rfl (by decide) (fun j _ _ _ _ => hFM2.ar 98 j (by decide) (by decide))
  obtain ⟨r2, hv9⟩ := hr
  first | (obtain ⟨rfl, -⟩ := hv9) | (obtain rfl := hv9)
  show zG n (114, 4080270) 300 311 (1128, [zR 0, zR 8, zR 97, .inl i], [.inl r2]) M2 _
  refine zG_blk (c' := (2158, [zR 0, zR 8, zR 97, .inl i], [])) 2 (by decide) hz (zsteps_seg hg rfl) ?_
  exact K M2 hJM2
def sg_20 : List zE := [(1132, .aload_n ⟨1, zfin1⟩, 1133, (0, 0, 0, [])),
  (1133, .aload_n ⟨0, zfin0⟩, 1134, (0, 0, 0, [])),
  (1134, .iload_n ⟨3, zfin3⟩, 1135, (0, 0, 0, [])),
  (1135, .iconst 1, 1136, (0, 0, 0, [])),
  (1136, .iadd, 1137, (0, 0, 0, [])),
  (1137, .iaload, 1138, (0, 0, 0, [])),
  (1138, .aload_n ⟨0, zfin0⟩, 1139, (0, 0, 0, [])),
  (1139, .iload_n ⟨3, zfin3⟩, 1140, (0, 0, 0, [])),
  (1140, .iconst 2, 1141, (0, 0, 0, [])),
  (1141, .iadd, 1142, (0, 0, 0, [])),
  (1142, .iaload, 1143, (0, 0, 0, [])),
  (1143, .aload_n ⟨0, zfin0⟩, 1144, (0, 0, 0, [])),
  (1144, .iload_n ⟨3, zfin3⟩, 1145, (0, 0, 0, [])),
  (1145, .iconst 3, 1146, (0, 0, 0, [])),
  (1146, .iadd, 1147, (0, 0, 0, [])),
  (1147, .iaload, 1148, (0, 0, 0, [])),
  (1148, .invokevirtual 100, 1151, (143, 4, 0, [11])),
  (1151, .pop, 1152, (0, 0, 0, [])),
  (1152, .aload_n ⟨2, zfin2⟩, 1153, (0, 0, 0, [])),
  (1153, .aload_n ⟨0, zfin0⟩, 1154, (0, 0, 0, [])),
  (1154, .iload_n ⟨3, zfin3⟩, 1155, (0, 0, 0, [])),
  (1155, .iconst 1, 1156, (0, 0, 0, [])),
  (1156, .iadd, 1157, (0, 0, 0, [])),
  (1157, .iaload, 1158, (0, 0, 0, [])),
  (1158, .aload_n ⟨0, zfin0⟩, 1159, (0, 0, 0, [])),
  (1159, .iload_n ⟨3, zfin3⟩, 1160, (0, 0, 0, [])),
  (1160, .iconst 2, 1161, (0, 0, 0, [])),
  (1161, .iadd, 1162, (0, 0, 0, [])),
  (1162, .iaload, 1163, (0, 0, 0, [])),
  (1163, .aload_n ⟨0, zfin0⟩, 1164, (0, 0, 0, [])),
  (1164, .iload_n ⟨3, zfin3⟩, 1165, (0, 0, 0, [])),
  (1165, .iconst 3, 1166, (0, 0, 0, [])),
  (1166, .iadd, 1167, (0, 0, 0, [])),
  (1167, .iaload, 1168, (0, 0, 0, [])),
  (1168, .invokevirtual 103, 1171, (247, 4, 0, [12])),
  (1171, .pop, 1172, (0, 0, 0, [])),
  (1172, .goto (986), 1175, (2158, 0, 0, []))]
set_option maxRecDepth 100000 in
theorem sh_20 : zSeg zk_L_law sg_20 := zSeg_of 790 37 1132 (by decide +kernel) rfl (by decide +kernel)
set_option maxRecDepth 100000 in
theorem qL_20 (hJ : qJ M) (hn : n ≤ 4096) (hi : 0 ≤ i ∧ i + 8 ≤ n) (K : ∀ M', qJ M' → zG n (114, 4080270) 300 311 (2158, [zR 0, zR 8, zR 97, .inl i], []) M' qLQ) : zG n (114, 4080270) 300 311 (1132, [zR 0, zR 8, zR 97, .inl i], []) M qLQ := by
  have hz : zP 311 = (zk_L_law, 4, (114, 4080270)) := rfl
  have hg := sh_20
  refine zG_blk (c' := (1137, [zR 0, zR 8, zR 97, .inl i], [.inl (i + 1), zR 0, zR 8])) 5 (by decide) hz (zsteps_seg hg (by rw [show (.inl (i + 1) : zV) = .inl (w32 (i + 1)) from by rw [w32_id (by omega)]]; rfl)) ?_
  refine zG_iald (by decide) hz (hg _ _ rfl) rfl (.inr rfl) (by omega) ?_
  obtain ⟨x1, hx1⟩ : ∃ x : Int, x = M 0 (i + 1).toNat := ⟨_, rfl⟩
  rw [← hx1]
  have hr1 : qin x1 := by rw [hx1]; exact hJ.1.rng 0 _ (by decide) (by decide)
  show zG n (114, 4080270) 300 311 (1138, [zR 0, zR 8, zR 97, .inl i], [.inl x1, zR 8]) M _
  refine zG_blk (c' := (1142, [zR 0, zR 8, zR 97, .inl i], [.inl (i + 2), zR 0, .inl x1, zR 8])) 4 (by decide) hz (zsteps_seg hg (by rw [show (.inl (i + 2) : zV) = .inl (w32 (i + 2)) from by rw [w32_id (by omega)]]; rfl)) ?_
  refine zG_iald (by decide) hz (hg _ _ rfl) rfl (.inr rfl) (by omega) ?_
  obtain ⟨x2, hx2⟩ : ∃ x : Int, x = M 0 (i + 2).toNat := ⟨_, rfl⟩
  rw [← hx2]
  have hr2 : qin x2 := by rw [hx2]; exact hJ.1.rng 0 _ (by decide) (by decide)
  show zG n (114, 4080270) 300 311 (1143, [zR 0, zR 8, zR 97, .inl i], [.inl x2, .inl x1, zR 8]) M _
  refine zG_blk (c' := (1147, [zR 0, zR 8, zR 97, .inl i], [.inl (i + 3), zR 0, .inl x2, .inl x1, zR 8])) 4 (by decide) hz (zsteps_seg hg (by rw [show (.inl (i + 3) : zV) = .inl (w32 (i + 3)) from by rw [w32_id (by omega)]]; rfl)) ?_
  refine zG_iald (by decide) hz (hg _ _ rfl) rfl (.inr rfl) (by omega) ?_
  obtain ⟨x3, hx3⟩ : ∃ x : Int, x = M 0 (i + 3).toNat := ⟨_, rfl⟩
  rw [← hx3]
  have hr3 : qin x3 := by rw [hx3]; exact hJ.1.rng 0 _ (by decide) (by decide)
  show zG n (114, 4080270) 300 311 (1148, [zR 0, zR 8, zR 97, .inl i], [.inl x3, .inl x2, .inl x1, zR 8]) M _
  refine zG_call (by decide) hz (rfl : zP 143 = (zk_X10_grade, 4, (0, 0))) (hg _ _ rfl) rfl (Nat.le_of_ble_eq_true rfl) ⟨Nat.le_of_ble_eq_true rfl, Nat.le_of_ble_eq_true rfl⟩ (qm_143_8 (by decide) hJ.1 x1 (by omega) x2 (by omega) x3 (by omega)) (fun vr M1 hr => ?_)
  obtain ⟨⟨hCM1, hFM1⟩, hr⟩ := hr
  have hJM1 : qJ M1 := hJ.cls hCM1 hFM1 rfl rfl
  have hc0 : ∀ j, M1 0 j = M 0 j := fun j => hFM1 0 j (by decide)
  obtain ⟨r1, rfl, -⟩ := hr
  show zG n (114, 4080270) 300 311 (1151, [zR 0, zR 8, zR 97, .inl i], [.inl r1]) M1 _
  refine zG_blk (c' := (1157, [zR 0, zR 8, zR 97, .inl i], [.inl (i + 1), zR 0, zR 97])) 6 (by decide) hz (zsteps_seg hg (by rw [show (.inl (i + 1) : zV) = .inl (w32 (i + 1)) from by rw [w32_id (by omega)]]; rfl)) ?_
  refine zG_iald (by decide) hz (hg _ _ rfl) rfl (.inr rfl) (by omega) ?_
  rw [show M1 0 (i + 1).toNat = x1 from (hc0 _).trans hx1.symm]
  show zG n (114, 4080270) 300 311 (1158, [zR 0, zR 8, zR 97, .inl i], [.inl x1, zR 97]) M1 _
  refine zG_blk (c' := (1162, [zR 0, zR 8, zR 97, .inl i], [.inl (i + 2), zR 0, .inl x1, zR 97])) 4 (by decide) hz (zsteps_seg hg (by rw [show (.inl (i + 2) : zV) = .inl (w32 (i + 2)) from by rw [w32_id (by omega)]]; rfl)) ?_
  refine zG_iald (by decide) hz (hg _ _ rfl) rfl (.inr rfl) (by omega) ?_
  rw [show M1 0 (i + 2).toNat = x2 from (hc0 _).trans hx2.symm]
  show zG n (114, 4080270) 300 311 (1163, [zR 0, zR 8, zR 97, .inl i], [.inl x2, .inl x1, zR 97]) M1 _
  refine zG_blk (c' := (1167, [zR 0, zR 8, zR 97, .inl i], [.inl (i + 3), zR 0, .inl x2, .inl x1, zR 97])) 4 (by decide) hz (zsteps_seg hg (by rw [show (.inl (i + 3) : zV) = .inl (w32 (i + 3)) from by rw [w32_id (by omega)]]; rfl)) ?_
  refine zG_iald (by decide) hz (hg _ _ rfl) rfl (.inr rfl) (by omega) ?_
  rw [show M1 0 (i + 3).toNat = x3 from (hc0 _).trans hx3.symm]
  show zG n (114, 4080270) 300 311 (1168, [zR 0, zR 8, zR 97, .inl i], [.inl x3, .inl x2, .inl x1, zR 97]) M1 _
  refine zG_call (by decide) hz (rfl : zP 247 = (zk_X11_grade, 4, (0, 0))) (hg _ _ rfl) rfl (Nat.le_of_ble_eq_true rfl) ⟨Nat.le_of_ble_eq_true rfl, Nat.le_of_ble_eq_true rfl⟩ (qm_247_97 (by decide) hJM1.2.1 x1 (by omega) x2 (by omega) x3 (by omega)) (fun vr M2 hr => ?_)
  obtain ⟨⟨hCM2, hFM2⟩, hr⟩ := hr
  have hJM2 : qJ M2 := hJM1.mdl hCM2 hFM2 rfl (by decide) (fun j _ _ _ _ => hFM2.ar 98 j (by decide) (by decide))
  obtain ⟨r2, hv9⟩ := hr
  first | (obtain ⟨rfl, -⟩ := hv9) | (obtain rfl := hv9)
  show zG n (114, 4080270) 300 311 (1171, [zR 0, zR 8, zR 97, .inl i], [.inl r2]) M2 _
  refine zG_blk (c' := (2158, [zR 0, zR 8, zR 97, .inl i], [])) 2 (by decide) hz (zsteps_seg hg rfl) ?_
  exact K M2 hJM2
def sg_21 : List zE := [(1175, .aload_n ⟨1, zfin1⟩, 1176, (0, 0, 0, [])),
  (1176, .aload_n ⟨0, zfin0⟩, 1177, (0, 0, 0, [])),
  (1177, .iload_n ⟨3, zfin3⟩, 1178, (0, 0, 0, [])),
  (1178, .iconst 1, 1179, (0, 0, 0, [])),
  (1179, .iadd, 1180, (0, 0, 0, [])),
  (1180, .iaload, 1181, (0, 0, 0, [])),
  (1181, .aload_n ⟨0, zfin0⟩, 1182, (0, 0, 0, [])),
  (1182, .iload_n ⟨3, zfin3⟩, 1183, (0, 0, 0, [])),
  (1183, .iconst 2, 1184, (0, 0, 0, [])),
  (1184, .iadd, 1185, (0, 0, 0, [])),
  (1185, .iaload, 1186, (0, 0, 0, [])),
  (1186, .aload_n ⟨0, zfin0⟩, 1187, (0, 0, 0, [])),
  (1187, .iload_n ⟨3, zfin3⟩, 1188, (0, 0, 0, [])),
  (1188, .iconst 3, 1189, (0, 0, 0, [])),
  (1189, .iadd, 1190, (0, 0, 0, [])),
  (1190, .iaload, 1191, (0, 0, 0, [])),
  (1191, .aload_n ⟨0, zfin0⟩, 1192, (0, 0, 0, [])),
  (1192, .iload_n ⟨3, zfin3⟩, 1193, (0, 0, 0, [])),
  (1193, .iconst 4, 1194, (0, 0, 0, [])),
  (1194, .iadd, 1195, (0, 0, 0, [])),
  (1195, .iaload, 1196, (0, 0, 0, [])),
  (1196, .invokevirtual 104, 1199, (144, 5, 0, [11])),
  (1199, .pop2, 1200, (0, 0, 0, [])),
  (1200, .aload_n ⟨2, zfin2⟩, 1201, (0, 0, 0, [])),
  (1201, .aload_n ⟨0, zfin0⟩, 1202, (0, 0, 0, [])),
  (1202, .iload_n ⟨3, zfin3⟩, 1203, (0, 0, 0, [])),
  (1203, .iconst 1, 1204, (0, 0, 0, [])),
  (1204, .iadd, 1205, (0, 0, 0, [])),
  (1205, .iaload, 1206, (0, 0, 0, [])),
  (1206, .aload_n ⟨0, zfin0⟩, 1207, (0, 0, 0, [])),
  (1207, .iload_n ⟨3, zfin3⟩, 1208, (0, 0, 0, [])),
  (1208, .iconst 2, 1209, (0, 0, 0, [])),
  (1209, .iadd, 1210, (0, 0, 0, [])),
  (1210, .iaload, 1211, (0, 0, 0, [])),
  (1211, .aload_n ⟨0, zfin0⟩, 1212, (0, 0, 0, [])),
  (1212, .iload_n ⟨3, zfin3⟩, 1213, (0, 0, 0, [])),
  (1213, .iconst 3, 1214, (0, 0, 0, [])),
  (1214, .iadd, 1215, (0, 0, 0, [])),
  (1215, .iaload, 1216, (0, 0, 0, [])),
  (1216, .aload_n ⟨0, zfin0⟩, 1217, (0, 0, 0, [])),
  (1217, .iload_n ⟨3, zfin3⟩, 1218, (0, 0, 0, [])),
  (1218, .iconst 4, 1219, (0, 0, 0, [])),
  (1219, .iadd, 1220, (0, 0, 0, [])),
  (1220, .iaload, 1221, (0, 0, 0, [])),
  (1221, .invokevirtual 108, 1224, (248, 5, 0, [12])),
  (1224, .pop2, 1225, (0, 0, 0, [])),
  (1225, .goto (933), 1228, (2158, 0, 0, []))]
set_option maxRecDepth 100000 in
theorem sh_21 : zSeg zk_L_law sg_21 := zSeg_of 827 47 1175 (by decide +kernel) rfl (by decide +kernel)
set_option maxRecDepth 100000 in
theorem qL_21 (hJ : qJ M) (hn : n ≤ 4096) (hi : 0 ≤ i ∧ i + 8 ≤ n) (K : ∀ M', qJ M' → zG n (114, 4080270) 300 311 (2158, [zR 0, zR 8, zR 97, .inl i], []) M' qLQ) : zG n (114, 4080270) 300 311 (1175, [zR 0, zR 8, zR 97, .inl i], []) M qLQ := by
  have hz : zP 311 = (zk_L_law, 4, (114, 4080270)) := rfl
  have hg := sh_21
  refine zG_blk (c' := (1180, [zR 0, zR 8, zR 97, .inl i], [.inl (i + 1), zR 0, zR 8])) 5 (by decide) hz (zsteps_seg hg (by rw [show (.inl (i + 1) : zV) = .inl (w32 (i + 1)) from by rw [w32_id (by omega)]]; rfl)) ?_
  refine zG_iald (by decide) hz (hg _ _ rfl) rfl (.inr rfl) (by omega) ?_
  obtain ⟨x1, hx1⟩ : ∃ x : Int, x = M 0 (i + 1).toNat := ⟨_, rfl⟩
  rw [← hx1]
  have hr1 : qin x1 := by rw [hx1]; exact hJ.1.rng 0 _ (by decide) (by decide)
  show zG n (114, 4080270) 300 311 (1181, [zR 0, zR 8, zR 97, .inl i], [.inl x1, zR 8]) M _
  refine zG_blk (c' := (1185, [zR 0, zR 8, zR 97, .inl i], [.inl (i + 2), zR 0, .inl x1, zR 8])) 4 (by decide) hz (zsteps_seg hg (by rw [show (.inl (i + 2) : zV) = .inl (w32 (i + 2)) from by rw [w32_id (by omega)]]; rfl)) ?_
  refine zG_iald (by decide) hz (hg _ _ rfl) rfl (.inr rfl) (by omega) ?_
  obtain ⟨x2, hx2⟩ : ∃ x : Int, x = M 0 (i + 2).toNat := ⟨_, rfl⟩
  rw [← hx2]
  have hr2 : qin x2 := by rw [hx2]; exact hJ.1.rng 0 _ (by decide) (by decide)
  show zG n (114, 4080270) 300 311 (1186, [zR 0, zR 8, zR 97, .inl i], [.inl x2, .inl x1, zR 8]) M _
  refine zG_blk (c' := (1190, [zR 0, zR 8, zR 97, .inl i], [.inl (i + 3), zR 0, .inl x2, .inl x1, zR 8])) 4 (by decide) hz (zsteps_seg hg (by rw [show (.inl (i + 3) : zV) = .inl (w32 (i + 3)) from by rw [w32_id (by omega)]]; rfl)) ?_
  refine zG_iald (by decide) hz (hg _ _ rfl) rfl (.inr rfl) (by omega) ?_
  obtain ⟨x3, hx3⟩ : ∃ x : Int, x = M 0 (i + 3).toNat := ⟨_, rfl⟩
  rw [← hx3]
  have hr3 : qin x3 := by rw [hx3]; exact hJ.1.rng 0 _ (by decide) (by decide)
  show zG n (114, 4080270) 300 311 (1191, [zR 0, zR 8, zR 97, .inl i], [.inl x3, .inl x2, .inl x1, zR 8]) M _
  refine zG_blk (c' := (1195, [zR 0, zR 8, zR 97, .inl i], [.inl (i + 4), zR 0, .inl x3, .inl x2, .inl x1, zR 8])) 4 (by decide) hz (zsteps_seg hg (by rw [show (.inl (i + 4) : zV) = .inl (w32 (i + 4)) from by rw [w32_id (by omega)]]; rfl)) ?_
  refine zG_iald (by decide) hz (hg _ _ rfl) rfl (.inr rfl) (by omega) ?_
  obtain ⟨x4, hx4⟩ : ∃ x : Int, x = M 0 (i + 4).toNat := ⟨_, rfl⟩
  rw [← hx4]
  have hr4 : qin x4 := by rw [hx4]; exact hJ.1.rng 0 _ (by decide) (by decide)
  show zG n (114, 4080270) 300 311 (1196, [zR 0, zR 8, zR 97, .inl i], [.inl x4, .inl x3, .inl x2, .inl x1, zR 8]) M _
  refine zG_call (by decide) hz (rfl : zP 144 = (zk_X10_number, 5, (0, 0))) (hg _ _ rfl) rfl (Nat.le_of_ble_eq_true rfl) ⟨Nat.le_of_ble_eq_true rfl, Nat.le_of_ble_eq_true rfl⟩ (qm_144_8 (by decide) hJ.1 x1 (by omega) x2 (by omega) x3 (by omega) x4 (by omega)) (fun vr M1 hr => ?_)
  obtain ⟨⟨hCM1, hFM1⟩, hr⟩ := hr
  have hJM1 : qJ M1 := hJ.cls hCM1 hFM1 rfl rfl
  have hc0 : ∀ j, M1 0 j = M 0 j := fun j => hFM1 0 j (by decide)
  obtain ⟨r1, rfl⟩ := hr
  show zG n (114, 4080270) 300 311 (1199, [zR 0, zR 8, zR 97, .inl i], [(.inr (.inl r1))]) M1 _
  refine zG_blk (c' := (1205, [zR 0, zR 8, zR 97, .inl i], [.inl (i + 1), zR 0, zR 97])) 6 (by decide) hz (zsteps_seg hg (by rw [show (.inl (i + 1) : zV) = .inl (w32 (i + 1)) from by rw [w32_id (by omega)]]; rfl)) ?_
  refine zG_iald (by decide) hz (hg _ _ rfl) rfl (.inr rfl) (by omega) ?_
  rw [show M1 0 (i + 1).toNat = x1 from (hc0 _).trans hx1.symm]
  show zG n (114, 4080270) 300 311 (1206, [zR 0, zR 8, zR 97, .inl i], [.inl x1, zR 97]) M1 _
  refine zG_blk (c' := (1210, [zR 0, zR 8, zR 97, .inl i], [.inl (i + 2), zR 0, .inl x1, zR 97])) 4 (by decide) hz (zsteps_seg hg (by rw [show (.inl (i + 2) : zV) = .inl (w32 (i + 2)) from by rw [w32_id (by omega)]]; rfl)) ?_
  refine zG_iald (by decide) hz (hg _ _ rfl) rfl (.inr rfl) (by omega) ?_
  rw [show M1 0 (i + 2).toNat = x2 from (hc0 _).trans hx2.symm]
  show zG n (114, 4080270) 300 311 (1211, [zR 0, zR 8, zR 97, .inl i], [.inl x2, .inl x1, zR 97]) M1 _
  refine zG_blk (c' := (1215, [zR 0, zR 8, zR 97, .inl i], [.inl (i + 3), zR 0, .inl x2, .inl x1, zR 97])) 4 (by decide) hz (zsteps_seg hg (by rw [show (.inl (i + 3) : zV) = .inl (w32 (i + 3)) from by rw [w32_id (by omega)]]; rfl)) ?_
  refine zG_iald (by decide) hz (hg _ _ rfl) rfl (.inr rfl) (by omega) ?_
  rw [show M1 0 (i + 3).toNat = x3 from (hc0 _).trans hx3.symm]
  show zG n (114, 4080270) 300 311 (1216, [zR 0, zR 8, zR 97, .inl i], [.inl x3, .inl x2, .inl x1, zR 97]) M1 _
  refine zG_blk (c' := (1220, [zR 0, zR 8, zR 97, .inl i], [.inl (i + 4), zR 0, .inl x3, .inl x2, .inl x1, zR 97])) 4 (by decide) hz (zsteps_seg hg (by rw [show (.inl (i + 4) : zV) = .inl (w32 (i + 4)) from by rw [w32_id (by omega)]]; rfl)) ?_
  refine zG_iald (by decide) hz (hg _ _ rfl) rfl (.inr rfl) (by omega) ?_
  rw [show M1 0 (i + 4).toNat = x4 from (hc0 _).trans hx4.symm]
  show zG n (114, 4080270) 300 311 (1221, [zR 0, zR 8, zR 97, .inl i], [.inl x4, .inl x3, .inl x2, .inl x1, zR 97]) M1 _
  refine zG_call (by decide) hz (rfl : zP 248 = (zk_X11_number, 5, (0, 0))) (hg _ _ rfl) rfl (Nat.le_of_ble_eq_true rfl) ⟨Nat.le_of_ble_eq_true rfl, Nat.le_of_ble_eq_true rfl⟩ (qm_248_97 (by decide) hJM1.2.1 x1 (by omega) x2 (by omega) x3 (by omega) x4 (by omega)) (fun vr M2 hr => ?_)
  obtain ⟨⟨hCM2, hFM2⟩, hr⟩ := hr
  have hJM2 : qJ M2 := hJM1.mdl hCM2 hFM2 rfl (by decide) (fun j _ _ _ _ => hFM2.ar 98 j (by decide) (by decide))
  obtain ⟨r2, hv9⟩ := hr
  first | (obtain ⟨rfl, -⟩ := hv9) | (obtain rfl := hv9)
  show zG n (114, 4080270) 300 311 (1224, [zR 0, zR 8, zR 97, .inl i], [(.inr (.inl r2))]) M2 _
  refine zG_blk (c' := (2158, [zR 0, zR 8, zR 97, .inl i], [])) 2 (by decide) hz (zsteps_seg hg rfl) ?_
  exact K M2 hJM2
def sg_22 : List zE := [(1228, .aload_n ⟨1, zfin1⟩, 1229, (0, 0, 0, [])),
  (1229, .aload_n ⟨0, zfin0⟩, 1230, (0, 0, 0, [])),
  (1230, .iload_n ⟨3, zfin3⟩, 1231, (0, 0, 0, [])),
  (1231, .iconst 1, 1232, (0, 0, 0, [])),
  (1232, .iadd, 1233, (0, 0, 0, [])),
  (1233, .iaload, 1234, (0, 0, 0, [])),
  (1234, .aload_n ⟨0, zfin0⟩, 1235, (0, 0, 0, [])),
  (1235, .iload_n ⟨3, zfin3⟩, 1236, (0, 0, 0, [])),
  (1236, .iconst 2, 1237, (0, 0, 0, [])),
  (1237, .iadd, 1238, (0, 0, 0, [])),
  (1238, .iaload, 1239, (0, 0, 0, [])),
  (1239, .aload_n ⟨0, zfin0⟩, 1240, (0, 0, 0, [])),
  (1240, .iload_n ⟨3, zfin3⟩, 1241, (0, 0, 0, [])),
  (1241, .iconst 3, 1242, (0, 0, 0, [])),
  (1242, .iadd, 1243, (0, 0, 0, [])),
  (1243, .iaload, 1244, (0, 0, 0, [])),
  (1244, .invokevirtual 109, 1247, (145, 4, 0, [11])),
  (1247, .pop, 1248, (0, 0, 0, [])),
  (1248, .aload_n ⟨2, zfin2⟩, 1249, (0, 0, 0, [])),
  (1249, .aload_n ⟨0, zfin0⟩, 1250, (0, 0, 0, [])),
  (1250, .iload_n ⟨3, zfin3⟩, 1251, (0, 0, 0, [])),
  (1251, .iconst 1, 1252, (0, 0, 0, [])),
  (1252, .iadd, 1253, (0, 0, 0, [])),
  (1253, .iaload, 1254, (0, 0, 0, [])),
  (1254, .aload_n ⟨0, zfin0⟩, 1255, (0, 0, 0, [])),
  (1255, .iload_n ⟨3, zfin3⟩, 1256, (0, 0, 0, [])),
  (1256, .iconst 2, 1257, (0, 0, 0, [])),
  (1257, .iadd, 1258, (0, 0, 0, [])),
  (1258, .iaload, 1259, (0, 0, 0, [])),
  (1259, .aload_n ⟨0, zfin0⟩, 1260, (0, 0, 0, [])),
  (1260, .iload_n ⟨3, zfin3⟩, 1261, (0, 0, 0, [])),
  (1261, .iconst 3, 1262, (0, 0, 0, [])),
  (1262, .iadd, 1263, (0, 0, 0, [])),
  (1263, .iaload, 1264, (0, 0, 0, [])),
  (1264, .invokevirtual 112, 1267, (249, 4, 0, [12])),
  (1267, .pop, 1268, (0, 0, 0, [])),
  (1268, .goto (890), 1271, (2158, 0, 0, []))]
set_option maxRecDepth 100000 in
theorem sh_22 : zSeg zk_L_law sg_22 := zSeg_of 874 37 1228 (by decide +kernel) rfl (by decide +kernel)
set_option maxRecDepth 100000 in
theorem qL_22 (hJ : qJ M) (hn : n ≤ 4096) (hi : 0 ≤ i ∧ i + 8 ≤ n) (K : ∀ M', qJ M' → zG n (114, 4080270) 300 311 (2158, [zR 0, zR 8, zR 97, .inl i], []) M' qLQ) : zG n (114, 4080270) 300 311 (1228, [zR 0, zR 8, zR 97, .inl i], []) M qLQ := by
  have hz : zP 311 = (zk_L_law, 4, (114, 4080270)) := rfl
  have hg := sh_22
  refine zG_blk (c' := (1233, [zR 0, zR 8, zR 97, .inl i], [.inl (i + 1), zR 0, zR 8])) 5 (by decide) hz (zsteps_seg hg (by rw [show (.inl (i + 1) : zV) = .inl (w32 (i + 1)) from by rw [w32_id (by omega)]]; rfl)) ?_
  refine zG_iald (by decide) hz (hg _ _ rfl) rfl (.inr rfl) (by omega) ?_
  obtain ⟨x1, hx1⟩ : ∃ x : Int, x = M 0 (i + 1).toNat := ⟨_, rfl⟩
  rw [← hx1]
  have hr1 : qin x1 := by rw [hx1]; exact hJ.1.rng 0 _ (by decide) (by decide)
  show zG n (114, 4080270) 300 311 (1234, [zR 0, zR 8, zR 97, .inl i], [.inl x1, zR 8]) M _
  refine zG_blk (c' := (1238, [zR 0, zR 8, zR 97, .inl i], [.inl (i + 2), zR 0, .inl x1, zR 8])) 4 (by decide) hz (zsteps_seg hg (by rw [show (.inl (i + 2) : zV) = .inl (w32 (i + 2)) from by rw [w32_id (by omega)]]; rfl)) ?_
  refine zG_iald (by decide) hz (hg _ _ rfl) rfl (.inr rfl) (by omega) ?_
  obtain ⟨x2, hx2⟩ : ∃ x : Int, x = M 0 (i + 2).toNat := ⟨_, rfl⟩
  rw [← hx2]
  have hr2 : qin x2 := by rw [hx2]; exact hJ.1.rng 0 _ (by decide) (by decide)
  show zG n (114, 4080270) 300 311 (1239, [zR 0, zR 8, zR 97, .inl i], [.inl x2, .inl x1, zR 8]) M _
  refine zG_blk (c' := (1243, [zR 0, zR 8, zR 97, .inl i], [.inl (i + 3), zR 0, .inl x2, .inl x1, zR 8])) 4 (by decide) hz (zsteps_seg hg (by rw [show (.inl (i + 3) : zV) = .inl (w32 (i + 3)) from by rw [w32_id (by omega)]]; rfl)) ?_
  refine zG_iald (by decide) hz (hg _ _ rfl) rfl (.inr rfl) (by omega) ?_
  obtain ⟨x3, hx3⟩ : ∃ x : Int, x = M 0 (i + 3).toNat := ⟨_, rfl⟩
  rw [← hx3]
  have hr3 : qin x3 := by rw [hx3]; exact hJ.1.rng 0 _ (by decide) (by decide)
  show zG n (114, 4080270) 300 311 (1244, [zR 0, zR 8, zR 97, .inl i], [.inl x3, .inl x2, .inl x1, zR 8]) M _
  refine zG_call (by decide) hz (rfl : zP 145 = (zk_X10_edge, 4, (0, 0))) (hg _ _ rfl) rfl (Nat.le_of_ble_eq_true rfl) ⟨Nat.le_of_ble_eq_true rfl, Nat.le_of_ble_eq_true rfl⟩ (qm_145_8 (by decide) hJ.1 x1 (by omega) x2 (by omega) x3 (by omega)) (fun vr M1 hr => ?_)
  obtain ⟨⟨hCM1, hFM1⟩, hr⟩ := hr
  have hJM1 : qJ M1 := hJ.cls hCM1 hFM1 rfl rfl
  have hc0 : ∀ j, M1 0 j = M 0 j := fun j => hFM1 0 j (by decide)
  obtain ⟨r1, rfl, -⟩ := hr
  show zG n (114, 4080270) 300 311 (1247, [zR 0, zR 8, zR 97, .inl i], [.inl r1]) M1 _
  refine zG_blk (c' := (1253, [zR 0, zR 8, zR 97, .inl i], [.inl (i + 1), zR 0, zR 97])) 6 (by decide) hz (zsteps_seg hg (by rw [show (.inl (i + 1) : zV) = .inl (w32 (i + 1)) from by rw [w32_id (by omega)]]; rfl)) ?_
  refine zG_iald (by decide) hz (hg _ _ rfl) rfl (.inr rfl) (by omega) ?_
  rw [show M1 0 (i + 1).toNat = x1 from (hc0 _).trans hx1.symm]
  show zG n (114, 4080270) 300 311 (1254, [zR 0, zR 8, zR 97, .inl i], [.inl x1, zR 97]) M1 _
  refine zG_blk (c' := (1258, [zR 0, zR 8, zR 97, .inl i], [.inl (i + 2), zR 0, .inl x1, zR 97])) 4 (by decide) hz (zsteps_seg hg (by rw [show (.inl (i + 2) : zV) = .inl (w32 (i + 2)) from by rw [w32_id (by omega)]]; rfl)) ?_
  refine zG_iald (by decide) hz (hg _ _ rfl) rfl (.inr rfl) (by omega) ?_
  rw [show M1 0 (i + 2).toNat = x2 from (hc0 _).trans hx2.symm]
  show zG n (114, 4080270) 300 311 (1259, [zR 0, zR 8, zR 97, .inl i], [.inl x2, .inl x1, zR 97]) M1 _
  refine zG_blk (c' := (1263, [zR 0, zR 8, zR 97, .inl i], [.inl (i + 3), zR 0, .inl x2, .inl x1, zR 97])) 4 (by decide) hz (zsteps_seg hg (by rw [show (.inl (i + 3) : zV) = .inl (w32 (i + 3)) from by rw [w32_id (by omega)]]; rfl)) ?_
  refine zG_iald (by decide) hz (hg _ _ rfl) rfl (.inr rfl) (by omega) ?_
  rw [show M1 0 (i + 3).toNat = x3 from (hc0 _).trans hx3.symm]
  show zG n (114, 4080270) 300 311 (1264, [zR 0, zR 8, zR 97, .inl i], [.inl x3, .inl x2, .inl x1, zR 97]) M1 _
  refine zG_call (by decide) hz (rfl : zP 249 = (zk_X11_edge, 7, (0, 0))) (hg _ _ rfl) rfl (Nat.le_of_ble_eq_true rfl) ⟨Nat.le_of_ble_eq_true rfl, Nat.le_of_ble_eq_true rfl⟩ (qm_249_97 (by decide) hJM1.2.1 x1 (by omega) x2 (by omega) x3 (by omega)) (fun vr M2 hr => ?_)
  obtain ⟨⟨hCM2, hFM2⟩, hr⟩ := hr
  have hJM2 : qJ M2 := hJM1.mdl hCM2 hFM2 rfl (by decide) (fun j _ _ _ _ => hFM2.ar 98 j (by decide) (by decide))
  obtain ⟨r2, hv9⟩ := hr
  first | (obtain ⟨rfl, -⟩ := hv9) | (obtain rfl := hv9)
  show zG n (114, 4080270) 300 311 (1267, [zR 0, zR 8, zR 97, .inl i], [.inl r2]) M2 _
  refine zG_blk (c' := (2158, [zR 0, zR 8, zR 97, .inl i], [])) 2 (by decide) hz (zsteps_seg hg rfl) ?_
  exact K M2 hJM2
def sg_23 : List zE := [(1271, .aload_n ⟨1, zfin1⟩, 1272, (0, 0, 0, [])),
  (1272, .aload_n ⟨0, zfin0⟩, 1273, (0, 0, 0, [])),
  (1273, .iload_n ⟨3, zfin3⟩, 1274, (0, 0, 0, [])),
  (1274, .iconst 1, 1275, (0, 0, 0, [])),
  (1275, .iadd, 1276, (0, 0, 0, [])),
  (1276, .iaload, 1277, (0, 0, 0, [])),
  (1277, .aload_n ⟨0, zfin0⟩, 1278, (0, 0, 0, [])),
  (1278, .iload_n ⟨3, zfin3⟩, 1279, (0, 0, 0, [])),
  (1279, .iconst 2, 1280, (0, 0, 0, [])),
  (1280, .iadd, 1281, (0, 0, 0, [])),
  (1281, .iaload, 1282, (0, 0, 0, [])),
  (1282, .aload_n ⟨0, zfin0⟩, 1283, (0, 0, 0, [])),
  (1283, .iload_n ⟨3, zfin3⟩, 1284, (0, 0, 0, [])),
  (1284, .iconst 3, 1285, (0, 0, 0, [])),
  (1285, .iadd, 1286, (0, 0, 0, [])),
  (1286, .iaload, 1287, (0, 0, 0, [])),
  (1287, .invokevirtual 113, 1290, (146, 4, 0, [11])),
  (1290, .pop, 1291, (0, 0, 0, [])),
  (1291, .aload_n ⟨2, zfin2⟩, 1292, (0, 0, 0, [])),
  (1292, .aload_n ⟨0, zfin0⟩, 1293, (0, 0, 0, [])),
  (1293, .iload_n ⟨3, zfin3⟩, 1294, (0, 0, 0, [])),
  (1294, .iconst 1, 1295, (0, 0, 0, [])),
  (1295, .iadd, 1296, (0, 0, 0, [])),
  (1296, .iaload, 1297, (0, 0, 0, [])),
  (1297, .aload_n ⟨0, zfin0⟩, 1298, (0, 0, 0, [])),
  (1298, .iload_n ⟨3, zfin3⟩, 1299, (0, 0, 0, [])),
  (1299, .iconst 2, 1300, (0, 0, 0, [])),
  (1300, .iadd, 1301, (0, 0, 0, [])),
  (1301, .iaload, 1302, (0, 0, 0, [])),
  (1302, .aload_n ⟨0, zfin0⟩, 1303, (0, 0, 0, [])),
  (1303, .iload_n ⟨3, zfin3⟩, 1304, (0, 0, 0, [])),
  (1304, .iconst 3, 1305, (0, 0, 0, [])),
  (1305, .iadd, 1306, (0, 0, 0, [])),
  (1306, .iaload, 1307, (0, 0, 0, [])),
  (1307, .invokevirtual 116, 1310, (250, 4, 0, [12])),
  (1310, .pop, 1311, (0, 0, 0, [])),
  (1311, .goto (847), 1314, (2158, 0, 0, []))]
set_option maxRecDepth 100000 in
theorem sh_23 : zSeg zk_L_law sg_23 := zSeg_of 911 37 1271 (by decide +kernel) rfl (by decide +kernel)
set_option maxRecDepth 100000 in
theorem qL_23 (hJ : qJ M) (hn : n ≤ 4096) (hi : 0 ≤ i ∧ i + 8 ≤ n) (K : ∀ M', qJ M' → zG n (114, 4080270) 300 311 (2158, [zR 0, zR 8, zR 97, .inl i], []) M' qLQ) : zG n (114, 4080270) 300 311 (1271, [zR 0, zR 8, zR 97, .inl i], []) M qLQ := by
  have hz : zP 311 = (zk_L_law, 4, (114, 4080270)) := rfl
  have hg := sh_23
  refine zG_blk (c' := (1276, [zR 0, zR 8, zR 97, .inl i], [.inl (i + 1), zR 0, zR 8])) 5 (by decide) hz (zsteps_seg hg (by rw [show (.inl (i + 1) : zV) = .inl (w32 (i + 1)) from by rw [w32_id (by omega)]]; rfl)) ?_
  refine zG_iald (by decide) hz (hg _ _ rfl) rfl (.inr rfl) (by omega) ?_
  obtain ⟨x1, hx1⟩ : ∃ x : Int, x = M 0 (i + 1).toNat := ⟨_, rfl⟩
  rw [← hx1]
  have hr1 : qin x1 := by rw [hx1]; exact hJ.1.rng 0 _ (by decide) (by decide)
  show zG n (114, 4080270) 300 311 (1277, [zR 0, zR 8, zR 97, .inl i], [.inl x1, zR 8]) M _
  refine zG_blk (c' := (1281, [zR 0, zR 8, zR 97, .inl i], [.inl (i + 2), zR 0, .inl x1, zR 8])) 4 (by decide) hz (zsteps_seg hg (by rw [show (.inl (i + 2) : zV) = .inl (w32 (i + 2)) from by rw [w32_id (by omega)]]; rfl)) ?_
  refine zG_iald (by decide) hz (hg _ _ rfl) rfl (.inr rfl) (by omega) ?_
  obtain ⟨x2, hx2⟩ : ∃ x : Int, x = M 0 (i + 2).toNat := ⟨_, rfl⟩
  rw [← hx2]
  have hr2 : qin x2 := by rw [hx2]; exact hJ.1.rng 0 _ (by decide) (by decide)
  show zG n (114, 4080270) 300 311 (1282, [zR 0, zR 8, zR 97, .inl i], [.inl x2, .inl x1, zR 8]) M _
  refine zG_blk (c' := (1286, [zR 0, zR 8, zR 97, .inl i], [.inl (i + 3), zR 0, .inl x2, .inl x1, zR 8])) 4 (by decide) hz (zsteps_seg hg (by rw [show (.inl (i + 3) : zV) = .inl (w32 (i + 3)) from by rw [w32_id (by omega)]]; rfl)) ?_
  refine zG_iald (by decide) hz (hg _ _ rfl) rfl (.inr rfl) (by omega) ?_
  obtain ⟨x3, hx3⟩ : ∃ x : Int, x = M 0 (i + 3).toNat := ⟨_, rfl⟩
  rw [← hx3]
  have hr3 : qin x3 := by rw [hx3]; exact hJ.1.rng 0 _ (by decide) (by decide)
  show zG n (114, 4080270) 300 311 (1287, [zR 0, zR 8, zR 97, .inl i], [.inl x3, .inl x2, .inl x1, zR 8]) M _
  refine zG_call (by decide) hz (rfl : zP 146 = (zk_X10_roll, 4, (0, 0))) (hg _ _ rfl) rfl (Nat.le_of_ble_eq_true rfl) ⟨Nat.le_of_ble_eq_true rfl, Nat.le_of_ble_eq_true rfl⟩ (qm_146_8 (by decide) hJ.1 x1 (by omega) x2 (by omega) x3 (by omega)) (fun vr M1 hr => ?_)
  obtain ⟨⟨hCM1, hFM1⟩, hr⟩ := hr
  have hJM1 : qJ M1 := hJ.cls hCM1 hFM1 rfl rfl
  have hc0 : ∀ j, M1 0 j = M 0 j := fun j => hFM1 0 j (by decide)
  obtain ⟨r1, rfl, -⟩ := hr
  show zG n (114, 4080270) 300 311 (1290, [zR 0, zR 8, zR 97, .inl i], [.inl r1]) M1 _
  refine zG_blk (c' := (1296, [zR 0, zR 8, zR 97, .inl i], [.inl (i + 1), zR 0, zR 97])) 6 (by decide) hz (zsteps_seg hg (by rw [show (.inl (i + 1) : zV) = .inl (w32 (i + 1)) from by rw [w32_id (by omega)]]; rfl)) ?_
  refine zG_iald (by decide) hz (hg _ _ rfl) rfl (.inr rfl) (by omega) ?_
  rw [show M1 0 (i + 1).toNat = x1 from (hc0 _).trans hx1.symm]
  show zG n (114, 4080270) 300 311 (1297, [zR 0, zR 8, zR 97, .inl i], [.inl x1, zR 97]) M1 _
  refine zG_blk (c' := (1301, [zR 0, zR 8, zR 97, .inl i], [.inl (i + 2), zR 0, .inl x1, zR 97])) 4 (by decide) hz (zsteps_seg hg (by rw [show (.inl (i + 2) : zV) = .inl (w32 (i + 2)) from by rw [w32_id (by omega)]]; rfl)) ?_
  refine zG_iald (by decide) hz (hg _ _ rfl) rfl (.inr rfl) (by omega) ?_
  rw [show M1 0 (i + 2).toNat = x2 from (hc0 _).trans hx2.symm]
  show zG n (114, 4080270) 300 311 (1302, [zR 0, zR 8, zR 97, .inl i], [.inl x2, .inl x1, zR 97]) M1 _
  refine zG_blk (c' := (1306, [zR 0, zR 8, zR 97, .inl i], [.inl (i + 3), zR 0, .inl x2, .inl x1, zR 97])) 4 (by decide) hz (zsteps_seg hg (by rw [show (.inl (i + 3) : zV) = .inl (w32 (i + 3)) from by rw [w32_id (by omega)]]; rfl)) ?_
  refine zG_iald (by decide) hz (hg _ _ rfl) rfl (.inr rfl) (by omega) ?_
  rw [show M1 0 (i + 3).toNat = x3 from (hc0 _).trans hx3.symm]
  show zG n (114, 4080270) 300 311 (1307, [zR 0, zR 8, zR 97, .inl i], [.inl x3, .inl x2, .inl x1, zR 97]) M1 _
  refine zG_call (by decide) hz (rfl : zP 250 = (zk_X11_roll, 4, (0, 0))) (hg _ _ rfl) rfl (Nat.le_of_ble_eq_true rfl) ⟨Nat.le_of_ble_eq_true rfl, Nat.le_of_ble_eq_true rfl⟩ (qm_250_97 (by decide) hJM1.2.1 x1 (by omega) x2 (by omega) x3 (by omega)) (fun vr M2 hr => ?_)
  obtain ⟨⟨hCM2, hFM2⟩, hr⟩ := hr
  have hJM2 : qJ M2 := hJM1.mdl hCM2 hFM2 rfl (by decide) (fun j _ _ _ _ => hFM2.ar 98 j (by decide) (by decide))
  obtain ⟨r2, hv9⟩ := hr
  first | (obtain ⟨rfl, -⟩ := hv9) | (obtain rfl := hv9)
  show zG n (114, 4080270) 300 311 (1310, [zR 0, zR 8, zR 97, .inl i], [.inl r2]) M2 _
  refine zG_blk (c' := (2158, [zR 0, zR 8, zR 97, .inl i], [])) 2 (by decide) hz (zsteps_seg hg rfl) ?_
  exact K M2 hJM2
def sg_24 : List zE := [(1314, .aload_n ⟨1, zfin1⟩, 1315, (0, 0, 0, [])),
  (1315, .aload_n ⟨0, zfin0⟩, 1316, (0, 0, 0, [])),
  (1316, .iload_n ⟨3, zfin3⟩, 1317, (0, 0, 0, [])),
  (1317, .iconst 1, 1318, (0, 0, 0, [])),
  (1318, .iadd, 1319, (0, 0, 0, [])),
  (1319, .iaload, 1320, (0, 0, 0, [])),
  (1320, .aload_n ⟨0, zfin0⟩, 1321, (0, 0, 0, [])),
  (1321, .iload_n ⟨3, zfin3⟩, 1322, (0, 0, 0, [])),
  (1322, .iconst 2, 1323, (0, 0, 0, [])),
  (1323, .iadd, 1324, (0, 0, 0, [])),
  (1324, .iaload, 1325, (0, 0, 0, [])),
  (1325, .aload_n ⟨0, zfin0⟩, 1326, (0, 0, 0, [])),
  (1326, .iload_n ⟨3, zfin3⟩, 1327, (0, 0, 0, [])),
  (1327, .iconst 3, 1328, (0, 0, 0, [])),
  (1328, .iadd, 1329, (0, 0, 0, [])),
  (1329, .iaload, 1330, (0, 0, 0, [])),
  (1330, .invokevirtual 117, 1333, (147, 4, 0, [11])),
  (1333, .pop, 1334, (0, 0, 0, [])),
  (1334, .aload_n ⟨2, zfin2⟩, 1335, (0, 0, 0, [])),
  (1335, .aload_n ⟨0, zfin0⟩, 1336, (0, 0, 0, [])),
  (1336, .iload_n ⟨3, zfin3⟩, 1337, (0, 0, 0, [])),
  (1337, .iconst 1, 1338, (0, 0, 0, [])),
  (1338, .iadd, 1339, (0, 0, 0, [])),
  (1339, .iaload, 1340, (0, 0, 0, [])),
  (1340, .aload_n ⟨0, zfin0⟩, 1341, (0, 0, 0, [])),
  (1341, .iload_n ⟨3, zfin3⟩, 1342, (0, 0, 0, [])),
  (1342, .iconst 2, 1343, (0, 0, 0, [])),
  (1343, .iadd, 1344, (0, 0, 0, [])),
  (1344, .iaload, 1345, (0, 0, 0, [])),
  (1345, .aload_n ⟨0, zfin0⟩, 1346, (0, 0, 0, [])),
  (1346, .iload_n ⟨3, zfin3⟩, 1347, (0, 0, 0, [])),
  (1347, .iconst 3, 1348, (0, 0, 0, [])),
  (1348, .iadd, 1349, (0, 0, 0, [])),
  (1349, .iaload, 1350, (0, 0, 0, [])),
  (1350, .invokevirtual 120, 1353, (251, 4, 0, [12])),
  (1353, .pop, 1354, (0, 0, 0, [])),
  (1354, .goto (804), 1357, (2158, 0, 0, []))]
set_option maxRecDepth 100000 in
theorem sh_24 : zSeg zk_L_law sg_24 := zSeg_of 948 37 1314 (by decide +kernel) rfl (by decide +kernel)
set_option maxRecDepth 100000 in
theorem qL_24 (hJ : qJ M) (hn : n ≤ 4096) (hi : 0 ≤ i ∧ i + 8 ≤ n) (K : ∀ M', qJ M' → zG n (114, 4080270) 300 311 (2158, [zR 0, zR 8, zR 97, .inl i], []) M' qLQ) : zG n (114, 4080270) 300 311 (1314, [zR 0, zR 8, zR 97, .inl i], []) M qLQ := by
  have hz : zP 311 = (zk_L_law, 4, (114, 4080270)) := rfl
  have hg := sh_24
  refine zG_blk (c' := (1319, [zR 0, zR 8, zR 97, .inl i], [.inl (i + 1), zR 0, zR 8])) 5 (by decide) hz (zsteps_seg hg (by rw [show (.inl (i + 1) : zV) = .inl (w32 (i + 1)) from by rw [w32_id (by omega)]]; rfl)) ?_
  refine zG_iald (by decide) hz (hg _ _ rfl) rfl (.inr rfl) (by omega) ?_
  obtain ⟨x1, hx1⟩ : ∃ x : Int, x = M 0 (i + 1).toNat := ⟨_, rfl⟩
  rw [← hx1]
  have hr1 : qin x1 := by rw [hx1]; exact hJ.1.rng 0 _ (by decide) (by decide)
  show zG n (114, 4080270) 300 311 (1320, [zR 0, zR 8, zR 97, .inl i], [.inl x1, zR 8]) M _
  refine zG_blk (c' := (1324, [zR 0, zR 8, zR 97, .inl i], [.inl (i + 2), zR 0, .inl x1, zR 8])) 4 (by decide) hz (zsteps_seg hg (by rw [show (.inl (i + 2) : zV) = .inl (w32 (i + 2)) from by rw [w32_id (by omega)]]; rfl)) ?_
  refine zG_iald (by decide) hz (hg _ _ rfl) rfl (.inr rfl) (by omega) ?_
  obtain ⟨x2, hx2⟩ : ∃ x : Int, x = M 0 (i + 2).toNat := ⟨_, rfl⟩
  rw [← hx2]
  have hr2 : qin x2 := by rw [hx2]; exact hJ.1.rng 0 _ (by decide) (by decide)
  show zG n (114, 4080270) 300 311 (1325, [zR 0, zR 8, zR 97, .inl i], [.inl x2, .inl x1, zR 8]) M _
  refine zG_blk (c' := (1329, [zR 0, zR 8, zR 97, .inl i], [.inl (i + 3), zR 0, .inl x2, .inl x1, zR 8])) 4 (by decide) hz (zsteps_seg hg (by rw [show (.inl (i + 3) : zV) = .inl (w32 (i + 3)) from by rw [w32_id (by omega)]]; rfl)) ?_
  refine zG_iald (by decide) hz (hg _ _ rfl) rfl (.inr rfl) (by omega) ?_
  obtain ⟨x3, hx3⟩ : ∃ x : Int, x = M 0 (i + 3).toNat := ⟨_, rfl⟩
  rw [← hx3]
  have hr3 : qin x3 := by rw [hx3]; exact hJ.1.rng 0 _ (by decide) (by decide)
  show zG n (114, 4080270) 300 311 (1330, [zR 0, zR 8, zR 97, .inl i], [.inl x3, .inl x2, .inl x1, zR 8]) M _
  refine zG_call (by decide) hz (rfl : zP 147 = (zk_X10_hangs, 4, (0, 0))) (hg _ _ rfl) rfl (Nat.le_of_ble_eq_true rfl) ⟨Nat.le_of_ble_eq_true rfl, Nat.le_of_ble_eq_true rfl⟩ (qm_147_8 (by decide) hJ.1 x1 (by omega) x2 (by omega) x3 (by omega)) (fun vr M1 hr => ?_)
  obtain ⟨⟨hCM1, hFM1⟩, hr⟩ := hr
  have hJM1 : qJ M1 := hJ.cls hCM1 hFM1 rfl rfl
  have hc0 : ∀ j, M1 0 j = M 0 j := fun j => hFM1 0 j (by decide)
  obtain ⟨r1, rfl, -⟩ := hr
  show zG n (114, 4080270) 300 311 (1333, [zR 0, zR 8, zR 97, .inl i], [.inl r1]) M1 _
  refine zG_blk (c' := (1339, [zR 0, zR 8, zR 97, .inl i], [.inl (i + 1), zR 0, zR 97])) 6 (by decide) hz (zsteps_seg hg (by rw [show (.inl (i + 1) : zV) = .inl (w32 (i + 1)) from by rw [w32_id (by omega)]]; rfl)) ?_
  refine zG_iald (by decide) hz (hg _ _ rfl) rfl (.inr rfl) (by omega) ?_
  rw [show M1 0 (i + 1).toNat = x1 from (hc0 _).trans hx1.symm]
  show zG n (114, 4080270) 300 311 (1340, [zR 0, zR 8, zR 97, .inl i], [.inl x1, zR 97]) M1 _
  refine zG_blk (c' := (1344, [zR 0, zR 8, zR 97, .inl i], [.inl (i + 2), zR 0, .inl x1, zR 97])) 4 (by decide) hz (zsteps_seg hg (by rw [show (.inl (i + 2) : zV) = .inl (w32 (i + 2)) from by rw [w32_id (by omega)]]; rfl)) ?_
  refine zG_iald (by decide) hz (hg _ _ rfl) rfl (.inr rfl) (by omega) ?_
  rw [show M1 0 (i + 2).toNat = x2 from (hc0 _).trans hx2.symm]
  show zG n (114, 4080270) 300 311 (1345, [zR 0, zR 8, zR 97, .inl i], [.inl x2, .inl x1, zR 97]) M1 _
  refine zG_blk (c' := (1349, [zR 0, zR 8, zR 97, .inl i], [.inl (i + 3), zR 0, .inl x2, .inl x1, zR 97])) 4 (by decide) hz (zsteps_seg hg (by rw [show (.inl (i + 3) : zV) = .inl (w32 (i + 3)) from by rw [w32_id (by omega)]]; rfl)) ?_
  refine zG_iald (by decide) hz (hg _ _ rfl) rfl (.inr rfl) (by omega) ?_
  rw [show M1 0 (i + 3).toNat = x3 from (hc0 _).trans hx3.symm]
  show zG n (114, 4080270) 300 311 (1350, [zR 0, zR 8, zR 97, .inl i], [.inl x3, .inl x2, .inl x1, zR 97]) M1 _
  refine zG_call (by decide) hz (rfl : zP 251 = (zk_X11_hangs, 7, (0, 0))) (hg _ _ rfl) rfl (Nat.le_of_ble_eq_true rfl) ⟨Nat.le_of_ble_eq_true rfl, Nat.le_of_ble_eq_true rfl⟩ (qn_251_97 (by decide) hJM1.2.1 x1 (by omega) x2 (by omega) x3 (by omega)) (fun vr M2 hr => ?_)
  obtain ⟨⟨hCM2, hFM2⟩, hr⟩ := hr
  have h9 : ∀ j, M2 98 j = M1 98 j := by
    obtain ⟨x9, -, -, -, h8, h9⟩ := hr
    intro j
    by_cases hj : (j : Int) = 154 + 5 * x1
    · rw [show j = (154 + 5 * x1).toNat by omega]; exact h8
    · exact h9 j hj
  have hJM2 : qJ M2 := hJM1.mdl hCM2 hFM2 rfl (by decide) (fun j _ _ _ _ => h9 j)
  obtain ⟨r2, hv9⟩ := hr
  first | (obtain ⟨rfl, -⟩ := hv9) | (obtain rfl := hv9)
  show zG n (114, 4080270) 300 311 (1353, [zR 0, zR 8, zR 97, .inl i], [.inl r2]) M2 _
  refine zG_blk (c' := (2158, [zR 0, zR 8, zR 97, .inl i], [])) 2 (by decide) hz (zsteps_seg hg rfl) ?_
  exact K M2 hJM2
def sg_25 : List zE := [(1357, .aload_n ⟨1, zfin1⟩, 1358, (0, 0, 0, [])),
  (1358, .aload_n ⟨0, zfin0⟩, 1359, (0, 0, 0, [])),
  (1359, .iload_n ⟨3, zfin3⟩, 1360, (0, 0, 0, [])),
  (1360, .iconst 1, 1361, (0, 0, 0, [])),
  (1361, .iadd, 1362, (0, 0, 0, [])),
  (1362, .iaload, 1363, (0, 0, 0, [])),
  (1363, .aload_n ⟨0, zfin0⟩, 1364, (0, 0, 0, [])),
  (1364, .iload_n ⟨3, zfin3⟩, 1365, (0, 0, 0, [])),
  (1365, .iconst 2, 1366, (0, 0, 0, [])),
  (1366, .iadd, 1367, (0, 0, 0, [])),
  (1367, .iaload, 1368, (0, 0, 0, [])),
  (1368, .invokevirtual 121, 1371, (148, 3, 0, [11])),
  (1371, .pop, 1372, (0, 0, 0, [])),
  (1372, .aload_n ⟨2, zfin2⟩, 1373, (0, 0, 0, [])),
  (1373, .aload_n ⟨0, zfin0⟩, 1374, (0, 0, 0, [])),
  (1374, .iload_n ⟨3, zfin3⟩, 1375, (0, 0, 0, [])),
  (1375, .iconst 1, 1376, (0, 0, 0, [])),
  (1376, .iadd, 1377, (0, 0, 0, [])),
  (1377, .iaload, 1378, (0, 0, 0, [])),
  (1378, .aload_n ⟨0, zfin0⟩, 1379, (0, 0, 0, [])),
  (1379, .iload_n ⟨3, zfin3⟩, 1380, (0, 0, 0, [])),
  (1380, .iconst 2, 1381, (0, 0, 0, [])),
  (1381, .iadd, 1382, (0, 0, 0, [])),
  (1382, .iaload, 1383, (0, 0, 0, [])),
  (1383, .invokevirtual 124, 1386, (253, 3, 0, [12])),
  (1386, .pop, 1387, (0, 0, 0, [])),
  (1387, .goto (771), 1390, (2158, 0, 0, []))]
set_option maxRecDepth 100000 in
theorem sh_25 : zSeg zk_L_law sg_25 := zSeg_of 985 27 1357 (by decide +kernel) rfl (by decide +kernel)
set_option maxRecDepth 100000 in
theorem qL_25 (hJ : qJ M) (hn : n ≤ 4096) (hi : 0 ≤ i ∧ i + 8 ≤ n) (K : ∀ M', qJ M' → zG n (114, 4080270) 300 311 (2158, [zR 0, zR 8, zR 97, .inl i], []) M' qLQ) : zG n (114, 4080270) 300 311 (1357, [zR 0, zR 8, zR 97, .inl i], []) M qLQ := by
  have hz : zP 311 = (zk_L_law, 4, (114, 4080270)) := rfl
  have hg := sh_25
  refine zG_blk (c' := (1362, [zR 0, zR 8, zR 97, .inl i], [.inl (i + 1), zR 0, zR 8])) 5 (by decide) hz (zsteps_seg hg (by rw [show (.inl (i + 1) : zV) = .inl (w32 (i + 1)) from by rw [w32_id (by omega)]]; rfl)) ?_
  refine zG_iald (by decide) hz (hg _ _ rfl) rfl (.inr rfl) (by omega) ?_
  obtain ⟨x1, hx1⟩ : ∃ x : Int, x = M 0 (i + 1).toNat := ⟨_, rfl⟩
  rw [← hx1]
  have hr1 : qin x1 := by rw [hx1]; exact hJ.1.rng 0 _ (by decide) (by decide)
  show zG n (114, 4080270) 300 311 (1363, [zR 0, zR 8, zR 97, .inl i], [.inl x1, zR 8]) M _
  refine zG_blk (c' := (1367, [zR 0, zR 8, zR 97, .inl i], [.inl (i + 2), zR 0, .inl x1, zR 8])) 4 (by decide) hz (zsteps_seg hg (by rw [show (.inl (i + 2) : zV) = .inl (w32 (i + 2)) from by rw [w32_id (by omega)]]; rfl)) ?_
  refine zG_iald (by decide) hz (hg _ _ rfl) rfl (.inr rfl) (by omega) ?_
  obtain ⟨x2, hx2⟩ : ∃ x : Int, x = M 0 (i + 2).toNat := ⟨_, rfl⟩
  rw [← hx2]
  have hr2 : qin x2 := by rw [hx2]; exact hJ.1.rng 0 _ (by decide) (by decide)
  show zG n (114, 4080270) 300 311 (1368, [zR 0, zR 8, zR 97, .inl i], [.inl x2, .inl x1, zR 8]) M _
  refine zG_call (by decide) hz (rfl : zP 148 = (zk_X10_write, 4, (0, 0))) (hg _ _ rfl) rfl (Nat.le_of_ble_eq_true rfl) ⟨Nat.le_of_ble_eq_true rfl, Nat.le_of_ble_eq_true rfl⟩ (zG.andH (qm_148_8 (by decide) hJ.1 x1 (by omega) x2 (by omega)) (fh_148_8 x1 x2)) (fun vr M1 hr => ?_)
  obtain ⟨⟨⟨hC1, hF1⟩, -⟩, rfl, hM1⟩ := hr
  have hi := hF1.hi rfl
  have hI := hJ.2.1.same hi
  have hc0 : ∀ j, M1 0 j = M 0 j := fun j => hF1 0 j (by decide)
  show zG n (114, 4080270) 300 311 (1371, [zR 0, zR 8, zR 97, .inl i], [.inl (hf_148_8 M x1 x2).1]) M1 _
  refine zG_blk (c' := (1377, [zR 0, zR 8, zR 97, .inl i], [.inl (i + 1), zR 0, zR 97])) 6 (by decide) hz (zsteps_seg hg (by rw [show (.inl (i + 1) : zV) = .inl (w32 (i + 1)) from by rw [w32_id (by omega)]]; rfl)) ?_
  refine zG_iald (by decide) hz (hg _ _ rfl) rfl (.inr rfl) (by omega) ?_
  rw [show M1 0 (i + 1).toNat = x1 from (hc0 _).trans hx1.symm]
  show zG n (114, 4080270) 300 311 (1378, [zR 0, zR 8, zR 97, .inl i], [.inl x1, zR 97]) M1 _
  refine zG_blk (c' := (1382, [zR 0, zR 8, zR 97, .inl i], [.inl (i + 2), zR 0, .inl x1, zR 97])) 4 (by decide) hz (zsteps_seg hg (by rw [show (.inl (i + 2) : zV) = .inl (w32 (i + 2)) from by rw [w32_id (by omega)]]; rfl)) ?_
  refine zG_iald (by decide) hz (hg _ _ rfl) rfl (.inr rfl) (by omega) ?_
  rw [show M1 0 (i + 2).toNat = x2 from (hc0 _).trans hx2.symm]
  show zG n (114, 4080270) 300 311 (1383, [zR 0, zR 8, zR 97, .inl i], [.inl x2, .inl x1, zR 97]) M1 _
  refine zG_call (by decide) hz (rfl : zP 253 = (zk_X11_write, 4, (0, 0))) (hg _ _ rfl) rfl (Nat.le_of_ble_eq_true rfl) ⟨Nat.le_of_ble_eq_true rfl, Nat.le_of_ble_eq_true rfl⟩ (zG.andH (qm_253_97 (by decide) hI x1 (by omega) x2 (by omega)) (fh_253_97 x1 x2)) (fun vr M2 hr => ?_)
  obtain ⟨⟨⟨hC2, hF2⟩, -⟩, rfl, hM2⟩ := hr
  have hm := hm_148 hJ.2.2.1 hJ.1.tb hJ.2.1.bd (a1 := x1) (a2 := x2) hJ.2.1.tl
  rw [← hM1] at hm
  rw [← hM2] at hm
  have hJ2 : qJ M2 := hJ.mut hC1 hF1 rfl rfl hC2 hF2 rfl (by decide) hm.2
  show zG n (114, 4080270) 300 311 (1386, [zR 0, zR 8, zR 97, .inl i], [.inl (hf_253_97 M1 x1 x2).1]) M2 _
  refine zG_blk (c' := (2158, [zR 0, zR 8, zR 97, .inl i], [])) 2 (by decide) hz (zsteps_seg hg rfl) ?_
  exact K M2 hJ2
def sg_26 : List zE := [(1390, .aload_n ⟨1, zfin1⟩, 1391, (0, 0, 0, [])),
  (1391, .aload_n ⟨0, zfin0⟩, 1392, (0, 0, 0, [])),
  (1392, .iload_n ⟨3, zfin3⟩, 1393, (0, 0, 0, [])),
  (1393, .iconst 1, 1394, (0, 0, 0, [])),
  (1394, .iadd, 1395, (0, 0, 0, [])),
  (1395, .iaload, 1396, (0, 0, 0, [])),
  (1396, .invokevirtual 125, 1399, (149, 2, 0, [11])),
  (1399, .pop, 1400, (0, 0, 0, [])),
  (1400, .aload_n ⟨2, zfin2⟩, 1401, (0, 0, 0, [])),
  (1401, .aload_n ⟨0, zfin0⟩, 1402, (0, 0, 0, [])),
  (1402, .iload_n ⟨3, zfin3⟩, 1403, (0, 0, 0, [])),
  (1403, .iconst 1, 1404, (0, 0, 0, [])),
  (1404, .iadd, 1405, (0, 0, 0, [])),
  (1405, .iaload, 1406, (0, 0, 0, [])),
  (1406, .invokevirtual 128, 1409, (254, 2, 0, [12])),
  (1409, .pop, 1410, (0, 0, 0, [])),
  (1410, .goto (748), 1413, (2158, 0, 0, []))]
set_option maxRecDepth 100000 in
theorem sh_26 : zSeg zk_L_law sg_26 := zSeg_of 1012 17 1390 (by decide +kernel) rfl (by decide +kernel)
set_option maxRecDepth 100000 in
theorem qL_26 (hJ : qJ M) (hn : n ≤ 4096) (hi : 0 ≤ i ∧ i + 8 ≤ n) (K : ∀ M', qJ M' → zG n (114, 4080270) 300 311 (2158, [zR 0, zR 8, zR 97, .inl i], []) M' qLQ) : zG n (114, 4080270) 300 311 (1390, [zR 0, zR 8, zR 97, .inl i], []) M qLQ := by
  have hz : zP 311 = (zk_L_law, 4, (114, 4080270)) := rfl
  have hg := sh_26
  refine zG_blk (c' := (1395, [zR 0, zR 8, zR 97, .inl i], [.inl (i + 1), zR 0, zR 8])) 5 (by decide) hz (zsteps_seg hg (by rw [show (.inl (i + 1) : zV) = .inl (w32 (i + 1)) from by rw [w32_id (by omega)]]; rfl)) ?_
  refine zG_iald (by decide) hz (hg _ _ rfl) rfl (.inr rfl) (by omega) ?_
  obtain ⟨x1, hx1⟩ : ∃ x : Int, x = M 0 (i + 1).toNat := ⟨_, rfl⟩
  rw [← hx1]
  have hr1 : qin x1 := by rw [hx1]; exact hJ.1.rng 0 _ (by decide) (by decide)
  show zG n (114, 4080270) 300 311 (1396, [zR 0, zR 8, zR 97, .inl i], [.inl x1, zR 8]) M _
  refine zG_call (by decide) hz (rfl : zP 149 = (zk_X10_erase, 3, (0, 0))) (hg _ _ rfl) rfl (Nat.le_of_ble_eq_true rfl) ⟨Nat.le_of_ble_eq_true rfl, Nat.le_of_ble_eq_true rfl⟩ (zG.andH (qm_149_8 (by decide) hJ.1 x1 (by omega)) (fh_149_8 x1)) (fun vr M1 hr => ?_)
  obtain ⟨⟨⟨hC1, hF1⟩, -⟩, rfl, hM1⟩ := hr
  have hi := hF1.hi rfl
  have hI := hJ.2.1.same hi
  have hc0 : ∀ j, M1 0 j = M 0 j := fun j => hF1 0 j (by decide)
  show zG n (114, 4080270) 300 311 (1399, [zR 0, zR 8, zR 97, .inl i], [.inl (hf_149_8 M x1).1]) M1 _
  refine zG_blk (c' := (1405, [zR 0, zR 8, zR 97, .inl i], [.inl (i + 1), zR 0, zR 97])) 6 (by decide) hz (zsteps_seg hg (by rw [show (.inl (i + 1) : zV) = .inl (w32 (i + 1)) from by rw [w32_id (by omega)]]; rfl)) ?_
  refine zG_iald (by decide) hz (hg _ _ rfl) rfl (.inr rfl) (by omega) ?_
  rw [show M1 0 (i + 1).toNat = x1 from (hc0 _).trans hx1.symm]
  show zG n (114, 4080270) 300 311 (1406, [zR 0, zR 8, zR 97, .inl i], [.inl x1, zR 97]) M1 _
  refine zG_call (by decide) hz (rfl : zP 254 = (zk_X11_erase, 3, (0, 0))) (hg _ _ rfl) rfl (Nat.le_of_ble_eq_true rfl) ⟨Nat.le_of_ble_eq_true rfl, Nat.le_of_ble_eq_true rfl⟩ (zG.andH (qm_254_97 (by decide) hI x1 (by omega)) (fh_254_97 x1)) (fun vr M2 hr => ?_)
  obtain ⟨⟨⟨hC2, hF2⟩, -⟩, rfl, hM2⟩ := hr
  have hm := hm_149 hJ.2.2.1 hJ.1.tb hJ.2.1.bd (a1 := x1) hJ.2.1.tl
  rw [← hM1] at hm
  rw [← hM2] at hm
  have hJ2 : qJ M2 := hJ.mut hC1 hF1 rfl rfl hC2 hF2 rfl (by decide) hm.2
  show zG n (114, 4080270) 300 311 (1409, [zR 0, zR 8, zR 97, .inl i], [.inl (hf_254_97 M1 x1).1]) M2 _
  refine zG_blk (c' := (2158, [zR 0, zR 8, zR 97, .inl i], [])) 2 (by decide) hz (zsteps_seg hg rfl) ?_
  exact K M2 hJ2
def sg_27 : List zE := [(1413, .aload_n ⟨1, zfin1⟩, 1414, (0, 0, 0, [])),
  (1414, .aload_n ⟨0, zfin0⟩, 1415, (0, 0, 0, [])),
  (1415, .iload_n ⟨3, zfin3⟩, 1416, (0, 0, 0, [])),
  (1416, .iconst 1, 1417, (0, 0, 0, [])),
  (1417, .iadd, 1418, (0, 0, 0, [])),
  (1418, .iaload, 1419, (0, 0, 0, [])),
  (1419, .invokevirtual 129, 1422, (150, 2, 0, [11])),
  (1422, .pop, 1423, (0, 0, 0, [])),
  (1423, .aload_n ⟨2, zfin2⟩, 1424, (0, 0, 0, [])),
  (1424, .aload_n ⟨0, zfin0⟩, 1425, (0, 0, 0, [])),
  (1425, .iload_n ⟨3, zfin3⟩, 1426, (0, 0, 0, [])),
  (1426, .iconst 1, 1427, (0, 0, 0, [])),
  (1427, .iadd, 1428, (0, 0, 0, [])),
  (1428, .iaload, 1429, (0, 0, 0, [])),
  (1429, .invokevirtual 132, 1432, (255, 2, 0, [12])),
  (1432, .pop, 1433, (0, 0, 0, [])),
  (1433, .goto (725), 1436, (2158, 0, 0, []))]
set_option maxRecDepth 100000 in
theorem sh_27 : zSeg zk_L_law sg_27 := zSeg_of 1029 17 1413 (by decide +kernel) rfl (by decide +kernel)
set_option maxRecDepth 100000 in
theorem qL_27 (hJ : qJ M) (hn : n ≤ 4096) (hi : 0 ≤ i ∧ i + 8 ≤ n) (K : ∀ M', qJ M' → zG n (114, 4080270) 300 311 (2158, [zR 0, zR 8, zR 97, .inl i], []) M' qLQ) : zG n (114, 4080270) 300 311 (1413, [zR 0, zR 8, zR 97, .inl i], []) M qLQ := by
  have hz : zP 311 = (zk_L_law, 4, (114, 4080270)) := rfl
  have hg := sh_27
  refine zG_blk (c' := (1418, [zR 0, zR 8, zR 97, .inl i], [.inl (i + 1), zR 0, zR 8])) 5 (by decide) hz (zsteps_seg hg (by rw [show (.inl (i + 1) : zV) = .inl (w32 (i + 1)) from by rw [w32_id (by omega)]]; rfl)) ?_
  refine zG_iald (by decide) hz (hg _ _ rfl) rfl (.inr rfl) (by omega) ?_
  obtain ⟨x1, hx1⟩ : ∃ x : Int, x = M 0 (i + 1).toNat := ⟨_, rfl⟩
  rw [← hx1]
  have hr1 : qin x1 := by rw [hx1]; exact hJ.1.rng 0 _ (by decide) (by decide)
  show zG n (114, 4080270) 300 311 (1419, [zR 0, zR 8, zR 97, .inl i], [.inl x1, zR 8]) M _
  refine zG_call (by decide) hz (rfl : zP 150 = (zk_X10_fault, 2, (0, 0))) (hg _ _ rfl) rfl (Nat.le_of_ble_eq_true rfl) ⟨Nat.le_of_ble_eq_true rfl, Nat.le_of_ble_eq_true rfl⟩ (qm_150_8 (by decide) hJ.1 x1 (by omega)) (fun vr M1 hr => ?_)
  obtain ⟨⟨hCM1, hFM1⟩, hr⟩ := hr
  have hJM1 : qJ M1 := hJ.cls hCM1 hFM1 rfl rfl
  have hc0 : ∀ j, M1 0 j = M 0 j := fun j => hFM1 0 j (by decide)
  obtain ⟨r1, rfl, -⟩ := hr
  show zG n (114, 4080270) 300 311 (1422, [zR 0, zR 8, zR 97, .inl i], [.inl r1]) M1 _
  refine zG_blk (c' := (1428, [zR 0, zR 8, zR 97, .inl i], [.inl (i + 1), zR 0, zR 97])) 6 (by decide) hz (zsteps_seg hg (by rw [show (.inl (i + 1) : zV) = .inl (w32 (i + 1)) from by rw [w32_id (by omega)]]; rfl)) ?_
  refine zG_iald (by decide) hz (hg _ _ rfl) rfl (.inr rfl) (by omega) ?_
  rw [show M1 0 (i + 1).toNat = x1 from (hc0 _).trans hx1.symm]
  show zG n (114, 4080270) 300 311 (1429, [zR 0, zR 8, zR 97, .inl i], [.inl x1, zR 97]) M1 _
  refine zG_call (by decide) hz (rfl : zP 255 = (zk_X11_fault, 2, (0, 0))) (hg _ _ rfl) rfl (Nat.le_of_ble_eq_true rfl) ⟨Nat.le_of_ble_eq_true rfl, Nat.le_of_ble_eq_true rfl⟩ (qm_255_97 (by decide) hJM1.2.1 x1 (by omega)) (fun vr M2 hr => ?_)
  obtain ⟨⟨hCM2, hFM2⟩, hr⟩ := hr
  have hJM2 : qJ M2 := hJM1.mdl hCM2 hFM2 rfl (by decide) (fun j _ _ _ _ => hFM2.ar 98 j (by decide) (by decide))
  obtain ⟨r2, hv9⟩ := hr
  first | (obtain ⟨rfl, -⟩ := hv9) | (obtain rfl := hv9)
  show zG n (114, 4080270) 300 311 (1432, [zR 0, zR 8, zR 97, .inl i], [.inl r2]) M2 _
  refine zG_blk (c' := (2158, [zR 0, zR 8, zR 97, .inl i], [])) 2 (by decide) hz (zsteps_seg hg rfl) ?_
  exact K M2 hJM2
def sg_28 : List zE := [(1436, .aload_n ⟨1, zfin1⟩, 1437, (0, 0, 0, [])),
  (1437, .aload_n ⟨0, zfin0⟩, 1438, (0, 0, 0, [])),
  (1438, .iload_n ⟨3, zfin3⟩, 1439, (0, 0, 0, [])),
  (1439, .iconst 1, 1440, (0, 0, 0, [])),
  (1440, .iadd, 1441, (0, 0, 0, [])),
  (1441, .iaload, 1442, (0, 0, 0, [])),
  (1442, .aload_n ⟨0, zfin0⟩, 1443, (0, 0, 0, [])),
  (1443, .iload_n ⟨3, zfin3⟩, 1444, (0, 0, 0, [])),
  (1444, .iconst 2, 1445, (0, 0, 0, [])),
  (1445, .iadd, 1446, (0, 0, 0, [])),
  (1446, .iaload, 1447, (0, 0, 0, [])),
  (1447, .aload_n ⟨0, zfin0⟩, 1448, (0, 0, 0, [])),
  (1448, .iload_n ⟨3, zfin3⟩, 1449, (0, 0, 0, [])),
  (1449, .iconst 3, 1450, (0, 0, 0, [])),
  (1450, .iadd, 1451, (0, 0, 0, [])),
  (1451, .iaload, 1452, (0, 0, 0, [])),
  (1452, .aload_n ⟨0, zfin0⟩, 1453, (0, 0, 0, [])),
  (1453, .iload_n ⟨3, zfin3⟩, 1454, (0, 0, 0, [])),
  (1454, .iconst 4, 1455, (0, 0, 0, [])),
  (1455, .iadd, 1456, (0, 0, 0, [])),
  (1456, .iaload, 1457, (0, 0, 0, [])),
  (1457, .aload_n ⟨0, zfin0⟩, 1458, (0, 0, 0, [])),
  (1458, .iload_n ⟨3, zfin3⟩, 1459, (0, 0, 0, [])),
  (1459, .iconst 5, 1460, (0, 0, 0, [])),
  (1460, .iadd, 1461, (0, 0, 0, [])),
  (1461, .iaload, 1462, (0, 0, 0, [])),
  (1462, .invokevirtual 133, 1465, (151, 6, 0, [11])),
  (1465, .pop2, 1466, (0, 0, 0, [])),
  (1466, .aload_n ⟨2, zfin2⟩, 1467, (0, 0, 0, [])),
  (1467, .aload_n ⟨0, zfin0⟩, 1468, (0, 0, 0, [])),
  (1468, .iload_n ⟨3, zfin3⟩, 1469, (0, 0, 0, [])),
  (1469, .iconst 1, 1470, (0, 0, 0, [])),
  (1470, .iadd, 1471, (0, 0, 0, [])),
  (1471, .iaload, 1472, (0, 0, 0, [])),
  (1472, .aload_n ⟨0, zfin0⟩, 1473, (0, 0, 0, [])),
  (1473, .iload_n ⟨3, zfin3⟩, 1474, (0, 0, 0, [])),
  (1474, .iconst 2, 1475, (0, 0, 0, [])),
  (1475, .iadd, 1476, (0, 0, 0, [])),
  (1476, .iaload, 1477, (0, 0, 0, [])),
  (1477, .aload_n ⟨0, zfin0⟩, 1478, (0, 0, 0, [])),
  (1478, .iload_n ⟨3, zfin3⟩, 1479, (0, 0, 0, [])),
  (1479, .iconst 3, 1480, (0, 0, 0, [])),
  (1480, .iadd, 1481, (0, 0, 0, [])),
  (1481, .iaload, 1482, (0, 0, 0, [])),
  (1482, .aload_n ⟨0, zfin0⟩, 1483, (0, 0, 0, [])),
  (1483, .iload_n ⟨3, zfin3⟩, 1484, (0, 0, 0, [])),
  (1484, .iconst 4, 1485, (0, 0, 0, [])),
  (1485, .iadd, 1486, (0, 0, 0, [])),
  (1486, .iaload, 1487, (0, 0, 0, [])),
  (1487, .aload_n ⟨0, zfin0⟩, 1488, (0, 0, 0, [])),
  (1488, .iload_n ⟨3, zfin3⟩, 1489, (0, 0, 0, [])),
  (1489, .iconst 5, 1490, (0, 0, 0, [])),
  (1490, .iadd, 1491, (0, 0, 0, [])),
  (1491, .iaload, 1492, (0, 0, 0, [])),
  (1492, .invokevirtual 137, 1495, (256, 6, 0, [12])),
  (1495, .pop2, 1496, (0, 0, 0, [])),
  (1496, .goto (662), 1499, (2158, 0, 0, []))]
set_option maxRecDepth 100000 in
theorem sh_28 : zSeg zk_L_law sg_28 := zSeg_of 1046 57 1436 (by decide +kernel) rfl (by decide +kernel)
set_option maxRecDepth 100000 in
theorem qL_28 (hJ : qJ M) (hn : n ≤ 4096) (hi : 0 ≤ i ∧ i + 8 ≤ n) (K : ∀ M', qJ M' → zG n (114, 4080270) 300 311 (2158, [zR 0, zR 8, zR 97, .inl i], []) M' qLQ) : zG n (114, 4080270) 300 311 (1436, [zR 0, zR 8, zR 97, .inl i], []) M qLQ := by
  have hz : zP 311 = (zk_L_law, 4, (114, 4080270)) := rfl
  have hg := sh_28
  refine zG_blk (c' := (1441, [zR 0, zR 8, zR 97, .inl i], [.inl (i + 1), zR 0, zR 8])) 5 (by decide) hz (zsteps_seg hg (by rw [show (.inl (i + 1) : zV) = .inl (w32 (i + 1)) from by rw [w32_id (by omega)]]; rfl)) ?_
  refine zG_iald (by decide) hz (hg _ _ rfl) rfl (.inr rfl) (by omega) ?_
  obtain ⟨x1, hx1⟩ : ∃ x : Int, x = M 0 (i + 1).toNat := ⟨_, rfl⟩
  rw [← hx1]
  have hr1 : qin x1 := by rw [hx1]; exact hJ.1.rng 0 _ (by decide) (by decide)
  show zG n (114, 4080270) 300 311 (1442, [zR 0, zR 8, zR 97, .inl i], [.inl x1, zR 8]) M _
  refine zG_blk (c' := (1446, [zR 0, zR 8, zR 97, .inl i], [.inl (i + 2), zR 0, .inl x1, zR 8])) 4 (by decide) hz (zsteps_seg hg (by rw [show (.inl (i + 2) : zV) = .inl (w32 (i + 2)) from by rw [w32_id (by omega)]]; rfl)) ?_
  refine zG_iald (by decide) hz (hg _ _ rfl) rfl (.inr rfl) (by omega) ?_
  obtain ⟨x2, hx2⟩ : ∃ x : Int, x = M 0 (i + 2).toNat := ⟨_, rfl⟩
  rw [← hx2]
  have hr2 : qin x2 := by rw [hx2]; exact hJ.1.rng 0 _ (by decide) (by decide)
  show zG n (114, 4080270) 300 311 (1447, [zR 0, zR 8, zR 97, .inl i], [.inl x2, .inl x1, zR 8]) M _
  refine zG_blk (c' := (1451, [zR 0, zR 8, zR 97, .inl i], [.inl (i + 3), zR 0, .inl x2, .inl x1, zR 8])) 4 (by decide) hz (zsteps_seg hg (by rw [show (.inl (i + 3) : zV) = .inl (w32 (i + 3)) from by rw [w32_id (by omega)]]; rfl)) ?_
  refine zG_iald (by decide) hz (hg _ _ rfl) rfl (.inr rfl) (by omega) ?_
  obtain ⟨x3, hx3⟩ : ∃ x : Int, x = M 0 (i + 3).toNat := ⟨_, rfl⟩
  rw [← hx3]
  have hr3 : qin x3 := by rw [hx3]; exact hJ.1.rng 0 _ (by decide) (by decide)
  show zG n (114, 4080270) 300 311 (1452, [zR 0, zR 8, zR 97, .inl i], [.inl x3, .inl x2, .inl x1, zR 8]) M _
  refine zG_blk (c' := (1456, [zR 0, zR 8, zR 97, .inl i], [.inl (i + 4), zR 0, .inl x3, .inl x2, .inl x1, zR 8])) 4 (by decide) hz (zsteps_seg hg (by rw [show (.inl (i + 4) : zV) = .inl (w32 (i + 4)) from by rw [w32_id (by omega)]]; rfl)) ?_
  refine zG_iald (by decide) hz (hg _ _ rfl) rfl (.inr rfl) (by omega) ?_
  obtain ⟨x4, hx4⟩ : ∃ x : Int, x = M 0 (i + 4).toNat := ⟨_, rfl⟩
  rw [← hx4]
  have hr4 : qin x4 := by rw [hx4]; exact hJ.1.rng 0 _ (by decide) (by decide)
  show zG n (114, 4080270) 300 311 (1457, [zR 0, zR 8, zR 97, .inl i], [.inl x4, .inl x3, .inl x2, .inl x1, zR 8]) M _
  refine zG_blk (c' := (1461, [zR 0, zR 8, zR 97, .inl i], [.inl (i + 5), zR 0, .inl x4, .inl x3, .inl x2, .inl x1, zR 8])) 4 (by decide) hz (zsteps_seg hg (by rw [show (.inl (i + 5) : zV) = .inl (w32 (i + 5)) from by rw [w32_id (by omega)]]; rfl)) ?_
  refine zG_iald (by decide) hz (hg _ _ rfl) rfl (.inr rfl) (by omega) ?_
  obtain ⟨x5, hx5⟩ : ∃ x : Int, x = M 0 (i + 5).toNat := ⟨_, rfl⟩
  rw [← hx5]
  have hr5 : qin x5 := by rw [hx5]; exact hJ.1.rng 0 _ (by decide) (by decide)
  show zG n (114, 4080270) 300 311 (1462, [zR 0, zR 8, zR 97, .inl i], [.inl x5, .inl x4, .inl x3, .inl x2, .inl x1, zR 8]) M _
  refine zG_call (by decide) hz (rfl : zP 151 = (zk_X10_tells, 7, (0, 0))) (hg _ _ rfl) rfl (Nat.le_of_ble_eq_true rfl) ⟨Nat.le_of_ble_eq_true rfl, Nat.le_of_ble_eq_true rfl⟩ (qm_151_8 (by decide) hJ.1 x1 (by omega) x2 (by omega) x3 (by omega) x4 (by omega) x5 (by omega)) (fun vr M1 hr => ?_)
  obtain ⟨⟨hCM1, hFM1⟩, hr⟩ := hr
  have hJM1 : qJ M1 := hJ.cls hCM1 hFM1 rfl rfl
  have hc0 : ∀ j, M1 0 j = M 0 j := fun j => hFM1 0 j (by decide)
  obtain ⟨r1, rfl⟩ := hr
  show zG n (114, 4080270) 300 311 (1465, [zR 0, zR 8, zR 97, .inl i], [(.inr (.inl r1))]) M1 _
  refine zG_blk (c' := (1471, [zR 0, zR 8, zR 97, .inl i], [.inl (i + 1), zR 0, zR 97])) 6 (by decide) hz (zsteps_seg hg (by rw [show (.inl (i + 1) : zV) = .inl (w32 (i + 1)) from by rw [w32_id (by omega)]]; rfl)) ?_
  refine zG_iald (by decide) hz (hg _ _ rfl) rfl (.inr rfl) (by omega) ?_
  rw [show M1 0 (i + 1).toNat = x1 from (hc0 _).trans hx1.symm]
  show zG n (114, 4080270) 300 311 (1472, [zR 0, zR 8, zR 97, .inl i], [.inl x1, zR 97]) M1 _
  refine zG_blk (c' := (1476, [zR 0, zR 8, zR 97, .inl i], [.inl (i + 2), zR 0, .inl x1, zR 97])) 4 (by decide) hz (zsteps_seg hg (by rw [show (.inl (i + 2) : zV) = .inl (w32 (i + 2)) from by rw [w32_id (by omega)]]; rfl)) ?_
  refine zG_iald (by decide) hz (hg _ _ rfl) rfl (.inr rfl) (by omega) ?_
  rw [show M1 0 (i + 2).toNat = x2 from (hc0 _).trans hx2.symm]
  show zG n (114, 4080270) 300 311 (1477, [zR 0, zR 8, zR 97, .inl i], [.inl x2, .inl x1, zR 97]) M1 _
  refine zG_blk (c' := (1481, [zR 0, zR 8, zR 97, .inl i], [.inl (i + 3), zR 0, .inl x2, .inl x1, zR 97])) 4 (by decide) hz (zsteps_seg hg (by rw [show (.inl (i + 3) : zV) = .inl (w32 (i + 3)) from by rw [w32_id (by omega)]]; rfl)) ?_
  refine zG_iald (by decide) hz (hg _ _ rfl) rfl (.inr rfl) (by omega) ?_
  rw [show M1 0 (i + 3).toNat = x3 from (hc0 _).trans hx3.symm]
  show zG n (114, 4080270) 300 311 (1482, [zR 0, zR 8, zR 97, .inl i], [.inl x3, .inl x2, .inl x1, zR 97]) M1 _
  refine zG_blk (c' := (1486, [zR 0, zR 8, zR 97, .inl i], [.inl (i + 4), zR 0, .inl x3, .inl x2, .inl x1, zR 97])) 4 (by decide) hz (zsteps_seg hg (by rw [show (.inl (i + 4) : zV) = .inl (w32 (i + 4)) from by rw [w32_id (by omega)]]; rfl)) ?_
  refine zG_iald (by decide) hz (hg _ _ rfl) rfl (.inr rfl) (by omega) ?_
  rw [show M1 0 (i + 4).toNat = x4 from (hc0 _).trans hx4.symm]
  show zG n (114, 4080270) 300 311 (1487, [zR 0, zR 8, zR 97, .inl i], [.inl x4, .inl x3, .inl x2, .inl x1, zR 97]) M1 _
  refine zG_blk (c' := (1491, [zR 0, zR 8, zR 97, .inl i], [.inl (i + 5), zR 0, .inl x4, .inl x3, .inl x2, .inl x1, zR 97])) 4 (by decide) hz (zsteps_seg hg (by rw [show (.inl (i + 5) : zV) = .inl (w32 (i + 5)) from by rw [w32_id (by omega)]]; rfl)) ?_
  refine zG_iald (by decide) hz (hg _ _ rfl) rfl (.inr rfl) (by omega) ?_
  rw [show M1 0 (i + 5).toNat = x5 from (hc0 _).trans hx5.symm]
  show zG n (114, 4080270) 300 311 (1492, [zR 0, zR 8, zR 97, .inl i], [.inl x5, .inl x4, .inl x3, .inl x2, .inl x1, zR 97]) M1 _
  refine zG_call (by decide) hz (rfl : zP 256 = (zk_X11_tells, 6, (0, 0))) (hg _ _ rfl) rfl (Nat.le_of_ble_eq_true rfl) ⟨Nat.le_of_ble_eq_true rfl, Nat.le_of_ble_eq_true rfl⟩ (qm_256_97 (by decide) hJM1.2.1 x1 (by omega) x2 (by omega) x3 (by omega) x4 (by omega) x5 (by omega)) (fun vr M2 hr => ?_)
  obtain ⟨⟨hCM2, hFM2⟩, hr⟩ := hr
  have hJM2 : qJ M2 := hJM1.mdl hCM2 hFM2 rfl (by decide) (fun j _ _ _ _ => hFM2.ar 98 j (by decide) (by decide))
  obtain ⟨r2, hv9⟩ := hr
  first | (obtain ⟨rfl, -⟩ := hv9) | (obtain rfl := hv9)
  show zG n (114, 4080270) 300 311 (1495, [zR 0, zR 8, zR 97, .inl i], [(.inr (.inl r2))]) M2 _
  refine zG_blk (c' := (2158, [zR 0, zR 8, zR 97, .inl i], [])) 2 (by decide) hz (zsteps_seg hg rfl) ?_
  exact K M2 hJM2
def sg_29 : List zE := [(1499, .aload_n ⟨1, zfin1⟩, 1500, (0, 0, 0, [])),
  (1500, .aload_n ⟨0, zfin0⟩, 1501, (0, 0, 0, [])),
  (1501, .iload_n ⟨3, zfin3⟩, 1502, (0, 0, 0, [])),
  (1502, .iconst 1, 1503, (0, 0, 0, [])),
  (1503, .iadd, 1504, (0, 0, 0, [])),
  (1504, .iaload, 1505, (0, 0, 0, [])),
  (1505, .aload_n ⟨0, zfin0⟩, 1506, (0, 0, 0, [])),
  (1506, .iload_n ⟨3, zfin3⟩, 1507, (0, 0, 0, [])),
  (1507, .iconst 2, 1508, (0, 0, 0, [])),
  (1508, .iadd, 1509, (0, 0, 0, [])),
  (1509, .iaload, 1510, (0, 0, 0, [])),
  (1510, .aload_n ⟨0, zfin0⟩, 1511, (0, 0, 0, [])),
  (1511, .iload_n ⟨3, zfin3⟩, 1512, (0, 0, 0, [])),
  (1512, .iconst 3, 1513, (0, 0, 0, [])),
  (1513, .iadd, 1514, (0, 0, 0, [])),
  (1514, .iaload, 1515, (0, 0, 0, [])),
  (1515, .aload_n ⟨0, zfin0⟩, 1516, (0, 0, 0, [])),
  (1516, .iload_n ⟨3, zfin3⟩, 1517, (0, 0, 0, [])),
  (1517, .iconst 4, 1518, (0, 0, 0, [])),
  (1518, .iadd, 1519, (0, 0, 0, [])),
  (1519, .iaload, 1520, (0, 0, 0, [])),
  (1520, .ifCond .eq (7), 1523, (1527, 0, 0, [])),
  (1523, .iconst 1, 1524, (0, 0, 0, [])),
  (1524, .goto (4), 1527, (1528, 0, 0, [])),
  (1527, .iconst 0, 1528, (0, 0, 0, [])),
  (1528, .invokevirtual 138, 1531, (152, 5, 0, [11])),
  (1531, .pop, 1532, (0, 0, 0, [])),
  (1532, .aload_n ⟨2, zfin2⟩, 1533, (0, 0, 0, [])),
  (1533, .aload_n ⟨0, zfin0⟩, 1534, (0, 0, 0, [])),
  (1534, .iload_n ⟨3, zfin3⟩, 1535, (0, 0, 0, [])),
  (1535, .iconst 1, 1536, (0, 0, 0, [])),
  (1536, .iadd, 1537, (0, 0, 0, [])),
  (1537, .iaload, 1538, (0, 0, 0, [])),
  (1538, .aload_n ⟨0, zfin0⟩, 1539, (0, 0, 0, [])),
  (1539, .iload_n ⟨3, zfin3⟩, 1540, (0, 0, 0, [])),
  (1540, .iconst 2, 1541, (0, 0, 0, [])),
  (1541, .iadd, 1542, (0, 0, 0, [])),
  (1542, .iaload, 1543, (0, 0, 0, [])),
  (1543, .aload_n ⟨0, zfin0⟩, 1544, (0, 0, 0, [])),
  (1544, .iload_n ⟨3, zfin3⟩, 1545, (0, 0, 0, [])),
  (1545, .iconst 3, 1546, (0, 0, 0, [])),
  (1546, .iadd, 1547, (0, 0, 0, [])),
  (1547, .iaload, 1548, (0, 0, 0, [])),
  (1548, .aload_n ⟨0, zfin0⟩, 1549, (0, 0, 0, [])),
  (1549, .iload_n ⟨3, zfin3⟩, 1550, (0, 0, 0, [])),
  (1550, .iconst 4, 1551, (0, 0, 0, [])),
  (1551, .iadd, 1552, (0, 0, 0, [])),
  (1552, .iaload, 1553, (0, 0, 0, [])),
  (1553, .ifCond .eq (7), 1556, (1560, 0, 0, [])),
  (1556, .iconst 1, 1557, (0, 0, 0, [])),
  (1557, .goto (4), 1560, (1561, 0, 0, [])),
  (1560, .iconst 0, 1561, (0, 0, 0, [])),
  (1561, .invokevirtual 142, 1564, (257, 5, 0, [12])),
  (1564, .pop, 1565, (0, 0, 0, [])),
  (1565, .goto (593), 1568, (2158, 0, 0, []))]
set_option maxRecDepth 100000 in
theorem sh_29 : zSeg zk_L_law sg_29 := zSeg_of 1103 55 1499 (by decide +kernel) rfl (by decide +kernel)
set_option maxRecDepth 100000 in
theorem qL_29 (hJ : qJ M) (hn : n ≤ 4096) (hi : 0 ≤ i ∧ i + 8 ≤ n) (K : ∀ M', qJ M' → zG n (114, 4080270) 300 311 (2158, [zR 0, zR 8, zR 97, .inl i], []) M' qLQ) : zG n (114, 4080270) 300 311 (1499, [zR 0, zR 8, zR 97, .inl i], []) M qLQ := by
  have hz : zP 311 = (zk_L_law, 4, (114, 4080270)) := rfl
  have hg := sh_29
  refine zG_blk (c' := (1504, [zR 0, zR 8, zR 97, .inl i], [.inl (i + 1), zR 0, zR 8])) 5 (by decide) hz (zsteps_seg hg (by rw [show (.inl (i + 1) : zV) = .inl (w32 (i + 1)) from by rw [w32_id (by omega)]]; rfl)) ?_
  refine zG_iald (by decide) hz (hg _ _ rfl) rfl (.inr rfl) (by omega) ?_
  obtain ⟨x1, hx1⟩ : ∃ x : Int, x = M 0 (i + 1).toNat := ⟨_, rfl⟩
  rw [← hx1]
  have hr1 : qin x1 := by rw [hx1]; exact hJ.1.rng 0 _ (by decide) (by decide)
  show zG n (114, 4080270) 300 311 (1505, [zR 0, zR 8, zR 97, .inl i], [.inl x1, zR 8]) M _
  refine zG_blk (c' := (1509, [zR 0, zR 8, zR 97, .inl i], [.inl (i + 2), zR 0, .inl x1, zR 8])) 4 (by decide) hz (zsteps_seg hg (by rw [show (.inl (i + 2) : zV) = .inl (w32 (i + 2)) from by rw [w32_id (by omega)]]; rfl)) ?_
  refine zG_iald (by decide) hz (hg _ _ rfl) rfl (.inr rfl) (by omega) ?_
  obtain ⟨x2, hx2⟩ : ∃ x : Int, x = M 0 (i + 2).toNat := ⟨_, rfl⟩
  rw [← hx2]
  have hr2 : qin x2 := by rw [hx2]; exact hJ.1.rng 0 _ (by decide) (by decide)
  show zG n (114, 4080270) 300 311 (1510, [zR 0, zR 8, zR 97, .inl i], [.inl x2, .inl x1, zR 8]) M _
  refine zG_blk (c' := (1514, [zR 0, zR 8, zR 97, .inl i], [.inl (i + 3), zR 0, .inl x2, .inl x1, zR 8])) 4 (by decide) hz (zsteps_seg hg (by rw [show (.inl (i + 3) : zV) = .inl (w32 (i + 3)) from by rw [w32_id (by omega)]]; rfl)) ?_
  refine zG_iald (by decide) hz (hg _ _ rfl) rfl (.inr rfl) (by omega) ?_
  obtain ⟨x3, hx3⟩ : ∃ x : Int, x = M 0 (i + 3).toNat := ⟨_, rfl⟩
  rw [← hx3]
  have hr3 : qin x3 := by rw [hx3]; exact hJ.1.rng 0 _ (by decide) (by decide)
  show zG n (114, 4080270) 300 311 (1515, [zR 0, zR 8, zR 97, .inl i], [.inl x3, .inl x2, .inl x1, zR 8]) M _
  refine zG_blk (c' := (1519, [zR 0, zR 8, zR 97, .inl i], [.inl (i + 4), zR 0, .inl x3, .inl x2, .inl x1, zR 8])) 4 (by decide) hz (zsteps_seg hg (by rw [show (.inl (i + 4) : zV) = .inl (w32 (i + 4)) from by rw [w32_id (by omega)]]; rfl)) ?_
  refine zG_iald (by decide) hz (hg _ _ rfl) rfl (.inr rfl) (by omega) ?_
  obtain ⟨x4, hx4⟩ : ∃ x : Int, x = M 0 (i + 4).toNat := ⟨_, rfl⟩
  rw [← hx4]
  have hr4 : qin x4 := by rw [hx4]; exact hJ.1.rng 0 _ (by decide) (by decide)
  show zG n (114, 4080270) 300 311 (1520, [zR 0, zR 8, zR 97, .inl i], [.inl x4, .inl x3, .inl x2, .inl x1, zR 8]) M _
  have j1528 : ∀ b1520 : Int, ((x4 = 0 ∧ b1520 = 0) ∨ (¬ x4 = 0 ∧ b1520 = 1)) → zG n (114, 4080270) 300 311 (1528, [zR 0, zR 8, zR 97, .inl i], [.inl b1520, .inl x3, .inl x2, .inl x1, zR 8]) M qLQ := by
    intro b1520 hb1520
    refine zG_call (by decide) hz (rfl : zP 152 = (zk_X10_ordain, 6, (0, 0))) (hg _ _ rfl) rfl (Nat.le_of_ble_eq_true rfl) ⟨Nat.le_of_ble_eq_true rfl, Nat.le_of_ble_eq_true rfl⟩ (qm_152_8 (by decide) hJ.1 x1 (by omega) x2 (by omega) x3 (by omega) b1520 (by omega)) (fun vr M1 hr => ?_)
    obtain ⟨⟨hCM1, hFM1⟩, hr⟩ := hr
    have hJM1 : qJ M1 := hJ.cls hCM1 hFM1 rfl rfl
    have hc0 : ∀ j, M1 0 j = M 0 j := fun j => hFM1 0 j (by decide)
    obtain ⟨r1, rfl, -⟩ := hr
    show zG n (114, 4080270) 300 311 (1531, [zR 0, zR 8, zR 97, .inl i], [.inl r1]) M1 _
    refine zG_blk (c' := (1537, [zR 0, zR 8, zR 97, .inl i], [.inl (i + 1), zR 0, zR 97])) 6 (by decide) hz (zsteps_seg hg (by rw [show (.inl (i + 1) : zV) = .inl (w32 (i + 1)) from by rw [w32_id (by omega)]]; rfl)) ?_
    refine zG_iald (by decide) hz (hg _ _ rfl) rfl (.inr rfl) (by omega) ?_
    rw [show M1 0 (i + 1).toNat = x1 from (hc0 _).trans hx1.symm]
    show zG n (114, 4080270) 300 311 (1538, [zR 0, zR 8, zR 97, .inl i], [.inl x1, zR 97]) M1 _
    refine zG_blk (c' := (1542, [zR 0, zR 8, zR 97, .inl i], [.inl (i + 2), zR 0, .inl x1, zR 97])) 4 (by decide) hz (zsteps_seg hg (by rw [show (.inl (i + 2) : zV) = .inl (w32 (i + 2)) from by rw [w32_id (by omega)]]; rfl)) ?_
    refine zG_iald (by decide) hz (hg _ _ rfl) rfl (.inr rfl) (by omega) ?_
    rw [show M1 0 (i + 2).toNat = x2 from (hc0 _).trans hx2.symm]
    show zG n (114, 4080270) 300 311 (1543, [zR 0, zR 8, zR 97, .inl i], [.inl x2, .inl x1, zR 97]) M1 _
    refine zG_blk (c' := (1547, [zR 0, zR 8, zR 97, .inl i], [.inl (i + 3), zR 0, .inl x2, .inl x1, zR 97])) 4 (by decide) hz (zsteps_seg hg (by rw [show (.inl (i + 3) : zV) = .inl (w32 (i + 3)) from by rw [w32_id (by omega)]]; rfl)) ?_
    refine zG_iald (by decide) hz (hg _ _ rfl) rfl (.inr rfl) (by omega) ?_
    rw [show M1 0 (i + 3).toNat = x3 from (hc0 _).trans hx3.symm]
    show zG n (114, 4080270) 300 311 (1548, [zR 0, zR 8, zR 97, .inl i], [.inl x3, .inl x2, .inl x1, zR 97]) M1 _
    refine zG_blk (c' := (1552, [zR 0, zR 8, zR 97, .inl i], [.inl (i + 4), zR 0, .inl x3, .inl x2, .inl x1, zR 97])) 4 (by decide) hz (zsteps_seg hg (by rw [show (.inl (i + 4) : zV) = .inl (w32 (i + 4)) from by rw [w32_id (by omega)]]; rfl)) ?_
    refine zG_iald (by decide) hz (hg _ _ rfl) rfl (.inr rfl) (by omega) ?_
    rw [show M1 0 (i + 4).toNat = x4 from (hc0 _).trans hx4.symm]
    show zG n (114, 4080270) 300 311 (1553, [zR 0, zR 8, zR 97, .inl i], [.inl x4, .inl x3, .inl x2, .inl x1, zR 97]) M1 _
    have j1561 : zG n (114, 4080270) 300 311 (1561, [zR 0, zR 8, zR 97, .inl i], [.inl b1520, .inl x3, .inl x2, .inl x1, zR 97]) M1 qLQ := by
      refine zG_call (by decide) hz (rfl : zP 257 = (zk_X11_ordain, 7, (0, 0))) (hg _ _ rfl) rfl (Nat.le_of_ble_eq_true rfl) ⟨Nat.le_of_ble_eq_true rfl, Nat.le_of_ble_eq_true rfl⟩ (qn_257_97 (by decide) hJM1.2.1 x1 (by omega) x2 (by omega) x3 (by omega) b1520 (by omega)) (fun vr M2 hr => ?_)
      obtain ⟨⟨hCM2, hFM2⟩, hr⟩ := hr
      have h9 : ∀ j : Nat, j ≠ 5 ∧ ((j : Int) < 4000 ∨ 5640 ≤ j) → M2 98 j = M1 98 j := by obtain ⟨x9, -, -, -, h9⟩ := hr; exact h9
      have hJM2 : qJ M2 := hJM1.mdl hCM2 hFM2 rfl (by decide) (fun j _ h5 h6 _ => h9 j (by omega))
      obtain ⟨r2, hv9⟩ := hr
      first | (obtain ⟨rfl, -⟩ := hv9) | (obtain rfl := hv9)
      show zG n (114, 4080270) 300 311 (1564, [zR 0, zR 8, zR 97, .inl i], [.inl r2]) M2 _
      refine zG_blk (c' := (2158, [zR 0, zR 8, zR 97, .inl i], [])) 2 (by decide) hz (zsteps_seg hg rfl) ?_
      exact K M2 hJM2
    refine zG_if_eq (by decide) hz (hg _ _ rfl) (fun hb => ?_) (fun hb => ?_)
    · exact zG_blk (c' := (1561, [zR 0, zR 8, zR 97, .inl i], [.inl b1520, .inl x3, .inl x2, .inl x1, zR 97])) 1 (by decide) hz (zsteps_seg hg (by rw [show b1520 = 0 by omega]; rfl)) j1561
    · exact zG_blk (c' := (1561, [zR 0, zR 8, zR 97, .inl i], [.inl b1520, .inl x3, .inl x2, .inl x1, zR 97])) 2 (by decide) hz (zsteps_seg hg (by rw [show b1520 = 1 by omega]; rfl)) j1561
  refine zG_if_eq (by decide) hz (hg _ _ rfl) (fun hb => ?_) (fun hb => ?_)
  · exact zG_blk (c' := (1528, [zR 0, zR 8, zR 97, .inl i], [.inl 0, .inl x3, .inl x2, .inl x1, zR 8])) 1 (by decide) hz (zsteps_seg hg rfl) (j1528 0 (.inl ⟨hb, rfl⟩))
  · exact zG_blk (c' := (1528, [zR 0, zR 8, zR 97, .inl i], [.inl 1, .inl x3, .inl x2, .inl x1, zR 8])) 2 (by decide) hz (zsteps_seg hg rfl) (j1528 1 (.inr ⟨hb, rfl⟩))
def sg_30 : List zE := [(1568, .aload_n ⟨1, zfin1⟩, 1569, (0, 0, 0, [])),
  (1569, .aload_n ⟨0, zfin0⟩, 1570, (0, 0, 0, [])),
  (1570, .iload_n ⟨3, zfin3⟩, 1571, (0, 0, 0, [])),
  (1571, .iconst 1, 1572, (0, 0, 0, [])),
  (1572, .iadd, 1573, (0, 0, 0, [])),
  (1573, .iaload, 1574, (0, 0, 0, [])),
  (1574, .aload_n ⟨0, zfin0⟩, 1575, (0, 0, 0, [])),
  (1575, .iload_n ⟨3, zfin3⟩, 1576, (0, 0, 0, [])),
  (1576, .iconst 2, 1577, (0, 0, 0, [])),
  (1577, .iadd, 1578, (0, 0, 0, [])),
  (1578, .iaload, 1579, (0, 0, 0, [])),
  (1579, .invokevirtual 143, 1582, (153, 3, 0, [11])),
  (1582, .pop, 1583, (0, 0, 0, [])),
  (1583, .aload_n ⟨2, zfin2⟩, 1584, (0, 0, 0, [])),
  (1584, .aload_n ⟨0, zfin0⟩, 1585, (0, 0, 0, [])),
  (1585, .iload_n ⟨3, zfin3⟩, 1586, (0, 0, 0, [])),
  (1586, .iconst 1, 1587, (0, 0, 0, [])),
  (1587, .iadd, 1588, (0, 0, 0, [])),
  (1588, .iaload, 1589, (0, 0, 0, [])),
  (1589, .aload_n ⟨0, zfin0⟩, 1590, (0, 0, 0, [])),
  (1590, .iload_n ⟨3, zfin3⟩, 1591, (0, 0, 0, [])),
  (1591, .iconst 2, 1592, (0, 0, 0, [])),
  (1592, .iadd, 1593, (0, 0, 0, [])),
  (1593, .iaload, 1594, (0, 0, 0, [])),
  (1594, .invokevirtual 146, 1597, (258, 3, 0, [12])),
  (1597, .pop, 1598, (0, 0, 0, [])),
  (1598, .goto (560), 1601, (2158, 0, 0, []))]
set_option maxRecDepth 100000 in
theorem sh_30 : zSeg zk_L_law sg_30 := zSeg_of 1158 27 1568 (by decide +kernel) rfl (by decide +kernel)
set_option maxRecDepth 100000 in
theorem qL_30 (hJ : qJ M) (hn : n ≤ 4096) (hi : 0 ≤ i ∧ i + 8 ≤ n) (K : ∀ M', qJ M' → zG n (114, 4080270) 300 311 (2158, [zR 0, zR 8, zR 97, .inl i], []) M' qLQ) : zG n (114, 4080270) 300 311 (1568, [zR 0, zR 8, zR 97, .inl i], []) M qLQ := by
  have hz : zP 311 = (zk_L_law, 4, (114, 4080270)) := rfl
  have hg := sh_30
  refine zG_blk (c' := (1573, [zR 0, zR 8, zR 97, .inl i], [.inl (i + 1), zR 0, zR 8])) 5 (by decide) hz (zsteps_seg hg (by rw [show (.inl (i + 1) : zV) = .inl (w32 (i + 1)) from by rw [w32_id (by omega)]]; rfl)) ?_
  refine zG_iald (by decide) hz (hg _ _ rfl) rfl (.inr rfl) (by omega) ?_
  obtain ⟨x1, hx1⟩ : ∃ x : Int, x = M 0 (i + 1).toNat := ⟨_, rfl⟩
  rw [← hx1]
  have hr1 : qin x1 := by rw [hx1]; exact hJ.1.rng 0 _ (by decide) (by decide)
  show zG n (114, 4080270) 300 311 (1574, [zR 0, zR 8, zR 97, .inl i], [.inl x1, zR 8]) M _
  refine zG_blk (c' := (1578, [zR 0, zR 8, zR 97, .inl i], [.inl (i + 2), zR 0, .inl x1, zR 8])) 4 (by decide) hz (zsteps_seg hg (by rw [show (.inl (i + 2) : zV) = .inl (w32 (i + 2)) from by rw [w32_id (by omega)]]; rfl)) ?_
  refine zG_iald (by decide) hz (hg _ _ rfl) rfl (.inr rfl) (by omega) ?_
  obtain ⟨x2, hx2⟩ : ∃ x : Int, x = M 0 (i + 2).toNat := ⟨_, rfl⟩
  rw [← hx2]
  have hr2 : qin x2 := by rw [hx2]; exact hJ.1.rng 0 _ (by decide) (by decide)
  show zG n (114, 4080270) 300 311 (1579, [zR 0, zR 8, zR 97, .inl i], [.inl x2, .inl x1, zR 8]) M _
  refine zG_call (by decide) hz (rfl : zP 153 = (zk_X10_choose, 4, (0, 0))) (hg _ _ rfl) rfl (Nat.le_of_ble_eq_true rfl) ⟨Nat.le_of_ble_eq_true rfl, Nat.le_of_ble_eq_true rfl⟩ (zG.andH (qm_153_8 (by decide) hJ.1 x1 (by omega) x2 (by omega)) (fh_153_8 x1 x2)) (fun vr M1 hr => ?_)
  obtain ⟨⟨⟨hC1, hF1⟩, -⟩, rfl, hM1⟩ := hr
  have hi := hF1.hi rfl
  have hI := hJ.2.1.same hi
  have hc0 : ∀ j, M1 0 j = M 0 j := fun j => hF1 0 j (by decide)
  show zG n (114, 4080270) 300 311 (1582, [zR 0, zR 8, zR 97, .inl i], [.inl (hf_153_8 M x1 x2).1]) M1 _
  refine zG_blk (c' := (1588, [zR 0, zR 8, zR 97, .inl i], [.inl (i + 1), zR 0, zR 97])) 6 (by decide) hz (zsteps_seg hg (by rw [show (.inl (i + 1) : zV) = .inl (w32 (i + 1)) from by rw [w32_id (by omega)]]; rfl)) ?_
  refine zG_iald (by decide) hz (hg _ _ rfl) rfl (.inr rfl) (by omega) ?_
  rw [show M1 0 (i + 1).toNat = x1 from (hc0 _).trans hx1.symm]
  show zG n (114, 4080270) 300 311 (1589, [zR 0, zR 8, zR 97, .inl i], [.inl x1, zR 97]) M1 _
  refine zG_blk (c' := (1593, [zR 0, zR 8, zR 97, .inl i], [.inl (i + 2), zR 0, .inl x1, zR 97])) 4 (by decide) hz (zsteps_seg hg (by rw [show (.inl (i + 2) : zV) = .inl (w32 (i + 2)) from by rw [w32_id (by omega)]]; rfl)) ?_
  refine zG_iald (by decide) hz (hg _ _ rfl) rfl (.inr rfl) (by omega) ?_
  rw [show M1 0 (i + 2).toNat = x2 from (hc0 _).trans hx2.symm]
  show zG n (114, 4080270) 300 311 (1594, [zR 0, zR 8, zR 97, .inl i], [.inl x2, .inl x1, zR 97]) M1 _
  refine zG_call (by decide) hz (rfl : zP 258 = (zk_X11_choose, 4, (0, 0))) (hg _ _ rfl) rfl (Nat.le_of_ble_eq_true rfl) ⟨Nat.le_of_ble_eq_true rfl, Nat.le_of_ble_eq_true rfl⟩ (zG.andH (qm_258_97 (by decide) hI x1 (by omega) x2 (by omega)) (fh_258_97 x1 x2)) (fun vr M2 hr => ?_)
  obtain ⟨⟨⟨hC2, hF2⟩, -⟩, rfl, hM2⟩ := hr
  have hm := hm_153 hJ.2.2.1 hJ.1.tb hJ.2.1.bd (a1 := x1) (a2 := x2)
  rw [← hM1] at hm
  rw [← hM2] at hm
  have hJ2 : qJ M2 := hJ.mut hC1 hF1 rfl rfl hC2 hF2 rfl (by decide) hm
  show zG n (114, 4080270) 300 311 (1597, [zR 0, zR 8, zR 97, .inl i], [.inl (hf_258_97 M1 x1 x2).1]) M2 _
  refine zG_blk (c' := (2158, [zR 0, zR 8, zR 97, .inl i], [])) 2 (by decide) hz (zsteps_seg hg rfl) ?_
  exact K M2 hJ2
def sg_31 : List zE := [(1601, .aload_n ⟨1, zfin1⟩, 1602, (0, 0, 0, [])),
  (1602, .aload_n ⟨0, zfin0⟩, 1603, (0, 0, 0, [])),
  (1603, .iload_n ⟨3, zfin3⟩, 1604, (0, 0, 0, [])),
  (1604, .iconst 1, 1605, (0, 0, 0, [])),
  (1605, .iadd, 1606, (0, 0, 0, [])),
  (1606, .iaload, 1607, (0, 0, 0, [])),
  (1607, .aload_n ⟨0, zfin0⟩, 1608, (0, 0, 0, [])),
  (1608, .iload_n ⟨3, zfin3⟩, 1609, (0, 0, 0, [])),
  (1609, .iconst 2, 1610, (0, 0, 0, [])),
  (1610, .iadd, 1611, (0, 0, 0, [])),
  (1611, .iaload, 1612, (0, 0, 0, [])),
  (1612, .invokevirtual 147, 1615, (154, 3, 0, [11])),
  (1615, .pop, 1616, (0, 0, 0, [])),
  (1616, .aload_n ⟨2, zfin2⟩, 1617, (0, 0, 0, [])),
  (1617, .aload_n ⟨0, zfin0⟩, 1618, (0, 0, 0, [])),
  (1618, .iload_n ⟨3, zfin3⟩, 1619, (0, 0, 0, [])),
  (1619, .iconst 1, 1620, (0, 0, 0, [])),
  (1620, .iadd, 1621, (0, 0, 0, [])),
  (1621, .iaload, 1622, (0, 0, 0, [])),
  (1622, .aload_n ⟨0, zfin0⟩, 1623, (0, 0, 0, [])),
  (1623, .iload_n ⟨3, zfin3⟩, 1624, (0, 0, 0, [])),
  (1624, .iconst 2, 1625, (0, 0, 0, [])),
  (1625, .iadd, 1626, (0, 0, 0, [])),
  (1626, .iaload, 1627, (0, 0, 0, [])),
  (1627, .invokevirtual 150, 1630, (259, 3, 0, [12])),
  (1630, .pop, 1631, (0, 0, 0, [])),
  (1631, .goto (527), 1634, (2158, 0, 0, []))]
set_option maxRecDepth 100000 in
theorem sh_31 : zSeg zk_L_law sg_31 := zSeg_of 1185 27 1601 (by decide +kernel) rfl (by decide +kernel)
set_option maxRecDepth 100000 in
theorem qL_31 (hJ : qJ M) (hn : n ≤ 4096) (hi : 0 ≤ i ∧ i + 8 ≤ n) (K : ∀ M', qJ M' → zG n (114, 4080270) 300 311 (2158, [zR 0, zR 8, zR 97, .inl i], []) M' qLQ) : zG n (114, 4080270) 300 311 (1601, [zR 0, zR 8, zR 97, .inl i], []) M qLQ := by
  have hz : zP 311 = (zk_L_law, 4, (114, 4080270)) := rfl
  have hg := sh_31
  refine zG_blk (c' := (1606, [zR 0, zR 8, zR 97, .inl i], [.inl (i + 1), zR 0, zR 8])) 5 (by decide) hz (zsteps_seg hg (by rw [show (.inl (i + 1) : zV) = .inl (w32 (i + 1)) from by rw [w32_id (by omega)]]; rfl)) ?_
  refine zG_iald (by decide) hz (hg _ _ rfl) rfl (.inr rfl) (by omega) ?_
  obtain ⟨x1, hx1⟩ : ∃ x : Int, x = M 0 (i + 1).toNat := ⟨_, rfl⟩
  rw [← hx1]
  have hr1 : qin x1 := by rw [hx1]; exact hJ.1.rng 0 _ (by decide) (by decide)
  show zG n (114, 4080270) 300 311 (1607, [zR 0, zR 8, zR 97, .inl i], [.inl x1, zR 8]) M _
  refine zG_blk (c' := (1611, [zR 0, zR 8, zR 97, .inl i], [.inl (i + 2), zR 0, .inl x1, zR 8])) 4 (by decide) hz (zsteps_seg hg (by rw [show (.inl (i + 2) : zV) = .inl (w32 (i + 2)) from by rw [w32_id (by omega)]]; rfl)) ?_
  refine zG_iald (by decide) hz (hg _ _ rfl) rfl (.inr rfl) (by omega) ?_
  obtain ⟨x2, hx2⟩ : ∃ x : Int, x = M 0 (i + 2).toNat := ⟨_, rfl⟩
  rw [← hx2]
  have hr2 : qin x2 := by rw [hx2]; exact hJ.1.rng 0 _ (by decide) (by decide)
  show zG n (114, 4080270) 300 311 (1612, [zR 0, zR 8, zR 97, .inl i], [.inl x2, .inl x1, zR 8]) M _
  refine zG_call (by decide) hz (rfl : zP 154 = (zk_X10_binds, 3, (0, 0))) (hg _ _ rfl) rfl (Nat.le_of_ble_eq_true rfl) ⟨Nat.le_of_ble_eq_true rfl, Nat.le_of_ble_eq_true rfl⟩ (qm_154_8 (by decide) hJ.1 x1 (by omega) x2 (by omega)) (fun vr M1 hr => ?_)
  obtain ⟨hq, hr⟩ := hr
  replace hq := hq.symm; subst hq
  have hc0 : ∀ j, M 0 j = M 0 j := fun _ => rfl
  obtain ⟨r1, rfl, -⟩ := hr
  show zG n (114, 4080270) 300 311 (1615, [zR 0, zR 8, zR 97, .inl i], [.inl r1]) M _
  refine zG_blk (c' := (1621, [zR 0, zR 8, zR 97, .inl i], [.inl (i + 1), zR 0, zR 97])) 6 (by decide) hz (zsteps_seg hg (by rw [show (.inl (i + 1) : zV) = .inl (w32 (i + 1)) from by rw [w32_id (by omega)]]; rfl)) ?_
  refine zG_iald (by decide) hz (hg _ _ rfl) rfl (.inr rfl) (by omega) ?_
  rw [show M 0 (i + 1).toNat = x1 from hx1.symm]
  show zG n (114, 4080270) 300 311 (1622, [zR 0, zR 8, zR 97, .inl i], [.inl x1, zR 97]) M _
  refine zG_blk (c' := (1626, [zR 0, zR 8, zR 97, .inl i], [.inl (i + 2), zR 0, .inl x1, zR 97])) 4 (by decide) hz (zsteps_seg hg (by rw [show (.inl (i + 2) : zV) = .inl (w32 (i + 2)) from by rw [w32_id (by omega)]]; rfl)) ?_
  refine zG_iald (by decide) hz (hg _ _ rfl) rfl (.inr rfl) (by omega) ?_
  rw [show M 0 (i + 2).toNat = x2 from hx2.symm]
  show zG n (114, 4080270) 300 311 (1627, [zR 0, zR 8, zR 97, .inl i], [.inl x2, .inl x1, zR 97]) M _
  refine zG_call (by decide) hz (rfl : zP 259 = (zk_X11_binds, 3, (0, 0))) (hg _ _ rfl) rfl (Nat.le_of_ble_eq_true rfl) ⟨Nat.le_of_ble_eq_true rfl, Nat.le_of_ble_eq_true rfl⟩ (qm_259_97 (by decide) hJ.2.1 x1 (by omega) x2 (by omega)) (fun vr M2 hr => ?_)
  obtain ⟨hq, hr⟩ := hr
  replace hq := hq.symm; subst hq
  obtain ⟨r2, hv9⟩ := hr
  first | (obtain ⟨rfl, -⟩ := hv9) | (obtain rfl := hv9)
  show zG n (114, 4080270) 300 311 (1630, [zR 0, zR 8, zR 97, .inl i], [.inl r2]) M _
  refine zG_blk (c' := (2158, [zR 0, zR 8, zR 97, .inl i], [])) 2 (by decide) hz (zsteps_seg hg rfl) ?_
  exact K M hJ
def sg_32 : List zE := [(1634, .aload_n ⟨1, zfin1⟩, 1635, (0, 0, 0, [])),
  (1635, .aload_n ⟨0, zfin0⟩, 1636, (0, 0, 0, [])),
  (1636, .iload_n ⟨3, zfin3⟩, 1637, (0, 0, 0, [])),
  (1637, .iconst 1, 1638, (0, 0, 0, [])),
  (1638, .iadd, 1639, (0, 0, 0, [])),
  (1639, .iaload, 1640, (0, 0, 0, [])),
  (1640, .aload_n ⟨0, zfin0⟩, 1641, (0, 0, 0, [])),
  (1641, .iload_n ⟨3, zfin3⟩, 1642, (0, 0, 0, [])),
  (1642, .iconst 2, 1643, (0, 0, 0, [])),
  (1643, .iadd, 1644, (0, 0, 0, [])),
  (1644, .iaload, 1645, (0, 0, 0, [])),
  (1645, .aload_n ⟨0, zfin0⟩, 1646, (0, 0, 0, [])),
  (1646, .iload_n ⟨3, zfin3⟩, 1647, (0, 0, 0, [])),
  (1647, .iconst 3, 1648, (0, 0, 0, [])),
  (1648, .iadd, 1649, (0, 0, 0, [])),
  (1649, .iaload, 1650, (0, 0, 0, [])),
  (1650, .aload_n ⟨0, zfin0⟩, 1651, (0, 0, 0, [])),
  (1651, .iload_n ⟨3, zfin3⟩, 1652, (0, 0, 0, [])),
  (1652, .iconst 4, 1653, (0, 0, 0, [])),
  (1653, .iadd, 1654, (0, 0, 0, [])),
  (1654, .iaload, 1655, (0, 0, 0, [])),
  (1655, .aload_n ⟨0, zfin0⟩, 1656, (0, 0, 0, [])),
  (1656, .iload_n ⟨3, zfin3⟩, 1657, (0, 0, 0, [])),
  (1657, .iconst 5, 1658, (0, 0, 0, [])),
  (1658, .iadd, 1659, (0, 0, 0, [])),
  (1659, .iaload, 1660, (0, 0, 0, [])),
  (1660, .aload_n ⟨0, zfin0⟩, 1661, (0, 0, 0, [])),
  (1661, .iload_n ⟨3, zfin3⟩, 1662, (0, 0, 0, [])),
  (1662, .bipush (6), 1664, (0, 0, 0, [])),
  (1664, .iadd, 1665, (0, 0, 0, [])),
  (1665, .iaload, 1666, (0, 0, 0, [])),
  (1666, .invokevirtual 151, 1669, (155, 7, 0, [11])),
  (1669, .pop, 1670, (0, 0, 0, [])),
  (1670, .aload_n ⟨2, zfin2⟩, 1671, (0, 0, 0, [])),
  (1671, .aload_n ⟨0, zfin0⟩, 1672, (0, 0, 0, [])),
  (1672, .iload_n ⟨3, zfin3⟩, 1673, (0, 0, 0, [])),
  (1673, .iconst 1, 1674, (0, 0, 0, [])),
  (1674, .iadd, 1675, (0, 0, 0, [])),
  (1675, .iaload, 1676, (0, 0, 0, [])),
  (1676, .aload_n ⟨0, zfin0⟩, 1677, (0, 0, 0, [])),
  (1677, .iload_n ⟨3, zfin3⟩, 1678, (0, 0, 0, [])),
  (1678, .iconst 2, 1679, (0, 0, 0, [])),
  (1679, .iadd, 1680, (0, 0, 0, [])),
  (1680, .iaload, 1681, (0, 0, 0, [])),
  (1681, .aload_n ⟨0, zfin0⟩, 1682, (0, 0, 0, [])),
  (1682, .iload_n ⟨3, zfin3⟩, 1683, (0, 0, 0, [])),
  (1683, .iconst 3, 1684, (0, 0, 0, [])),
  (1684, .iadd, 1685, (0, 0, 0, [])),
  (1685, .iaload, 1686, (0, 0, 0, [])),
  (1686, .aload_n ⟨0, zfin0⟩, 1687, (0, 0, 0, [])),
  (1687, .iload_n ⟨3, zfin3⟩, 1688, (0, 0, 0, [])),
  (1688, .iconst 4, 1689, (0, 0, 0, [])),
  (1689, .iadd, 1690, (0, 0, 0, [])),
  (1690, .iaload, 1691, (0, 0, 0, [])),
  (1691, .aload_n ⟨0, zfin0⟩, 1692, (0, 0, 0, [])),
  (1692, .iload_n ⟨3, zfin3⟩, 1693, (0, 0, 0, [])),
  (1693, .iconst 5, 1694, (0, 0, 0, [])),
  (1694, .iadd, 1695, (0, 0, 0, [])),
  (1695, .iaload, 1696, (0, 0, 0, [])),
  (1696, .aload_n ⟨0, zfin0⟩, 1697, (0, 0, 0, [])),
  (1697, .iload_n ⟨3, zfin3⟩, 1698, (0, 0, 0, [])),
  (1698, .bipush (6), 1700, (0, 0, 0, [])),
  (1700, .iadd, 1701, (0, 0, 0, [])),
  (1701, .iaload, 1702, (0, 0, 0, [])),
  (1702, .invokevirtual 154, 1705, (268, 7, 0, [12])),
  (1705, .pop, 1706, (0, 0, 0, [])),
  (1706, .goto (452), 1709, (2158, 0, 0, []))]
set_option maxRecDepth 100000 in
theorem sh_32 : zSeg zk_L_law sg_32 := zSeg_of 1212 67 1634 (by decide +kernel) rfl (by decide +kernel)
set_option maxRecDepth 100000 in
theorem qL_32 (hJ : qJ M) (hn : n ≤ 4096) (hi : 0 ≤ i ∧ i + 8 ≤ n) (K : ∀ M', qJ M' → zG n (114, 4080270) 300 311 (2158, [zR 0, zR 8, zR 97, .inl i], []) M' qLQ) : zG n (114, 4080270) 300 311 (1634, [zR 0, zR 8, zR 97, .inl i], []) M qLQ := by
  have hz : zP 311 = (zk_L_law, 4, (114, 4080270)) := rfl
  have hg := sh_32
  refine zG_blk (c' := (1639, [zR 0, zR 8, zR 97, .inl i], [.inl (i + 1), zR 0, zR 8])) 5 (by decide) hz (zsteps_seg hg (by rw [show (.inl (i + 1) : zV) = .inl (w32 (i + 1)) from by rw [w32_id (by omega)]]; rfl)) ?_
  refine zG_iald (by decide) hz (hg _ _ rfl) rfl (.inr rfl) (by omega) ?_
  obtain ⟨x1, hx1⟩ : ∃ x : Int, x = M 0 (i + 1).toNat := ⟨_, rfl⟩
  rw [← hx1]
  have hr1 : qin x1 := by rw [hx1]; exact hJ.1.rng 0 _ (by decide) (by decide)
  show zG n (114, 4080270) 300 311 (1640, [zR 0, zR 8, zR 97, .inl i], [.inl x1, zR 8]) M _
  refine zG_blk (c' := (1644, [zR 0, zR 8, zR 97, .inl i], [.inl (i + 2), zR 0, .inl x1, zR 8])) 4 (by decide) hz (zsteps_seg hg (by rw [show (.inl (i + 2) : zV) = .inl (w32 (i + 2)) from by rw [w32_id (by omega)]]; rfl)) ?_
  refine zG_iald (by decide) hz (hg _ _ rfl) rfl (.inr rfl) (by omega) ?_
  obtain ⟨x2, hx2⟩ : ∃ x : Int, x = M 0 (i + 2).toNat := ⟨_, rfl⟩
  rw [← hx2]
  have hr2 : qin x2 := by rw [hx2]; exact hJ.1.rng 0 _ (by decide) (by decide)
  show zG n (114, 4080270) 300 311 (1645, [zR 0, zR 8, zR 97, .inl i], [.inl x2, .inl x1, zR 8]) M _
  refine zG_blk (c' := (1649, [zR 0, zR 8, zR 97, .inl i], [.inl (i + 3), zR 0, .inl x2, .inl x1, zR 8])) 4 (by decide) hz (zsteps_seg hg (by rw [show (.inl (i + 3) : zV) = .inl (w32 (i + 3)) from by rw [w32_id (by omega)]]; rfl)) ?_
  refine zG_iald (by decide) hz (hg _ _ rfl) rfl (.inr rfl) (by omega) ?_
  obtain ⟨x3, hx3⟩ : ∃ x : Int, x = M 0 (i + 3).toNat := ⟨_, rfl⟩
  rw [← hx3]
  have hr3 : qin x3 := by rw [hx3]; exact hJ.1.rng 0 _ (by decide) (by decide)
  show zG n (114, 4080270) 300 311 (1650, [zR 0, zR 8, zR 97, .inl i], [.inl x3, .inl x2, .inl x1, zR 8]) M _
  refine zG_blk (c' := (1654, [zR 0, zR 8, zR 97, .inl i], [.inl (i + 4), zR 0, .inl x3, .inl x2, .inl x1, zR 8])) 4 (by decide) hz (zsteps_seg hg (by rw [show (.inl (i + 4) : zV) = .inl (w32 (i + 4)) from by rw [w32_id (by omega)]]; rfl)) ?_
  refine zG_iald (by decide) hz (hg _ _ rfl) rfl (.inr rfl) (by omega) ?_
  obtain ⟨x4, hx4⟩ : ∃ x : Int, x = M 0 (i + 4).toNat := ⟨_, rfl⟩
  rw [← hx4]
  have hr4 : qin x4 := by rw [hx4]; exact hJ.1.rng 0 _ (by decide) (by decide)
  show zG n (114, 4080270) 300 311 (1655, [zR 0, zR 8, zR 97, .inl i], [.inl x4, .inl x3, .inl x2, .inl x1, zR 8]) M _
  refine zG_blk (c' := (1659, [zR 0, zR 8, zR 97, .inl i], [.inl (i + 5), zR 0, .inl x4, .inl x3, .inl x2, .inl x1, zR 8])) 4 (by decide) hz (zsteps_seg hg (by rw [show (.inl (i + 5) : zV) = .inl (w32 (i + 5)) from by rw [w32_id (by omega)]]; rfl)) ?_
  refine zG_iald (by decide) hz (hg _ _ rfl) rfl (.inr rfl) (by omega) ?_
  obtain ⟨x5, hx5⟩ : ∃ x : Int, x = M 0 (i + 5).toNat := ⟨_, rfl⟩
  rw [← hx5]
  have hr5 : qin x5 := by rw [hx5]; exact hJ.1.rng 0 _ (by decide) (by decide)
  show zG n (114, 4080270) 300 311 (1660, [zR 0, zR 8, zR 97, .inl i], [.inl x5, .inl x4, .inl x3, .inl x2, .inl x1, zR 8]) M _
  refine zG_blk (c' := (1665, [zR 0, zR 8, zR 97, .inl i], [.inl (i + 6), zR 0, .inl x5, .inl x4, .inl x3, .inl x2, .inl x1, zR 8])) 4 (by decide) hz (zsteps_seg hg (by rw [show (.inl (i + 6) : zV) = .inl (w32 (i + 6)) from by rw [w32_id (by omega)]]; rfl)) ?_
  refine zG_iald (by decide) hz (hg _ _ rfl) rfl (.inr rfl) (by omega) ?_
  obtain ⟨x6, hx6⟩ : ∃ x : Int, x = M 0 (i + 6).toNat := ⟨_, rfl⟩
  rw [← hx6]
  have hr6 : qin x6 := by rw [hx6]; exact hJ.1.rng 0 _ (by decide) (by decide)
  show zG n (114, 4080270) 300 311 (1666, [zR 0, zR 8, zR 97, .inl i], [.inl x6, .inl x5, .inl x4, .inl x3, .inl x2, .inl x1, zR 8]) M _
  refine zG_call (by decide) hz (rfl : zP 155 = (zk_X10_way, 7, (0, 0))) (hg _ _ rfl) rfl (Nat.le_of_ble_eq_true rfl) ⟨Nat.le_of_ble_eq_true rfl, Nat.le_of_ble_eq_true rfl⟩ (qm_155_8 (by decide) hJ.1 x1 (by omega) x2 (by omega) x3 (by omega) x4 (by omega) x5 (by omega) x6 (by omega)) (fun vr M1 hr => ?_)
  obtain ⟨⟨hCM1, hFM1⟩, hr⟩ := hr
  have hJM1 : qJ M1 := hJ.cls hCM1 hFM1 rfl rfl
  have hc0 : ∀ j, M1 0 j = M 0 j := fun j => hFM1 0 j (by decide)
  obtain ⟨r1, rfl, -⟩ := hr
  show zG n (114, 4080270) 300 311 (1669, [zR 0, zR 8, zR 97, .inl i], [.inl r1]) M1 _
  refine zG_blk (c' := (1675, [zR 0, zR 8, zR 97, .inl i], [.inl (i + 1), zR 0, zR 97])) 6 (by decide) hz (zsteps_seg hg (by rw [show (.inl (i + 1) : zV) = .inl (w32 (i + 1)) from by rw [w32_id (by omega)]]; rfl)) ?_
  refine zG_iald (by decide) hz (hg _ _ rfl) rfl (.inr rfl) (by omega) ?_
  rw [show M1 0 (i + 1).toNat = x1 from (hc0 _).trans hx1.symm]
  show zG n (114, 4080270) 300 311 (1676, [zR 0, zR 8, zR 97, .inl i], [.inl x1, zR 97]) M1 _
  refine zG_blk (c' := (1680, [zR 0, zR 8, zR 97, .inl i], [.inl (i + 2), zR 0, .inl x1, zR 97])) 4 (by decide) hz (zsteps_seg hg (by rw [show (.inl (i + 2) : zV) = .inl (w32 (i + 2)) from by rw [w32_id (by omega)]]; rfl)) ?_
  refine zG_iald (by decide) hz (hg _ _ rfl) rfl (.inr rfl) (by omega) ?_
  rw [show M1 0 (i + 2).toNat = x2 from (hc0 _).trans hx2.symm]
  show zG n (114, 4080270) 300 311 (1681, [zR 0, zR 8, zR 97, .inl i], [.inl x2, .inl x1, zR 97]) M1 _
  refine zG_blk (c' := (1685, [zR 0, zR 8, zR 97, .inl i], [.inl (i + 3), zR 0, .inl x2, .inl x1, zR 97])) 4 (by decide) hz (zsteps_seg hg (by rw [show (.inl (i + 3) : zV) = .inl (w32 (i + 3)) from by rw [w32_id (by omega)]]; rfl)) ?_
  refine zG_iald (by decide) hz (hg _ _ rfl) rfl (.inr rfl) (by omega) ?_
  rw [show M1 0 (i + 3).toNat = x3 from (hc0 _).trans hx3.symm]
  show zG n (114, 4080270) 300 311 (1686, [zR 0, zR 8, zR 97, .inl i], [.inl x3, .inl x2, .inl x1, zR 97]) M1 _
  refine zG_blk (c' := (1690, [zR 0, zR 8, zR 97, .inl i], [.inl (i + 4), zR 0, .inl x3, .inl x2, .inl x1, zR 97])) 4 (by decide) hz (zsteps_seg hg (by rw [show (.inl (i + 4) : zV) = .inl (w32 (i + 4)) from by rw [w32_id (by omega)]]; rfl)) ?_
  refine zG_iald (by decide) hz (hg _ _ rfl) rfl (.inr rfl) (by omega) ?_
  rw [show M1 0 (i + 4).toNat = x4 from (hc0 _).trans hx4.symm]
  show zG n (114, 4080270) 300 311 (1691, [zR 0, zR 8, zR 97, .inl i], [.inl x4, .inl x3, .inl x2, .inl x1, zR 97]) M1 _
  refine zG_blk (c' := (1695, [zR 0, zR 8, zR 97, .inl i], [.inl (i + 5), zR 0, .inl x4, .inl x3, .inl x2, .inl x1, zR 97])) 4 (by decide) hz (zsteps_seg hg (by rw [show (.inl (i + 5) : zV) = .inl (w32 (i + 5)) from by rw [w32_id (by omega)]]; rfl)) ?_
  refine zG_iald (by decide) hz (hg _ _ rfl) rfl (.inr rfl) (by omega) ?_
  rw [show M1 0 (i + 5).toNat = x5 from (hc0 _).trans hx5.symm]
  show zG n (114, 4080270) 300 311 (1696, [zR 0, zR 8, zR 97, .inl i], [.inl x5, .inl x4, .inl x3, .inl x2, .inl x1, zR 97]) M1 _
  refine zG_blk (c' := (1701, [zR 0, zR 8, zR 97, .inl i], [.inl (i + 6), zR 0, .inl x5, .inl x4, .inl x3, .inl x2, .inl x1, zR 97])) 4 (by decide) hz (zsteps_seg hg (by rw [show (.inl (i + 6) : zV) = .inl (w32 (i + 6)) from by rw [w32_id (by omega)]]; rfl)) ?_
  refine zG_iald (by decide) hz (hg _ _ rfl) rfl (.inr rfl) (by omega) ?_
  rw [show M1 0 (i + 6).toNat = x6 from (hc0 _).trans hx6.symm]
  show zG n (114, 4080270) 300 311 (1702, [zR 0, zR 8, zR 97, .inl i], [.inl x6, .inl x5, .inl x4, .inl x3, .inl x2, .inl x1, zR 97]) M1 _
  refine zG_call (by decide) hz (rfl : zP 268 = (zk_X11_way, 7, (0, 0))) (hg _ _ rfl) rfl (Nat.le_of_ble_eq_true rfl) ⟨Nat.le_of_ble_eq_true rfl, Nat.le_of_ble_eq_true rfl⟩ (qm_268_97 (by decide) hJM1.2.1 x1 (by omega) x2 (by omega) x3 (by omega) x4 (by omega) x5 (by omega) x6 (by omega)) (fun vr M2 hr => ?_)
  obtain ⟨⟨hCM2, hFM2⟩, hr⟩ := hr
  have hJM2 : qJ M2 := hJM1.mdl hCM2 hFM2 rfl (by decide) (fun j _ _ _ _ => hFM2.ar 98 j (by decide) (by decide))
  obtain ⟨r2, hv9⟩ := hr
  first | (obtain ⟨rfl, -⟩ := hv9) | (obtain rfl := hv9)
  show zG n (114, 4080270) 300 311 (1705, [zR 0, zR 8, zR 97, .inl i], [.inl r2]) M2 _
  refine zG_blk (c' := (2158, [zR 0, zR 8, zR 97, .inl i], [])) 2 (by decide) hz (zsteps_seg hg rfl) ?_
  exact K M2 hJM2
def sg_33 : List zE := [(1709, .aload_n ⟨1, zfin1⟩, 1710, (0, 0, 0, [])),
  (1710, .aload_n ⟨0, zfin0⟩, 1711, (0, 0, 0, [])),
  (1711, .iload_n ⟨3, zfin3⟩, 1712, (0, 0, 0, [])),
  (1712, .iconst 1, 1713, (0, 0, 0, [])),
  (1713, .iadd, 1714, (0, 0, 0, [])),
  (1714, .iaload, 1715, (0, 0, 0, [])),
  (1715, .aload_n ⟨0, zfin0⟩, 1716, (0, 0, 0, [])),
  (1716, .iload_n ⟨3, zfin3⟩, 1717, (0, 0, 0, [])),
  (1717, .iconst 2, 1718, (0, 0, 0, [])),
  (1718, .iadd, 1719, (0, 0, 0, [])),
  (1719, .iaload, 1720, (0, 0, 0, [])),
  (1720, .aload_n ⟨0, zfin0⟩, 1721, (0, 0, 0, [])),
  (1721, .iload_n ⟨3, zfin3⟩, 1722, (0, 0, 0, [])),
  (1722, .iconst 3, 1723, (0, 0, 0, [])),
  (1723, .iadd, 1724, (0, 0, 0, [])),
  (1724, .iaload, 1725, (0, 0, 0, [])),
  (1725, .aload_n ⟨0, zfin0⟩, 1726, (0, 0, 0, [])),
  (1726, .iload_n ⟨3, zfin3⟩, 1727, (0, 0, 0, [])),
  (1727, .iconst 4, 1728, (0, 0, 0, [])),
  (1728, .iadd, 1729, (0, 0, 0, [])),
  (1729, .iaload, 1730, (0, 0, 0, [])),
  (1730, .aload_n ⟨0, zfin0⟩, 1731, (0, 0, 0, [])),
  (1731, .iload_n ⟨3, zfin3⟩, 1732, (0, 0, 0, [])),
  (1732, .iconst 5, 1733, (0, 0, 0, [])),
  (1733, .iadd, 1734, (0, 0, 0, [])),
  (1734, .iaload, 1735, (0, 0, 0, [])),
  (1735, .aload_n ⟨0, zfin0⟩, 1736, (0, 0, 0, [])),
  (1736, .iload_n ⟨3, zfin3⟩, 1737, (0, 0, 0, [])),
  (1737, .bipush (6), 1739, (0, 0, 0, [])),
  (1739, .iadd, 1740, (0, 0, 0, [])),
  (1740, .iaload, 1741, (0, 0, 0, [])),
  (1741, .aload_n ⟨0, zfin0⟩, 1742, (0, 0, 0, [])),
  (1742, .iload_n ⟨3, zfin3⟩, 1743, (0, 0, 0, [])),
  (1743, .bipush (7), 1745, (0, 0, 0, [])),
  (1745, .iadd, 1746, (0, 0, 0, [])),
  (1746, .iaload, 1747, (0, 0, 0, [])),
  (1747, .invokevirtual 155, 1750, (156, 8, 0, [11])),
  (1750, .pop, 1751, (0, 0, 0, [])),
  (1751, .aload_n ⟨2, zfin2⟩, 1752, (0, 0, 0, [])),
  (1752, .aload_n ⟨0, zfin0⟩, 1753, (0, 0, 0, [])),
  (1753, .iload_n ⟨3, zfin3⟩, 1754, (0, 0, 0, [])),
  (1754, .iconst 1, 1755, (0, 0, 0, [])),
  (1755, .iadd, 1756, (0, 0, 0, [])),
  (1756, .iaload, 1757, (0, 0, 0, [])),
  (1757, .aload_n ⟨0, zfin0⟩, 1758, (0, 0, 0, [])),
  (1758, .iload_n ⟨3, zfin3⟩, 1759, (0, 0, 0, [])),
  (1759, .iconst 2, 1760, (0, 0, 0, [])),
  (1760, .iadd, 1761, (0, 0, 0, [])),
  (1761, .iaload, 1762, (0, 0, 0, [])),
  (1762, .aload_n ⟨0, zfin0⟩, 1763, (0, 0, 0, [])),
  (1763, .iload_n ⟨3, zfin3⟩, 1764, (0, 0, 0, [])),
  (1764, .iconst 3, 1765, (0, 0, 0, [])),
  (1765, .iadd, 1766, (0, 0, 0, [])),
  (1766, .iaload, 1767, (0, 0, 0, [])),
  (1767, .aload_n ⟨0, zfin0⟩, 1768, (0, 0, 0, [])),
  (1768, .iload_n ⟨3, zfin3⟩, 1769, (0, 0, 0, [])),
  (1769, .iconst 4, 1770, (0, 0, 0, [])),
  (1770, .iadd, 1771, (0, 0, 0, [])),
  (1771, .iaload, 1772, (0, 0, 0, [])),
  (1772, .aload_n ⟨0, zfin0⟩, 1773, (0, 0, 0, [])),
  (1773, .iload_n ⟨3, zfin3⟩, 1774, (0, 0, 0, [])),
  (1774, .iconst 5, 1775, (0, 0, 0, [])),
  (1775, .iadd, 1776, (0, 0, 0, [])),
  (1776, .iaload, 1777, (0, 0, 0, [])),
  (1777, .aload_n ⟨0, zfin0⟩, 1778, (0, 0, 0, [])),
  (1778, .iload_n ⟨3, zfin3⟩, 1779, (0, 0, 0, [])),
  (1779, .bipush (6), 1781, (0, 0, 0, [])),
  (1781, .iadd, 1782, (0, 0, 0, [])),
  (1782, .iaload, 1783, (0, 0, 0, [])),
  (1783, .aload_n ⟨0, zfin0⟩, 1784, (0, 0, 0, [])),
  (1784, .iload_n ⟨3, zfin3⟩, 1785, (0, 0, 0, [])),
  (1785, .bipush (7), 1787, (0, 0, 0, [])),
  (1787, .iadd, 1788, (0, 0, 0, [])),
  (1788, .iaload, 1789, (0, 0, 0, [])),
  (1789, .invokevirtual 159, 1792, (270, 8, 0, [12])),
  (1792, .pop, 1793, (0, 0, 0, [])),
  (1793, .goto (365), 1796, (2158, 0, 0, []))]
set_option maxRecDepth 100000 in
theorem sh_33 : zSeg zk_L_law sg_33 := zSeg_of 1279 77 1709 (by decide +kernel) rfl (by decide +kernel)
set_option maxRecDepth 100000 in
theorem qL_33 (hJ : qJ M) (hn : n ≤ 4096) (hi : 0 ≤ i ∧ i + 8 ≤ n) (K : ∀ M', qJ M' → zG n (114, 4080270) 300 311 (2158, [zR 0, zR 8, zR 97, .inl i], []) M' qLQ) : zG n (114, 4080270) 300 311 (1709, [zR 0, zR 8, zR 97, .inl i], []) M qLQ := by
  have hz : zP 311 = (zk_L_law, 4, (114, 4080270)) := rfl
  have hg := sh_33
  refine zG_blk (c' := (1714, [zR 0, zR 8, zR 97, .inl i], [.inl (i + 1), zR 0, zR 8])) 5 (by decide) hz (zsteps_seg hg (by rw [show (.inl (i + 1) : zV) = .inl (w32 (i + 1)) from by rw [w32_id (by omega)]]; rfl)) ?_
  refine zG_iald (by decide) hz (hg _ _ rfl) rfl (.inr rfl) (by omega) ?_
  obtain ⟨x1, hx1⟩ : ∃ x : Int, x = M 0 (i + 1).toNat := ⟨_, rfl⟩
  rw [← hx1]
  have hr1 : qin x1 := by rw [hx1]; exact hJ.1.rng 0 _ (by decide) (by decide)
  show zG n (114, 4080270) 300 311 (1715, [zR 0, zR 8, zR 97, .inl i], [.inl x1, zR 8]) M _
  refine zG_blk (c' := (1719, [zR 0, zR 8, zR 97, .inl i], [.inl (i + 2), zR 0, .inl x1, zR 8])) 4 (by decide) hz (zsteps_seg hg (by rw [show (.inl (i + 2) : zV) = .inl (w32 (i + 2)) from by rw [w32_id (by omega)]]; rfl)) ?_
  refine zG_iald (by decide) hz (hg _ _ rfl) rfl (.inr rfl) (by omega) ?_
  obtain ⟨x2, hx2⟩ : ∃ x : Int, x = M 0 (i + 2).toNat := ⟨_, rfl⟩
  rw [← hx2]
  have hr2 : qin x2 := by rw [hx2]; exact hJ.1.rng 0 _ (by decide) (by decide)
  show zG n (114, 4080270) 300 311 (1720, [zR 0, zR 8, zR 97, .inl i], [.inl x2, .inl x1, zR 8]) M _
  refine zG_blk (c' := (1724, [zR 0, zR 8, zR 97, .inl i], [.inl (i + 3), zR 0, .inl x2, .inl x1, zR 8])) 4 (by decide) hz (zsteps_seg hg (by rw [show (.inl (i + 3) : zV) = .inl (w32 (i + 3)) from by rw [w32_id (by omega)]]; rfl)) ?_
  refine zG_iald (by decide) hz (hg _ _ rfl) rfl (.inr rfl) (by omega) ?_
  obtain ⟨x3, hx3⟩ : ∃ x : Int, x = M 0 (i + 3).toNat := ⟨_, rfl⟩
  rw [← hx3]
  have hr3 : qin x3 := by rw [hx3]; exact hJ.1.rng 0 _ (by decide) (by decide)
  show zG n (114, 4080270) 300 311 (1725, [zR 0, zR 8, zR 97, .inl i], [.inl x3, .inl x2, .inl x1, zR 8]) M _
  refine zG_blk (c' := (1729, [zR 0, zR 8, zR 97, .inl i], [.inl (i + 4), zR 0, .inl x3, .inl x2, .inl x1, zR 8])) 4 (by decide) hz (zsteps_seg hg (by rw [show (.inl (i + 4) : zV) = .inl (w32 (i + 4)) from by rw [w32_id (by omega)]]; rfl)) ?_
  refine zG_iald (by decide) hz (hg _ _ rfl) rfl (.inr rfl) (by omega) ?_
  obtain ⟨x4, hx4⟩ : ∃ x : Int, x = M 0 (i + 4).toNat := ⟨_, rfl⟩
  rw [← hx4]
  have hr4 : qin x4 := by rw [hx4]; exact hJ.1.rng 0 _ (by decide) (by decide)
  show zG n (114, 4080270) 300 311 (1730, [zR 0, zR 8, zR 97, .inl i], [.inl x4, .inl x3, .inl x2, .inl x1, zR 8]) M _
  refine zG_blk (c' := (1734, [zR 0, zR 8, zR 97, .inl i], [.inl (i + 5), zR 0, .inl x4, .inl x3, .inl x2, .inl x1, zR 8])) 4 (by decide) hz (zsteps_seg hg (by rw [show (.inl (i + 5) : zV) = .inl (w32 (i + 5)) from by rw [w32_id (by omega)]]; rfl)) ?_
  refine zG_iald (by decide) hz (hg _ _ rfl) rfl (.inr rfl) (by omega) ?_
  obtain ⟨x5, hx5⟩ : ∃ x : Int, x = M 0 (i + 5).toNat := ⟨_, rfl⟩
  rw [← hx5]
  have hr5 : qin x5 := by rw [hx5]; exact hJ.1.rng 0 _ (by decide) (by decide)
  show zG n (114, 4080270) 300 311 (1735, [zR 0, zR 8, zR 97, .inl i], [.inl x5, .inl x4, .inl x3, .inl x2, .inl x1, zR 8]) M _
  refine zG_blk (c' := (1740, [zR 0, zR 8, zR 97, .inl i], [.inl (i + 6), zR 0, .inl x5, .inl x4, .inl x3, .inl x2, .inl x1, zR 8])) 4 (by decide) hz (zsteps_seg hg (by rw [show (.inl (i + 6) : zV) = .inl (w32 (i + 6)) from by rw [w32_id (by omega)]]; rfl)) ?_
  refine zG_iald (by decide) hz (hg _ _ rfl) rfl (.inr rfl) (by omega) ?_
  obtain ⟨x6, hx6⟩ : ∃ x : Int, x = M 0 (i + 6).toNat := ⟨_, rfl⟩
  rw [← hx6]
  have hr6 : qin x6 := by rw [hx6]; exact hJ.1.rng 0 _ (by decide) (by decide)
  show zG n (114, 4080270) 300 311 (1741, [zR 0, zR 8, zR 97, .inl i], [.inl x6, .inl x5, .inl x4, .inl x3, .inl x2, .inl x1, zR 8]) M _
  refine zG_blk (c' := (1746, [zR 0, zR 8, zR 97, .inl i], [.inl (i + 7), zR 0, .inl x6, .inl x5, .inl x4, .inl x3, .inl x2, .inl x1, zR 8])) 4 (by decide) hz (zsteps_seg hg (by rw [show (.inl (i + 7) : zV) = .inl (w32 (i + 7)) from by rw [w32_id (by omega)]]; rfl)) ?_
  refine zG_iald (by decide) hz (hg _ _ rfl) rfl (.inr rfl) (by omega) ?_
  obtain ⟨x7, hx7⟩ : ∃ x : Int, x = M 0 (i + 7).toNat := ⟨_, rfl⟩
  rw [← hx7]
  have hr7 : qin x7 := by rw [hx7]; exact hJ.1.rng 0 _ (by decide) (by decide)
  show zG n (114, 4080270) 300 311 (1747, [zR 0, zR 8, zR 97, .inl i], [.inl x7, .inl x6, .inl x5, .inl x4, .inl x3, .inl x2, .inl x1, zR 8]) M _
  refine zG_call (by decide) hz (rfl : zP 156 = (zk_X10_wayAt, 9, (0, 0))) (hg _ _ rfl) rfl (Nat.le_of_ble_eq_true rfl) ⟨Nat.le_of_ble_eq_true rfl, Nat.le_of_ble_eq_true rfl⟩ (qm_156_8 (by decide) hJ.1 x1 (by omega) x2 (by omega) x3 (by omega) x4 (by omega) x5 (by omega) x6 (by omega) x7 (by omega)) (fun vr M1 hr => ?_)
  obtain ⟨⟨hCM1, hFM1⟩, hr⟩ := hr
  have hJM1 : qJ M1 := hJ.cls hCM1 hFM1 rfl rfl
  have hc0 : ∀ j, M1 0 j = M 0 j := fun j => hFM1 0 j (by decide)
  obtain ⟨r1, rfl, -⟩ := hr
  show zG n (114, 4080270) 300 311 (1750, [zR 0, zR 8, zR 97, .inl i], [.inl r1]) M1 _
  refine zG_blk (c' := (1756, [zR 0, zR 8, zR 97, .inl i], [.inl (i + 1), zR 0, zR 97])) 6 (by decide) hz (zsteps_seg hg (by rw [show (.inl (i + 1) : zV) = .inl (w32 (i + 1)) from by rw [w32_id (by omega)]]; rfl)) ?_
  refine zG_iald (by decide) hz (hg _ _ rfl) rfl (.inr rfl) (by omega) ?_
  rw [show M1 0 (i + 1).toNat = x1 from (hc0 _).trans hx1.symm]
  show zG n (114, 4080270) 300 311 (1757, [zR 0, zR 8, zR 97, .inl i], [.inl x1, zR 97]) M1 _
  refine zG_blk (c' := (1761, [zR 0, zR 8, zR 97, .inl i], [.inl (i + 2), zR 0, .inl x1, zR 97])) 4 (by decide) hz (zsteps_seg hg (by rw [show (.inl (i + 2) : zV) = .inl (w32 (i + 2)) from by rw [w32_id (by omega)]]; rfl)) ?_
  refine zG_iald (by decide) hz (hg _ _ rfl) rfl (.inr rfl) (by omega) ?_
  rw [show M1 0 (i + 2).toNat = x2 from (hc0 _).trans hx2.symm]
  show zG n (114, 4080270) 300 311 (1762, [zR 0, zR 8, zR 97, .inl i], [.inl x2, .inl x1, zR 97]) M1 _
  refine zG_blk (c' := (1766, [zR 0, zR 8, zR 97, .inl i], [.inl (i + 3), zR 0, .inl x2, .inl x1, zR 97])) 4 (by decide) hz (zsteps_seg hg (by rw [show (.inl (i + 3) : zV) = .inl (w32 (i + 3)) from by rw [w32_id (by omega)]]; rfl)) ?_
  refine zG_iald (by decide) hz (hg _ _ rfl) rfl (.inr rfl) (by omega) ?_
  rw [show M1 0 (i + 3).toNat = x3 from (hc0 _).trans hx3.symm]
  show zG n (114, 4080270) 300 311 (1767, [zR 0, zR 8, zR 97, .inl i], [.inl x3, .inl x2, .inl x1, zR 97]) M1 _
  refine zG_blk (c' := (1771, [zR 0, zR 8, zR 97, .inl i], [.inl (i + 4), zR 0, .inl x3, .inl x2, .inl x1, zR 97])) 4 (by decide) hz (zsteps_seg hg (by rw [show (.inl (i + 4) : zV) = .inl (w32 (i + 4)) from by rw [w32_id (by omega)]]; rfl)) ?_
  refine zG_iald (by decide) hz (hg _ _ rfl) rfl (.inr rfl) (by omega) ?_
  rw [show M1 0 (i + 4).toNat = x4 from (hc0 _).trans hx4.symm]
  show zG n (114, 4080270) 300 311 (1772, [zR 0, zR 8, zR 97, .inl i], [.inl x4, .inl x3, .inl x2, .inl x1, zR 97]) M1 _
  refine zG_blk (c' := (1776, [zR 0, zR 8, zR 97, .inl i], [.inl (i + 5), zR 0, .inl x4, .inl x3, .inl x2, .inl x1, zR 97])) 4 (by decide) hz (zsteps_seg hg (by rw [show (.inl (i + 5) : zV) = .inl (w32 (i + 5)) from by rw [w32_id (by omega)]]; rfl)) ?_
  refine zG_iald (by decide) hz (hg _ _ rfl) rfl (.inr rfl) (by omega) ?_
  rw [show M1 0 (i + 5).toNat = x5 from (hc0 _).trans hx5.symm]
  show zG n (114, 4080270) 300 311 (1777, [zR 0, zR 8, zR 97, .inl i], [.inl x5, .inl x4, .inl x3, .inl x2, .inl x1, zR 97]) M1 _
  refine zG_blk (c' := (1782, [zR 0, zR 8, zR 97, .inl i], [.inl (i + 6), zR 0, .inl x5, .inl x4, .inl x3, .inl x2, .inl x1, zR 97])) 4 (by decide) hz (zsteps_seg hg (by rw [show (.inl (i + 6) : zV) = .inl (w32 (i + 6)) from by rw [w32_id (by omega)]]; rfl)) ?_
  refine zG_iald (by decide) hz (hg _ _ rfl) rfl (.inr rfl) (by omega) ?_
  rw [show M1 0 (i + 6).toNat = x6 from (hc0 _).trans hx6.symm]
  show zG n (114, 4080270) 300 311 (1783, [zR 0, zR 8, zR 97, .inl i], [.inl x6, .inl x5, .inl x4, .inl x3, .inl x2, .inl x1, zR 97]) M1 _
  refine zG_blk (c' := (1788, [zR 0, zR 8, zR 97, .inl i], [.inl (i + 7), zR 0, .inl x6, .inl x5, .inl x4, .inl x3, .inl x2, .inl x1, zR 97])) 4 (by decide) hz (zsteps_seg hg (by rw [show (.inl (i + 7) : zV) = .inl (w32 (i + 7)) from by rw [w32_id (by omega)]]; rfl)) ?_
  refine zG_iald (by decide) hz (hg _ _ rfl) rfl (.inr rfl) (by omega) ?_
  rw [show M1 0 (i + 7).toNat = x7 from (hc0 _).trans hx7.symm]
  show zG n (114, 4080270) 300 311 (1789, [zR 0, zR 8, zR 97, .inl i], [.inl x7, .inl x6, .inl x5, .inl x4, .inl x3, .inl x2, .inl x1, zR 97]) M1 _
  refine zG_call (by decide) hz (rfl : zP 270 = (zk_X11_wayAt, 12, (0, 0))) (hg _ _ rfl) rfl (Nat.le_of_ble_eq_true rfl) ⟨Nat.le_of_ble_eq_true rfl, Nat.le_of_ble_eq_true rfl⟩ (qm_270_97 (by decide) hJM1.2.1 x1 (by omega) x2 (by omega) x3 (by omega) x4 (by omega) x5 (by omega) x6 (by omega) x7 (by omega)) (fun vr M2 hr => ?_)
  obtain ⟨⟨hCM2, hFM2⟩, hr⟩ := hr
  have hJM2 : qJ M2 := hJM1.mdl hCM2 hFM2 rfl (by decide) (fun j _ _ _ _ => hFM2.ar 98 j (by decide) (by decide))
  obtain ⟨r2, hv9⟩ := hr
  first | (obtain ⟨rfl, -⟩ := hv9) | (obtain rfl := hv9)
  show zG n (114, 4080270) 300 311 (1792, [zR 0, zR 8, zR 97, .inl i], [.inl r2]) M2 _
  refine zG_blk (c' := (2158, [zR 0, zR 8, zR 97, .inl i], [])) 2 (by decide) hz (zsteps_seg hg rfl) ?_
  exact K M2 hJM2
def sg_34 : List zE := [(1796, .aload_n ⟨1, zfin1⟩, 1797, (0, 0, 0, [])),
  (1797, .aload_n ⟨0, zfin0⟩, 1798, (0, 0, 0, [])),
  (1798, .iload_n ⟨3, zfin3⟩, 1799, (0, 0, 0, [])),
  (1799, .iconst 1, 1800, (0, 0, 0, [])),
  (1800, .iadd, 1801, (0, 0, 0, [])),
  (1801, .iaload, 1802, (0, 0, 0, [])),
  (1802, .aload_n ⟨0, zfin0⟩, 1803, (0, 0, 0, [])),
  (1803, .iload_n ⟨3, zfin3⟩, 1804, (0, 0, 0, [])),
  (1804, .iconst 2, 1805, (0, 0, 0, [])),
  (1805, .iadd, 1806, (0, 0, 0, [])),
  (1806, .iaload, 1807, (0, 0, 0, [])),
  (1807, .aload_n ⟨0, zfin0⟩, 1808, (0, 0, 0, [])),
  (1808, .iload_n ⟨3, zfin3⟩, 1809, (0, 0, 0, [])),
  (1809, .iconst 3, 1810, (0, 0, 0, [])),
  (1810, .iadd, 1811, (0, 0, 0, [])),
  (1811, .iaload, 1812, (0, 0, 0, [])),
  (1812, .ifCond .eq (7), 1815, (1819, 0, 0, [])),
  (1815, .iconst 1, 1816, (0, 0, 0, [])),
  (1816, .goto (4), 1819, (1820, 0, 0, [])),
  (1819, .iconst 0, 1820, (0, 0, 0, [])),
  (1820, .invokevirtual 160, 1823, (157, 4, 0, [11])),
  (1823, .pop, 1824, (0, 0, 0, [])),
  (1824, .aload_n ⟨2, zfin2⟩, 1825, (0, 0, 0, [])),
  (1825, .aload_n ⟨0, zfin0⟩, 1826, (0, 0, 0, [])),
  (1826, .iload_n ⟨3, zfin3⟩, 1827, (0, 0, 0, [])),
  (1827, .iconst 1, 1828, (0, 0, 0, [])),
  (1828, .iadd, 1829, (0, 0, 0, [])),
  (1829, .iaload, 1830, (0, 0, 0, [])),
  (1830, .aload_n ⟨0, zfin0⟩, 1831, (0, 0, 0, [])),
  (1831, .iload_n ⟨3, zfin3⟩, 1832, (0, 0, 0, [])),
  (1832, .iconst 2, 1833, (0, 0, 0, [])),
  (1833, .iadd, 1834, (0, 0, 0, [])),
  (1834, .iaload, 1835, (0, 0, 0, [])),
  (1835, .aload_n ⟨0, zfin0⟩, 1836, (0, 0, 0, [])),
  (1836, .iload_n ⟨3, zfin3⟩, 1837, (0, 0, 0, [])),
  (1837, .iconst 3, 1838, (0, 0, 0, [])),
  (1838, .iadd, 1839, (0, 0, 0, [])),
  (1839, .iaload, 1840, (0, 0, 0, [])),
  (1840, .ifCond .eq (7), 1843, (1847, 0, 0, [])),
  (1843, .iconst 1, 1844, (0, 0, 0, [])),
  (1844, .goto (4), 1847, (1848, 0, 0, [])),
  (1847, .iconst 0, 1848, (0, 0, 0, [])),
  (1848, .invokevirtual 164, 1851, (271, 4, 0, [12])),
  (1851, .pop, 1852, (0, 0, 0, [])),
  (1852, .goto (306), 1855, (2158, 0, 0, []))]
set_option maxRecDepth 100000 in
theorem sh_34 : zSeg zk_L_law sg_34 := zSeg_of 1356 45 1796 (by decide +kernel) rfl (by decide +kernel)
set_option maxRecDepth 100000 in
theorem qL_34 (hJ : qJ M) (hn : n ≤ 4096) (hi : 0 ≤ i ∧ i + 8 ≤ n) (K : ∀ M', qJ M' → zG n (114, 4080270) 300 311 (2158, [zR 0, zR 8, zR 97, .inl i], []) M' qLQ) : zG n (114, 4080270) 300 311 (1796, [zR 0, zR 8, zR 97, .inl i], []) M qLQ := by
  have hz : zP 311 = (zk_L_law, 4, (114, 4080270)) := rfl
  have hg := sh_34
  refine zG_blk (c' := (1801, [zR 0, zR 8, zR 97, .inl i], [.inl (i + 1), zR 0, zR 8])) 5 (by decide) hz (zsteps_seg hg (by rw [show (.inl (i + 1) : zV) = .inl (w32 (i + 1)) from by rw [w32_id (by omega)]]; rfl)) ?_
  refine zG_iald (by decide) hz (hg _ _ rfl) rfl (.inr rfl) (by omega) ?_
  obtain ⟨x1, hx1⟩ : ∃ x : Int, x = M 0 (i + 1).toNat := ⟨_, rfl⟩
  rw [← hx1]
  have hr1 : qin x1 := by rw [hx1]; exact hJ.1.rng 0 _ (by decide) (by decide)
  show zG n (114, 4080270) 300 311 (1802, [zR 0, zR 8, zR 97, .inl i], [.inl x1, zR 8]) M _
  refine zG_blk (c' := (1806, [zR 0, zR 8, zR 97, .inl i], [.inl (i + 2), zR 0, .inl x1, zR 8])) 4 (by decide) hz (zsteps_seg hg (by rw [show (.inl (i + 2) : zV) = .inl (w32 (i + 2)) from by rw [w32_id (by omega)]]; rfl)) ?_
  refine zG_iald (by decide) hz (hg _ _ rfl) rfl (.inr rfl) (by omega) ?_
  obtain ⟨x2, hx2⟩ : ∃ x : Int, x = M 0 (i + 2).toNat := ⟨_, rfl⟩
  rw [← hx2]
  have hr2 : qin x2 := by rw [hx2]; exact hJ.1.rng 0 _ (by decide) (by decide)
  show zG n (114, 4080270) 300 311 (1807, [zR 0, zR 8, zR 97, .inl i], [.inl x2, .inl x1, zR 8]) M _
  refine zG_blk (c' := (1811, [zR 0, zR 8, zR 97, .inl i], [.inl (i + 3), zR 0, .inl x2, .inl x1, zR 8])) 4 (by decide) hz (zsteps_seg hg (by rw [show (.inl (i + 3) : zV) = .inl (w32 (i + 3)) from by rw [w32_id (by omega)]]; rfl)) ?_
  refine zG_iald (by decide) hz (hg _ _ rfl) rfl (.inr rfl) (by omega) ?_
  obtain ⟨x3, hx3⟩ : ∃ x : Int, x = M 0 (i + 3).toNat := ⟨_, rfl⟩
  rw [← hx3]
  have hr3 : qin x3 := by rw [hx3]; exact hJ.1.rng 0 _ (by decide) (by decide)
  show zG n (114, 4080270) 300 311 (1812, [zR 0, zR 8, zR 97, .inl i], [.inl x3, .inl x2, .inl x1, zR 8]) M _
  have j1820 : ∀ b1812 : Int, ((x3 = 0 ∧ b1812 = 0) ∨ (¬ x3 = 0 ∧ b1812 = 1)) → zG n (114, 4080270) 300 311 (1820, [zR 0, zR 8, zR 97, .inl i], [.inl b1812, .inl x2, .inl x1, zR 8]) M qLQ := by
    intro b1812 hb1812
    refine zG_call (by decide) hz (rfl : zP 157 = (zk_X10_sits, 6, (0, 0))) (hg _ _ rfl) rfl (Nat.le_of_ble_eq_true rfl) ⟨Nat.le_of_ble_eq_true rfl, Nat.le_of_ble_eq_true rfl⟩ (zG.andH (qm_157_8 (by decide) hJ.1 x1 (by omega) x2 (by omega) b1812 (by omega)) (fh_157_8 x1 x2 b1812)) (fun vr M1 hr => ?_)
    obtain ⟨⟨⟨hC1, hF1⟩, -⟩, rfl, hM1⟩ := hr
    have hi := hF1.hi rfl
    have hI := hJ.2.1.same hi
    have hc0 : ∀ j, M1 0 j = M 0 j := fun j => hF1 0 j (by decide)
    show zG n (114, 4080270) 300 311 (1823, [zR 0, zR 8, zR 97, .inl i], [.inl (hf_157_8 M x1 x2 b1812).1]) M1 _
    refine zG_blk (c' := (1829, [zR 0, zR 8, zR 97, .inl i], [.inl (i + 1), zR 0, zR 97])) 6 (by decide) hz (zsteps_seg hg (by rw [show (.inl (i + 1) : zV) = .inl (w32 (i + 1)) from by rw [w32_id (by omega)]]; rfl)) ?_
    refine zG_iald (by decide) hz (hg _ _ rfl) rfl (.inr rfl) (by omega) ?_
    rw [show M1 0 (i + 1).toNat = x1 from (hc0 _).trans hx1.symm]
    show zG n (114, 4080270) 300 311 (1830, [zR 0, zR 8, zR 97, .inl i], [.inl x1, zR 97]) M1 _
    refine zG_blk (c' := (1834, [zR 0, zR 8, zR 97, .inl i], [.inl (i + 2), zR 0, .inl x1, zR 97])) 4 (by decide) hz (zsteps_seg hg (by rw [show (.inl (i + 2) : zV) = .inl (w32 (i + 2)) from by rw [w32_id (by omega)]]; rfl)) ?_
    refine zG_iald (by decide) hz (hg _ _ rfl) rfl (.inr rfl) (by omega) ?_
    rw [show M1 0 (i + 2).toNat = x2 from (hc0 _).trans hx2.symm]
    show zG n (114, 4080270) 300 311 (1835, [zR 0, zR 8, zR 97, .inl i], [.inl x2, .inl x1, zR 97]) M1 _
    refine zG_blk (c' := (1839, [zR 0, zR 8, zR 97, .inl i], [.inl (i + 3), zR 0, .inl x2, .inl x1, zR 97])) 4 (by decide) hz (zsteps_seg hg (by rw [show (.inl (i + 3) : zV) = .inl (w32 (i + 3)) from by rw [w32_id (by omega)]]; rfl)) ?_
    refine zG_iald (by decide) hz (hg _ _ rfl) rfl (.inr rfl) (by omega) ?_
    rw [show M1 0 (i + 3).toNat = x3 from (hc0 _).trans hx3.symm]
    show zG n (114, 4080270) 300 311 (1840, [zR 0, zR 8, zR 97, .inl i], [.inl x3, .inl x2, .inl x1, zR 97]) M1 _
    have j1848 : zG n (114, 4080270) 300 311 (1848, [zR 0, zR 8, zR 97, .inl i], [.inl b1812, .inl x2, .inl x1, zR 97]) M1 qLQ := by
      refine zG_call (by decide) hz (rfl : zP 271 = (zk_X11_sits, 5, (0, 0))) (hg _ _ rfl) rfl (Nat.le_of_ble_eq_true rfl) ⟨Nat.le_of_ble_eq_true rfl, Nat.le_of_ble_eq_true rfl⟩ (zG.andH (qm_271_97 (by decide) hI x1 (by omega) x2 (by omega) b1812 (by omega)) (fh_271_97 x1 x2 b1812)) (fun vr M2 hr => ?_)
      obtain ⟨⟨⟨hC2, hF2⟩, -⟩, rfl, hM2⟩ := hr
      have hm := hm_157 hJ.2.2.1 hJ.1.tb hJ.2.1.bd (a1 := x1) (a2 := x2) (a3 := b1812)
      rw [← hM1] at hm
      rw [← hM2] at hm
      have hJ2 : qJ M2 := hJ.mut hC1 hF1 rfl rfl hC2 hF2 rfl (by decide) hm
      show zG n (114, 4080270) 300 311 (1851, [zR 0, zR 8, zR 97, .inl i], [.inl (hf_271_97 M1 x1 x2 b1812).1]) M2 _
      refine zG_blk (c' := (2158, [zR 0, zR 8, zR 97, .inl i], [])) 2 (by decide) hz (zsteps_seg hg rfl) ?_
      exact K M2 hJ2
    refine zG_if_eq (by decide) hz (hg _ _ rfl) (fun hb => ?_) (fun hb => ?_)
    · exact zG_blk (c' := (1848, [zR 0, zR 8, zR 97, .inl i], [.inl b1812, .inl x2, .inl x1, zR 97])) 1 (by decide) hz (zsteps_seg hg (by rw [show b1812 = 0 by omega]; rfl)) j1848
    · exact zG_blk (c' := (1848, [zR 0, zR 8, zR 97, .inl i], [.inl b1812, .inl x2, .inl x1, zR 97])) 2 (by decide) hz (zsteps_seg hg (by rw [show b1812 = 1 by omega]; rfl)) j1848
  refine zG_if_eq (by decide) hz (hg _ _ rfl) (fun hb => ?_) (fun hb => ?_)
  · exact zG_blk (c' := (1820, [zR 0, zR 8, zR 97, .inl i], [.inl 0, .inl x2, .inl x1, zR 8])) 1 (by decide) hz (zsteps_seg hg rfl) (j1820 0 (.inl ⟨hb, rfl⟩))
  · exact zG_blk (c' := (1820, [zR 0, zR 8, zR 97, .inl i], [.inl 1, .inl x2, .inl x1, zR 8])) 2 (by decide) hz (zsteps_seg hg rfl) (j1820 1 (.inr ⟨hb, rfl⟩))
def sg_35 : List zE := [(1855, .aload_n ⟨1, zfin1⟩, 1856, (0, 0, 0, [])),
  (1856, .aload_n ⟨0, zfin0⟩, 1857, (0, 0, 0, [])),
  (1857, .iload_n ⟨3, zfin3⟩, 1858, (0, 0, 0, [])),
  (1858, .iconst 1, 1859, (0, 0, 0, [])),
  (1859, .iadd, 1860, (0, 0, 0, [])),
  (1860, .iaload, 1861, (0, 0, 0, [])),
  (1861, .aload_n ⟨0, zfin0⟩, 1862, (0, 0, 0, [])),
  (1862, .iload_n ⟨3, zfin3⟩, 1863, (0, 0, 0, [])),
  (1863, .iconst 2, 1864, (0, 0, 0, [])),
  (1864, .iadd, 1865, (0, 0, 0, [])),
  (1865, .iaload, 1866, (0, 0, 0, [])),
  (1866, .invokevirtual 165, 1869, (158, 3, 0, [11])),
  (1869, .pop, 1870, (0, 0, 0, [])),
  (1870, .aload_n ⟨2, zfin2⟩, 1871, (0, 0, 0, [])),
  (1871, .aload_n ⟨0, zfin0⟩, 1872, (0, 0, 0, [])),
  (1872, .iload_n ⟨3, zfin3⟩, 1873, (0, 0, 0, [])),
  (1873, .iconst 1, 1874, (0, 0, 0, [])),
  (1874, .iadd, 1875, (0, 0, 0, [])),
  (1875, .iaload, 1876, (0, 0, 0, [])),
  (1876, .aload_n ⟨0, zfin0⟩, 1877, (0, 0, 0, [])),
  (1877, .iload_n ⟨3, zfin3⟩, 1878, (0, 0, 0, [])),
  (1878, .iconst 2, 1879, (0, 0, 0, [])),
  (1879, .iadd, 1880, (0, 0, 0, [])),
  (1880, .iaload, 1881, (0, 0, 0, [])),
  (1881, .invokevirtual 168, 1884, (278, 3, 0, [12])),
  (1884, .pop, 1885, (0, 0, 0, [])),
  (1885, .goto (273), 1888, (2158, 0, 0, []))]
set_option maxRecDepth 100000 in
theorem sh_35 : zSeg zk_L_law sg_35 := zSeg_of 1401 27 1855 (by decide +kernel) rfl (by decide +kernel)
set_option maxRecDepth 100000 in
theorem qL_35 (hJ : qJ M) (hn : n ≤ 4096) (hi : 0 ≤ i ∧ i + 8 ≤ n) (K : ∀ M', qJ M' → zG n (114, 4080270) 300 311 (2158, [zR 0, zR 8, zR 97, .inl i], []) M' qLQ) : zG n (114, 4080270) 300 311 (1855, [zR 0, zR 8, zR 97, .inl i], []) M qLQ := by
  have hz : zP 311 = (zk_L_law, 4, (114, 4080270)) := rfl
  have hg := sh_35
  refine zG_blk (c' := (1860, [zR 0, zR 8, zR 97, .inl i], [.inl (i + 1), zR 0, zR 8])) 5 (by decide) hz (zsteps_seg hg (by rw [show (.inl (i + 1) : zV) = .inl (w32 (i + 1)) from by rw [w32_id (by omega)]]; rfl)) ?_
  refine zG_iald (by decide) hz (hg _ _ rfl) rfl (.inr rfl) (by omega) ?_
  obtain ⟨x1, hx1⟩ : ∃ x : Int, x = M 0 (i + 1).toNat := ⟨_, rfl⟩
  rw [← hx1]
  have hr1 : qin x1 := by rw [hx1]; exact hJ.1.rng 0 _ (by decide) (by decide)
  show zG n (114, 4080270) 300 311 (1861, [zR 0, zR 8, zR 97, .inl i], [.inl x1, zR 8]) M _
  refine zG_blk (c' := (1865, [zR 0, zR 8, zR 97, .inl i], [.inl (i + 2), zR 0, .inl x1, zR 8])) 4 (by decide) hz (zsteps_seg hg (by rw [show (.inl (i + 2) : zV) = .inl (w32 (i + 2)) from by rw [w32_id (by omega)]]; rfl)) ?_
  refine zG_iald (by decide) hz (hg _ _ rfl) rfl (.inr rfl) (by omega) ?_
  obtain ⟨x2, hx2⟩ : ∃ x : Int, x = M 0 (i + 2).toNat := ⟨_, rfl⟩
  rw [← hx2]
  have hr2 : qin x2 := by rw [hx2]; exact hJ.1.rng 0 _ (by decide) (by decide)
  show zG n (114, 4080270) 300 311 (1866, [zR 0, zR 8, zR 97, .inl i], [.inl x2, .inl x1, zR 8]) M _
  refine zG_call (by decide) hz (rfl : zP 158 = (zk_X10_hours, 3, (0, 0))) (hg _ _ rfl) rfl (Nat.le_of_ble_eq_true rfl) ⟨Nat.le_of_ble_eq_true rfl, Nat.le_of_ble_eq_true rfl⟩ (qm_158_8 (by decide) hJ.1 x1 (by omega) x2 (by omega)) (fun vr M1 hr => ?_)
  obtain ⟨⟨hCM1, hFM1⟩, hr⟩ := hr
  have hJM1 : qJ M1 := hJ.cls hCM1 hFM1 rfl rfl
  have hc0 : ∀ j, M1 0 j = M 0 j := fun j => hFM1 0 j (by decide)
  obtain ⟨r1, rfl, -⟩ := hr
  show zG n (114, 4080270) 300 311 (1869, [zR 0, zR 8, zR 97, .inl i], [.inl r1]) M1 _
  refine zG_blk (c' := (1875, [zR 0, zR 8, zR 97, .inl i], [.inl (i + 1), zR 0, zR 97])) 6 (by decide) hz (zsteps_seg hg (by rw [show (.inl (i + 1) : zV) = .inl (w32 (i + 1)) from by rw [w32_id (by omega)]]; rfl)) ?_
  refine zG_iald (by decide) hz (hg _ _ rfl) rfl (.inr rfl) (by omega) ?_
  rw [show M1 0 (i + 1).toNat = x1 from (hc0 _).trans hx1.symm]
  show zG n (114, 4080270) 300 311 (1876, [zR 0, zR 8, zR 97, .inl i], [.inl x1, zR 97]) M1 _
  refine zG_blk (c' := (1880, [zR 0, zR 8, zR 97, .inl i], [.inl (i + 2), zR 0, .inl x1, zR 97])) 4 (by decide) hz (zsteps_seg hg (by rw [show (.inl (i + 2) : zV) = .inl (w32 (i + 2)) from by rw [w32_id (by omega)]]; rfl)) ?_
  refine zG_iald (by decide) hz (hg _ _ rfl) rfl (.inr rfl) (by omega) ?_
  rw [show M1 0 (i + 2).toNat = x2 from (hc0 _).trans hx2.symm]
  show zG n (114, 4080270) 300 311 (1881, [zR 0, zR 8, zR 97, .inl i], [.inl x2, .inl x1, zR 97]) M1 _
  refine zG_call (by decide) hz (rfl : zP 278 = (zk_X11_hours, 4, (0, 0))) (hg _ _ rfl) rfl (Nat.le_of_ble_eq_true rfl) ⟨Nat.le_of_ble_eq_true rfl, Nat.le_of_ble_eq_true rfl⟩ (qm_278_97 (by decide) hJM1.2.1 x1 (by omega) x2 (by omega)) (fun vr M2 hr => ?_)
  obtain ⟨⟨hCM2, hFM2⟩, hr⟩ := hr
  have hJM2 : qJ M2 := hJM1.mdl hCM2 hFM2 rfl (by decide) (fun j _ _ _ _ => hFM2.ar 98 j (by decide) (by decide))
  obtain ⟨r2, hv9⟩ := hr
  first | (obtain ⟨rfl, -⟩ := hv9) | (obtain rfl := hv9)
  show zG n (114, 4080270) 300 311 (1884, [zR 0, zR 8, zR 97, .inl i], [.inl r2]) M2 _
  refine zG_blk (c' := (2158, [zR 0, zR 8, zR 97, .inl i], [])) 2 (by decide) hz (zsteps_seg hg rfl) ?_
  exact K M2 hJM2
def sg_36 : List zE := [(1888, .aload_n ⟨1, zfin1⟩, 1889, (0, 0, 0, [])),
  (1889, .aload_n ⟨0, zfin0⟩, 1890, (0, 0, 0, [])),
  (1890, .iload_n ⟨3, zfin3⟩, 1891, (0, 0, 0, [])),
  (1891, .iconst 1, 1892, (0, 0, 0, [])),
  (1892, .iadd, 1893, (0, 0, 0, [])),
  (1893, .iaload, 1894, (0, 0, 0, [])),
  (1894, .aload_n ⟨0, zfin0⟩, 1895, (0, 0, 0, [])),
  (1895, .iload_n ⟨3, zfin3⟩, 1896, (0, 0, 0, [])),
  (1896, .iconst 2, 1897, (0, 0, 0, [])),
  (1897, .iadd, 1898, (0, 0, 0, [])),
  (1898, .iaload, 1899, (0, 0, 0, [])),
  (1899, .aload_n ⟨0, zfin0⟩, 1900, (0, 0, 0, [])),
  (1900, .iload_n ⟨3, zfin3⟩, 1901, (0, 0, 0, [])),
  (1901, .iconst 3, 1902, (0, 0, 0, [])),
  (1902, .iadd, 1903, (0, 0, 0, [])),
  (1903, .iaload, 1904, (0, 0, 0, [])),
  (1904, .invokevirtual 169, 1907, (159, 4, 0, [11])),
  (1907, .pop, 1908, (0, 0, 0, [])),
  (1908, .aload_n ⟨2, zfin2⟩, 1909, (0, 0, 0, [])),
  (1909, .aload_n ⟨0, zfin0⟩, 1910, (0, 0, 0, [])),
  (1910, .iload_n ⟨3, zfin3⟩, 1911, (0, 0, 0, [])),
  (1911, .iconst 1, 1912, (0, 0, 0, [])),
  (1912, .iadd, 1913, (0, 0, 0, [])),
  (1913, .iaload, 1914, (0, 0, 0, [])),
  (1914, .aload_n ⟨0, zfin0⟩, 1915, (0, 0, 0, [])),
  (1915, .iload_n ⟨3, zfin3⟩, 1916, (0, 0, 0, [])),
  (1916, .iconst 2, 1917, (0, 0, 0, [])),
  (1917, .iadd, 1918, (0, 0, 0, [])),
  (1918, .iaload, 1919, (0, 0, 0, [])),
  (1919, .aload_n ⟨0, zfin0⟩, 1920, (0, 0, 0, [])),
  (1920, .iload_n ⟨3, zfin3⟩, 1921, (0, 0, 0, [])),
  (1921, .iconst 3, 1922, (0, 0, 0, [])),
  (1922, .iadd, 1923, (0, 0, 0, [])),
  (1923, .iaload, 1924, (0, 0, 0, [])),
  (1924, .invokevirtual 172, 1927, (279, 4, 0, [12])),
  (1927, .pop, 1928, (0, 0, 0, [])),
  (1928, .goto (230), 1931, (2158, 0, 0, []))]
set_option maxRecDepth 100000 in
theorem sh_36 : zSeg zk_L_law sg_36 := zSeg_of 1428 37 1888 (by decide +kernel) rfl (by decide +kernel)
set_option maxRecDepth 100000 in
theorem qL_36 (hJ : qJ M) (hn : n ≤ 4096) (hi : 0 ≤ i ∧ i + 8 ≤ n) (K : ∀ M', qJ M' → zG n (114, 4080270) 300 311 (2158, [zR 0, zR 8, zR 97, .inl i], []) M' qLQ) : zG n (114, 4080270) 300 311 (1888, [zR 0, zR 8, zR 97, .inl i], []) M qLQ := by
  have hz : zP 311 = (zk_L_law, 4, (114, 4080270)) := rfl
  have hg := sh_36
  refine zG_blk (c' := (1893, [zR 0, zR 8, zR 97, .inl i], [.inl (i + 1), zR 0, zR 8])) 5 (by decide) hz (zsteps_seg hg (by rw [show (.inl (i + 1) : zV) = .inl (w32 (i + 1)) from by rw [w32_id (by omega)]]; rfl)) ?_
  refine zG_iald (by decide) hz (hg _ _ rfl) rfl (.inr rfl) (by omega) ?_
  obtain ⟨x1, hx1⟩ : ∃ x : Int, x = M 0 (i + 1).toNat := ⟨_, rfl⟩
  rw [← hx1]
  have hr1 : qin x1 := by rw [hx1]; exact hJ.1.rng 0 _ (by decide) (by decide)
  show zG n (114, 4080270) 300 311 (1894, [zR 0, zR 8, zR 97, .inl i], [.inl x1, zR 8]) M _
  refine zG_blk (c' := (1898, [zR 0, zR 8, zR 97, .inl i], [.inl (i + 2), zR 0, .inl x1, zR 8])) 4 (by decide) hz (zsteps_seg hg (by rw [show (.inl (i + 2) : zV) = .inl (w32 (i + 2)) from by rw [w32_id (by omega)]]; rfl)) ?_
  refine zG_iald (by decide) hz (hg _ _ rfl) rfl (.inr rfl) (by omega) ?_
  obtain ⟨x2, hx2⟩ : ∃ x : Int, x = M 0 (i + 2).toNat := ⟨_, rfl⟩
  rw [← hx2]
  have hr2 : qin x2 := by rw [hx2]; exact hJ.1.rng 0 _ (by decide) (by decide)
  show zG n (114, 4080270) 300 311 (1899, [zR 0, zR 8, zR 97, .inl i], [.inl x2, .inl x1, zR 8]) M _
  refine zG_blk (c' := (1903, [zR 0, zR 8, zR 97, .inl i], [.inl (i + 3), zR 0, .inl x2, .inl x1, zR 8])) 4 (by decide) hz (zsteps_seg hg (by rw [show (.inl (i + 3) : zV) = .inl (w32 (i + 3)) from by rw [w32_id (by omega)]]; rfl)) ?_
  refine zG_iald (by decide) hz (hg _ _ rfl) rfl (.inr rfl) (by omega) ?_
  obtain ⟨x3, hx3⟩ : ∃ x : Int, x = M 0 (i + 3).toNat := ⟨_, rfl⟩
  rw [← hx3]
  have hr3 : qin x3 := by rw [hx3]; exact hJ.1.rng 0 _ (by decide) (by decide)
  show zG n (114, 4080270) 300 311 (1904, [zR 0, zR 8, zR 97, .inl i], [.inl x3, .inl x2, .inl x1, zR 8]) M _
  refine zG_call (by decide) hz (rfl : zP 159 = (zk_X10_hourOf, 5, (0, 0))) (hg _ _ rfl) rfl (Nat.le_of_ble_eq_true rfl) ⟨Nat.le_of_ble_eq_true rfl, Nat.le_of_ble_eq_true rfl⟩ (qm_159_8 (by decide) hJ.1 x1 (by omega) x2 (by omega) x3 (by omega)) (fun vr M1 hr => ?_)
  obtain ⟨⟨hCM1, hFM1⟩, hr⟩ := hr
  have hJM1 : qJ M1 := hJ.cls hCM1 hFM1 rfl rfl
  have hc0 : ∀ j, M1 0 j = M 0 j := fun j => hFM1 0 j (by decide)
  obtain ⟨r1, rfl, -⟩ := hr
  show zG n (114, 4080270) 300 311 (1907, [zR 0, zR 8, zR 97, .inl i], [.inl r1]) M1 _
  refine zG_blk (c' := (1913, [zR 0, zR 8, zR 97, .inl i], [.inl (i + 1), zR 0, zR 97])) 6 (by decide) hz (zsteps_seg hg (by rw [show (.inl (i + 1) : zV) = .inl (w32 (i + 1)) from by rw [w32_id (by omega)]]; rfl)) ?_
  refine zG_iald (by decide) hz (hg _ _ rfl) rfl (.inr rfl) (by omega) ?_
  rw [show M1 0 (i + 1).toNat = x1 from (hc0 _).trans hx1.symm]
  show zG n (114, 4080270) 300 311 (1914, [zR 0, zR 8, zR 97, .inl i], [.inl x1, zR 97]) M1 _
  refine zG_blk (c' := (1918, [zR 0, zR 8, zR 97, .inl i], [.inl (i + 2), zR 0, .inl x1, zR 97])) 4 (by decide) hz (zsteps_seg hg (by rw [show (.inl (i + 2) : zV) = .inl (w32 (i + 2)) from by rw [w32_id (by omega)]]; rfl)) ?_
  refine zG_iald (by decide) hz (hg _ _ rfl) rfl (.inr rfl) (by omega) ?_
  rw [show M1 0 (i + 2).toNat = x2 from (hc0 _).trans hx2.symm]
  show zG n (114, 4080270) 300 311 (1919, [zR 0, zR 8, zR 97, .inl i], [.inl x2, .inl x1, zR 97]) M1 _
  refine zG_blk (c' := (1923, [zR 0, zR 8, zR 97, .inl i], [.inl (i + 3), zR 0, .inl x2, .inl x1, zR 97])) 4 (by decide) hz (zsteps_seg hg (by rw [show (.inl (i + 3) : zV) = .inl (w32 (i + 3)) from by rw [w32_id (by omega)]]; rfl)) ?_
  refine zG_iald (by decide) hz (hg _ _ rfl) rfl (.inr rfl) (by omega) ?_
  rw [show M1 0 (i + 3).toNat = x3 from (hc0 _).trans hx3.symm]
  show zG n (114, 4080270) 300 311 (1924, [zR 0, zR 8, zR 97, .inl i], [.inl x3, .inl x2, .inl x1, zR 97]) M1 _
  refine zG_call (by decide) hz (rfl : zP 279 = (zk_X11_hourOf, 6, (0, 0))) (hg _ _ rfl) rfl (Nat.le_of_ble_eq_true rfl) ⟨Nat.le_of_ble_eq_true rfl, Nat.le_of_ble_eq_true rfl⟩ (qm_279_97 (by decide) hJM1.2.1 x1 (by omega) x2 (by omega) x3 (by omega)) (fun vr M2 hr => ?_)
  obtain ⟨⟨hCM2, hFM2⟩, hr⟩ := hr
  have hJM2 : qJ M2 := hJM1.mdl hCM2 hFM2 rfl (by decide) (fun j _ _ _ _ => hFM2.ar 98 j (by decide) (by decide))
  obtain ⟨r2, hv9⟩ := hr
  first | (obtain ⟨rfl, -⟩ := hv9) | (obtain rfl := hv9)
  show zG n (114, 4080270) 300 311 (1927, [zR 0, zR 8, zR 97, .inl i], [.inl r2]) M2 _
  refine zG_blk (c' := (2158, [zR 0, zR 8, zR 97, .inl i], [])) 2 (by decide) hz (zsteps_seg hg rfl) ?_
  exact K M2 hJM2
def sg_37 : List zE := [(1931, .aload_n ⟨1, zfin1⟩, 1932, (0, 0, 0, [])),
  (1932, .aload_n ⟨0, zfin0⟩, 1933, (0, 0, 0, [])),
  (1933, .iload_n ⟨3, zfin3⟩, 1934, (0, 0, 0, [])),
  (1934, .iconst 1, 1935, (0, 0, 0, [])),
  (1935, .iadd, 1936, (0, 0, 0, [])),
  (1936, .iaload, 1937, (0, 0, 0, [])),
  (1937, .aload_n ⟨0, zfin0⟩, 1938, (0, 0, 0, [])),
  (1938, .iload_n ⟨3, zfin3⟩, 1939, (0, 0, 0, [])),
  (1939, .iconst 2, 1940, (0, 0, 0, [])),
  (1940, .iadd, 1941, (0, 0, 0, [])),
  (1941, .iaload, 1942, (0, 0, 0, [])),
  (1942, .aload_n ⟨0, zfin0⟩, 1943, (0, 0, 0, [])),
  (1943, .iload_n ⟨3, zfin3⟩, 1944, (0, 0, 0, [])),
  (1944, .iconst 3, 1945, (0, 0, 0, [])),
  (1945, .iadd, 1946, (0, 0, 0, [])),
  (1946, .iaload, 1947, (0, 0, 0, [])),
  (1947, .invokevirtual 173, 1950, (160, 4, 0, [11])),
  (1950, .pop, 1951, (0, 0, 0, [])),
  (1951, .aload_n ⟨2, zfin2⟩, 1952, (0, 0, 0, [])),
  (1952, .aload_n ⟨0, zfin0⟩, 1953, (0, 0, 0, [])),
  (1953, .iload_n ⟨3, zfin3⟩, 1954, (0, 0, 0, [])),
  (1954, .iconst 1, 1955, (0, 0, 0, [])),
  (1955, .iadd, 1956, (0, 0, 0, [])),
  (1956, .iaload, 1957, (0, 0, 0, [])),
  (1957, .aload_n ⟨0, zfin0⟩, 1958, (0, 0, 0, [])),
  (1958, .iload_n ⟨3, zfin3⟩, 1959, (0, 0, 0, [])),
  (1959, .iconst 2, 1960, (0, 0, 0, [])),
  (1960, .iadd, 1961, (0, 0, 0, [])),
  (1961, .iaload, 1962, (0, 0, 0, [])),
  (1962, .aload_n ⟨0, zfin0⟩, 1963, (0, 0, 0, [])),
  (1963, .iload_n ⟨3, zfin3⟩, 1964, (0, 0, 0, [])),
  (1964, .iconst 3, 1965, (0, 0, 0, [])),
  (1965, .iadd, 1966, (0, 0, 0, [])),
  (1966, .iaload, 1967, (0, 0, 0, [])),
  (1967, .invokevirtual 176, 1970, (284, 4, 0, [12])),
  (1970, .pop, 1971, (0, 0, 0, [])),
  (1971, .goto (187), 1974, (2158, 0, 0, []))]
set_option maxRecDepth 100000 in
theorem sh_37 : zSeg zk_L_law sg_37 := zSeg_of 1465 37 1931 (by decide +kernel) rfl (by decide +kernel)
set_option maxRecDepth 100000 in
theorem qL_37 (hJ : qJ M) (hn : n ≤ 4096) (hi : 0 ≤ i ∧ i + 8 ≤ n) (K : ∀ M', qJ M' → zG n (114, 4080270) 300 311 (2158, [zR 0, zR 8, zR 97, .inl i], []) M' qLQ) : zG n (114, 4080270) 300 311 (1931, [zR 0, zR 8, zR 97, .inl i], []) M qLQ := by
  have hz : zP 311 = (zk_L_law, 4, (114, 4080270)) := rfl
  have hg := sh_37
  refine zG_blk (c' := (1936, [zR 0, zR 8, zR 97, .inl i], [.inl (i + 1), zR 0, zR 8])) 5 (by decide) hz (zsteps_seg hg (by rw [show (.inl (i + 1) : zV) = .inl (w32 (i + 1)) from by rw [w32_id (by omega)]]; rfl)) ?_
  refine zG_iald (by decide) hz (hg _ _ rfl) rfl (.inr rfl) (by omega) ?_
  obtain ⟨x1, hx1⟩ : ∃ x : Int, x = M 0 (i + 1).toNat := ⟨_, rfl⟩
  rw [← hx1]
  have hr1 : qin x1 := by rw [hx1]; exact hJ.1.rng 0 _ (by decide) (by decide)
  show zG n (114, 4080270) 300 311 (1937, [zR 0, zR 8, zR 97, .inl i], [.inl x1, zR 8]) M _
  refine zG_blk (c' := (1941, [zR 0, zR 8, zR 97, .inl i], [.inl (i + 2), zR 0, .inl x1, zR 8])) 4 (by decide) hz (zsteps_seg hg (by rw [show (.inl (i + 2) : zV) = .inl (w32 (i + 2)) from by rw [w32_id (by omega)]]; rfl)) ?_
  refine zG_iald (by decide) hz (hg _ _ rfl) rfl (.inr rfl) (by omega) ?_
  obtain ⟨x2, hx2⟩ : ∃ x : Int, x = M 0 (i + 2).toNat := ⟨_, rfl⟩
  rw [← hx2]
  have hr2 : qin x2 := by rw [hx2]; exact hJ.1.rng 0 _ (by decide) (by decide)
  show zG n (114, 4080270) 300 311 (1942, [zR 0, zR 8, zR 97, .inl i], [.inl x2, .inl x1, zR 8]) M _
  refine zG_blk (c' := (1946, [zR 0, zR 8, zR 97, .inl i], [.inl (i + 3), zR 0, .inl x2, .inl x1, zR 8])) 4 (by decide) hz (zsteps_seg hg (by rw [show (.inl (i + 3) : zV) = .inl (w32 (i + 3)) from by rw [w32_id (by omega)]]; rfl)) ?_
  refine zG_iald (by decide) hz (hg _ _ rfl) rfl (.inr rfl) (by omega) ?_
  obtain ⟨x3, hx3⟩ : ∃ x : Int, x = M 0 (i + 3).toNat := ⟨_, rfl⟩
  rw [← hx3]
  have hr3 : qin x3 := by rw [hx3]; exact hJ.1.rng 0 _ (by decide) (by decide)
  show zG n (114, 4080270) 300 311 (1947, [zR 0, zR 8, zR 97, .inl i], [.inl x3, .inl x2, .inl x1, zR 8]) M _
  refine zG_call (by decide) hz (rfl : zP 160 = (zk_X10_habit, 4, (0, 0))) (hg _ _ rfl) rfl (Nat.le_of_ble_eq_true rfl) ⟨Nat.le_of_ble_eq_true rfl, Nat.le_of_ble_eq_true rfl⟩ (qm_160_8 (by decide) hJ.1 x1 (by omega) x2 (by omega) x3 (by omega)) (fun vr M1 hr => ?_)
  obtain ⟨⟨hCM1, hFM1⟩, hr⟩ := hr
  have hJM1 : qJ M1 := hJ.cls hCM1 hFM1 rfl rfl
  have hc0 : ∀ j, M1 0 j = M 0 j := fun j => hFM1 0 j (by decide)
  obtain ⟨r1, rfl, -⟩ := hr
  show zG n (114, 4080270) 300 311 (1950, [zR 0, zR 8, zR 97, .inl i], [.inl r1]) M1 _
  refine zG_blk (c' := (1956, [zR 0, zR 8, zR 97, .inl i], [.inl (i + 1), zR 0, zR 97])) 6 (by decide) hz (zsteps_seg hg (by rw [show (.inl (i + 1) : zV) = .inl (w32 (i + 1)) from by rw [w32_id (by omega)]]; rfl)) ?_
  refine zG_iald (by decide) hz (hg _ _ rfl) rfl (.inr rfl) (by omega) ?_
  rw [show M1 0 (i + 1).toNat = x1 from (hc0 _).trans hx1.symm]
  show zG n (114, 4080270) 300 311 (1957, [zR 0, zR 8, zR 97, .inl i], [.inl x1, zR 97]) M1 _
  refine zG_blk (c' := (1961, [zR 0, zR 8, zR 97, .inl i], [.inl (i + 2), zR 0, .inl x1, zR 97])) 4 (by decide) hz (zsteps_seg hg (by rw [show (.inl (i + 2) : zV) = .inl (w32 (i + 2)) from by rw [w32_id (by omega)]]; rfl)) ?_
  refine zG_iald (by decide) hz (hg _ _ rfl) rfl (.inr rfl) (by omega) ?_
  rw [show M1 0 (i + 2).toNat = x2 from (hc0 _).trans hx2.symm]
  show zG n (114, 4080270) 300 311 (1962, [zR 0, zR 8, zR 97, .inl i], [.inl x2, .inl x1, zR 97]) M1 _
  refine zG_blk (c' := (1966, [zR 0, zR 8, zR 97, .inl i], [.inl (i + 3), zR 0, .inl x2, .inl x1, zR 97])) 4 (by decide) hz (zsteps_seg hg (by rw [show (.inl (i + 3) : zV) = .inl (w32 (i + 3)) from by rw [w32_id (by omega)]]; rfl)) ?_
  refine zG_iald (by decide) hz (hg _ _ rfl) rfl (.inr rfl) (by omega) ?_
  rw [show M1 0 (i + 3).toNat = x3 from (hc0 _).trans hx3.symm]
  show zG n (114, 4080270) 300 311 (1967, [zR 0, zR 8, zR 97, .inl i], [.inl x3, .inl x2, .inl x1, zR 97]) M1 _
  refine zG_call (by decide) hz (rfl : zP 284 = (zk_X11_habit, 4, (0, 0))) (hg _ _ rfl) rfl (Nat.le_of_ble_eq_true rfl) ⟨Nat.le_of_ble_eq_true rfl, Nat.le_of_ble_eq_true rfl⟩ (qm_284_97 (by decide) hJM1.2.1 x1 (by omega) x2 (by omega) x3 (by omega)) (fun vr M2 hr => ?_)
  obtain ⟨⟨hCM2, hFM2⟩, hr⟩ := hr
  have hJM2 : qJ M2 := hJM1.mdl hCM2 hFM2 rfl (by decide) (fun j _ _ _ _ => hFM2.ar 98 j (by decide) (by decide))
  obtain ⟨r2, hv9⟩ := hr
  first | (obtain ⟨rfl, -⟩ := hv9) | (obtain rfl := hv9)
  show zG n (114, 4080270) 300 311 (1970, [zR 0, zR 8, zR 97, .inl i], [.inl r2]) M2 _
  refine zG_blk (c' := (2158, [zR 0, zR 8, zR 97, .inl i], [])) 2 (by decide) hz (zsteps_seg hg rfl) ?_
  exact K M2 hJM2
def sg_38 : List zE := [(1974, .aload_n ⟨1, zfin1⟩, 1975, (0, 0, 0, [])),
  (1975, .aload_n ⟨0, zfin0⟩, 1976, (0, 0, 0, [])),
  (1976, .iload_n ⟨3, zfin3⟩, 1977, (0, 0, 0, [])),
  (1977, .iconst 1, 1978, (0, 0, 0, [])),
  (1978, .iadd, 1979, (0, 0, 0, [])),
  (1979, .iaload, 1980, (0, 0, 0, [])),
  (1980, .invokevirtual 177, 1983, (161, 2, 0, [11])),
  (1983, .pop, 1984, (0, 0, 0, [])),
  (1984, .aload_n ⟨2, zfin2⟩, 1985, (0, 0, 0, [])),
  (1985, .aload_n ⟨0, zfin0⟩, 1986, (0, 0, 0, [])),
  (1986, .iload_n ⟨3, zfin3⟩, 1987, (0, 0, 0, [])),
  (1987, .iconst 1, 1988, (0, 0, 0, [])),
  (1988, .iadd, 1989, (0, 0, 0, [])),
  (1989, .iaload, 1990, (0, 0, 0, [])),
  (1990, .invokevirtual 180, 1993, (285, 2, 0, [12])),
  (1993, .pop, 1994, (0, 0, 0, [])),
  (1994, .goto (164), 1997, (2158, 0, 0, []))]
set_option maxRecDepth 100000 in
theorem sh_38 : zSeg zk_L_law sg_38 := zSeg_of 1502 17 1974 (by decide +kernel) rfl (by decide +kernel)
set_option maxRecDepth 100000 in
theorem qL_38 (hJ : qJ M) (hn : n ≤ 4096) (hi : 0 ≤ i ∧ i + 8 ≤ n) (K : ∀ M', qJ M' → zG n (114, 4080270) 300 311 (2158, [zR 0, zR 8, zR 97, .inl i], []) M' qLQ) : zG n (114, 4080270) 300 311 (1974, [zR 0, zR 8, zR 97, .inl i], []) M qLQ := by
  have hz : zP 311 = (zk_L_law, 4, (114, 4080270)) := rfl
  have hg := sh_38
  refine zG_blk (c' := (1979, [zR 0, zR 8, zR 97, .inl i], [.inl (i + 1), zR 0, zR 8])) 5 (by decide) hz (zsteps_seg hg (by rw [show (.inl (i + 1) : zV) = .inl (w32 (i + 1)) from by rw [w32_id (by omega)]]; rfl)) ?_
  refine zG_iald (by decide) hz (hg _ _ rfl) rfl (.inr rfl) (by omega) ?_
  obtain ⟨x1, hx1⟩ : ∃ x : Int, x = M 0 (i + 1).toNat := ⟨_, rfl⟩
  rw [← hx1]
  have hr1 : qin x1 := by rw [hx1]; exact hJ.1.rng 0 _ (by decide) (by decide)
  show zG n (114, 4080270) 300 311 (1980, [zR 0, zR 8, zR 97, .inl i], [.inl x1, zR 8]) M _
  refine zG_call (by decide) hz (rfl : zP 161 = (zk_X10_odds, 3, (0, 0))) (hg _ _ rfl) rfl (Nat.le_of_ble_eq_true rfl) ⟨Nat.le_of_ble_eq_true rfl, Nat.le_of_ble_eq_true rfl⟩ (zG.andH (qm_161_8 (by decide) hJ.1 x1 (by omega)) (fh_161_8 x1)) (fun vr M1 hr => ?_)
  obtain ⟨⟨⟨hC1, hF1⟩, -⟩, rfl, hM1⟩ := hr
  have hi := hF1.hi rfl
  have hI := hJ.2.1.same hi
  have hc0 : ∀ j, M1 0 j = M 0 j := fun j => hF1 0 j (by decide)
  show zG n (114, 4080270) 300 311 (1983, [zR 0, zR 8, zR 97, .inl i], [.inl (hf_161_8 M x1).1]) M1 _
  refine zG_blk (c' := (1989, [zR 0, zR 8, zR 97, .inl i], [.inl (i + 1), zR 0, zR 97])) 6 (by decide) hz (zsteps_seg hg (by rw [show (.inl (i + 1) : zV) = .inl (w32 (i + 1)) from by rw [w32_id (by omega)]]; rfl)) ?_
  refine zG_iald (by decide) hz (hg _ _ rfl) rfl (.inr rfl) (by omega) ?_
  rw [show M1 0 (i + 1).toNat = x1 from (hc0 _).trans hx1.symm]
  show zG n (114, 4080270) 300 311 (1990, [zR 0, zR 8, zR 97, .inl i], [.inl x1, zR 97]) M1 _
  refine zG_call (by decide) hz (rfl : zP 285 = (zk_X11_odds, 3, (0, 0))) (hg _ _ rfl) rfl (Nat.le_of_ble_eq_true rfl) ⟨Nat.le_of_ble_eq_true rfl, Nat.le_of_ble_eq_true rfl⟩ (zG.andH (qm_285_97 (by decide) hI x1 (by omega)) (fh_285_97 x1)) (fun vr M2 hr => ?_)
  obtain ⟨⟨⟨hC2, hF2⟩, -⟩, rfl, hM2⟩ := hr
  have hm := hm_161 hJ.2.2.1 hJ.1.tb hJ.2.1.bd (a1 := x1)
  rw [← hM1] at hm
  rw [← hM2] at hm
  have hJ2 : qJ M2 := hJ.mut hC1 hF1 rfl rfl hC2 hF2 rfl (by decide) hm.2
  show zG n (114, 4080270) 300 311 (1993, [zR 0, zR 8, zR 97, .inl i], [.inl (hf_285_97 M1 x1).1]) M2 _
  refine zG_blk (c' := (2158, [zR 0, zR 8, zR 97, .inl i], [])) 2 (by decide) hz (zsteps_seg hg rfl) ?_
  exact K M2 hJ2
def sg_39 : List zE := [(1997, .aload_n ⟨1, zfin1⟩, 1998, (0, 0, 0, [])),
  (1998, .aload_n ⟨0, zfin0⟩, 1999, (0, 0, 0, [])),
  (1999, .iload_n ⟨3, zfin3⟩, 2000, (0, 0, 0, [])),
  (2000, .iconst 1, 2001, (0, 0, 0, [])),
  (2001, .iadd, 2002, (0, 0, 0, [])),
  (2002, .iaload, 2003, (0, 0, 0, [])),
  (2003, .aload_n ⟨0, zfin0⟩, 2004, (0, 0, 0, [])),
  (2004, .iload_n ⟨3, zfin3⟩, 2005, (0, 0, 0, [])),
  (2005, .iconst 2, 2006, (0, 0, 0, [])),
  (2006, .iadd, 2007, (0, 0, 0, [])),
  (2007, .iaload, 2008, (0, 0, 0, [])),
  (2008, .invokevirtual 181, 2011, (162, 3, 0, [11])),
  (2011, .pop, 2012, (0, 0, 0, [])),
  (2012, .aload_n ⟨2, zfin2⟩, 2013, (0, 0, 0, [])),
  (2013, .aload_n ⟨0, zfin0⟩, 2014, (0, 0, 0, [])),
  (2014, .iload_n ⟨3, zfin3⟩, 2015, (0, 0, 0, [])),
  (2015, .iconst 1, 2016, (0, 0, 0, [])),
  (2016, .iadd, 2017, (0, 0, 0, [])),
  (2017, .iaload, 2018, (0, 0, 0, [])),
  (2018, .aload_n ⟨0, zfin0⟩, 2019, (0, 0, 0, [])),
  (2019, .iload_n ⟨3, zfin3⟩, 2020, (0, 0, 0, [])),
  (2020, .iconst 2, 2021, (0, 0, 0, [])),
  (2021, .iadd, 2022, (0, 0, 0, [])),
  (2022, .iaload, 2023, (0, 0, 0, [])),
  (2023, .invokevirtual 184, 2026, (286, 3, 0, [12])),
  (2026, .pop, 2027, (0, 0, 0, [])),
  (2027, .goto (131), 2030, (2158, 0, 0, []))]
set_option maxRecDepth 100000 in
theorem sh_39 : zSeg zk_L_law sg_39 := zSeg_of 1519 27 1997 (by decide +kernel) rfl (by decide +kernel)
set_option maxRecDepth 100000 in
theorem qL_39 (hJ : qJ M) (hn : n ≤ 4096) (hi : 0 ≤ i ∧ i + 8 ≤ n) (K : ∀ M', qJ M' → zG n (114, 4080270) 300 311 (2158, [zR 0, zR 8, zR 97, .inl i], []) M' qLQ) : zG n (114, 4080270) 300 311 (1997, [zR 0, zR 8, zR 97, .inl i], []) M qLQ := by
  have hz : zP 311 = (zk_L_law, 4, (114, 4080270)) := rfl
  have hg := sh_39
  refine zG_blk (c' := (2002, [zR 0, zR 8, zR 97, .inl i], [.inl (i + 1), zR 0, zR 8])) 5 (by decide) hz (zsteps_seg hg (by rw [show (.inl (i + 1) : zV) = .inl (w32 (i + 1)) from by rw [w32_id (by omega)]]; rfl)) ?_
  refine zG_iald (by decide) hz (hg _ _ rfl) rfl (.inr rfl) (by omega) ?_
  obtain ⟨x1, hx1⟩ : ∃ x : Int, x = M 0 (i + 1).toNat := ⟨_, rfl⟩
  rw [← hx1]
  have hr1 : qin x1 := by rw [hx1]; exact hJ.1.rng 0 _ (by decide) (by decide)
  show zG n (114, 4080270) 300 311 (2003, [zR 0, zR 8, zR 97, .inl i], [.inl x1, zR 8]) M _
  refine zG_blk (c' := (2007, [zR 0, zR 8, zR 97, .inl i], [.inl (i + 2), zR 0, .inl x1, zR 8])) 4 (by decide) hz (zsteps_seg hg (by rw [show (.inl (i + 2) : zV) = .inl (w32 (i + 2)) from by rw [w32_id (by omega)]]; rfl)) ?_
  refine zG_iald (by decide) hz (hg _ _ rfl) rfl (.inr rfl) (by omega) ?_
  obtain ⟨x2, hx2⟩ : ∃ x : Int, x = M 0 (i + 2).toNat := ⟨_, rfl⟩
  rw [← hx2]
  have hr2 : qin x2 := by rw [hx2]; exact hJ.1.rng 0 _ (by decide) (by decide)
  show zG n (114, 4080270) 300 311 (2008, [zR 0, zR 8, zR 97, .inl i], [.inl x2, .inl x1, zR 8]) M _
  refine zG_call (by decide) hz (rfl : zP 162 = (zk_X10_line, 4, (0, 0))) (hg _ _ rfl) rfl (Nat.le_of_ble_eq_true rfl) ⟨Nat.le_of_ble_eq_true rfl, Nat.le_of_ble_eq_true rfl⟩ (zG.andH (qm_162_8 (by decide) hJ.1 x1 (by omega) x2 (by omega)) (fh_162_8 x1 x2)) (fun vr M1 hr => ?_)
  obtain ⟨⟨⟨hC1, hF1⟩, -⟩, rfl, hM1⟩ := hr
  have hi := hF1.hi rfl
  have hI := hJ.2.1.same hi
  have hc0 : ∀ j, M1 0 j = M 0 j := fun j => hF1 0 j (by decide)
  show zG n (114, 4080270) 300 311 (2011, [zR 0, zR 8, zR 97, .inl i], [.inl (hf_162_8 M x1 x2).1]) M1 _
  refine zG_blk (c' := (2017, [zR 0, zR 8, zR 97, .inl i], [.inl (i + 1), zR 0, zR 97])) 6 (by decide) hz (zsteps_seg hg (by rw [show (.inl (i + 1) : zV) = .inl (w32 (i + 1)) from by rw [w32_id (by omega)]]; rfl)) ?_
  refine zG_iald (by decide) hz (hg _ _ rfl) rfl (.inr rfl) (by omega) ?_
  rw [show M1 0 (i + 1).toNat = x1 from (hc0 _).trans hx1.symm]
  show zG n (114, 4080270) 300 311 (2018, [zR 0, zR 8, zR 97, .inl i], [.inl x1, zR 97]) M1 _
  refine zG_blk (c' := (2022, [zR 0, zR 8, zR 97, .inl i], [.inl (i + 2), zR 0, .inl x1, zR 97])) 4 (by decide) hz (zsteps_seg hg (by rw [show (.inl (i + 2) : zV) = .inl (w32 (i + 2)) from by rw [w32_id (by omega)]]; rfl)) ?_
  refine zG_iald (by decide) hz (hg _ _ rfl) rfl (.inr rfl) (by omega) ?_
  rw [show M1 0 (i + 2).toNat = x2 from (hc0 _).trans hx2.symm]
  show zG n (114, 4080270) 300 311 (2023, [zR 0, zR 8, zR 97, .inl i], [.inl x2, .inl x1, zR 97]) M1 _
  refine zG_call (by decide) hz (rfl : zP 286 = (zk_X11_line, 3, (0, 0))) (hg _ _ rfl) rfl (Nat.le_of_ble_eq_true rfl) ⟨Nat.le_of_ble_eq_true rfl, Nat.le_of_ble_eq_true rfl⟩ (zG.andH (qm_286_97 (by decide) hI x1 (by omega) x2 (by omega)) (fh_286_97 x1 x2)) (fun vr M2 hr => ?_)
  obtain ⟨⟨⟨hC2, hF2⟩, -⟩, rfl, hM2⟩ := hr
  have hm := hm_162 hJ.2.2.1 hJ.1.tb hJ.2.1.bd (a1 := x1) (a2 := x2)
  rw [← hM1] at hm
  rw [← hM2] at hm
  have hJ2 : qJ M2 := hJ.mut hC1 hF1 rfl rfl hC2 hF2 rfl (by decide) hm.2
  show zG n (114, 4080270) 300 311 (2026, [zR 0, zR 8, zR 97, .inl i], [.inl (hf_286_97 M1 x1 x2).1]) M2 _
  refine zG_blk (c' := (2158, [zR 0, zR 8, zR 97, .inl i], [])) 2 (by decide) hz (zsteps_seg hg rfl) ?_
  exact K M2 hJ2
def sg_40 : List zE := [(2030, .aload_n ⟨1, zfin1⟩, 2031, (0, 0, 0, [])),
  (2031, .invokevirtual 185, 2034, (163, 1, 0, [11])),
  (2034, .pop, 2035, (0, 0, 0, [])),
  (2035, .aload_n ⟨2, zfin2⟩, 2036, (0, 0, 0, [])),
  (2036, .invokevirtual 189, 2039, (287, 1, 0, [12])),
  (2039, .pop, 2040, (0, 0, 0, [])),
  (2040, .goto (118), 2043, (2158, 0, 0, []))]
set_option maxRecDepth 100000 in
theorem sh_40 : zSeg zk_L_law sg_40 := zSeg_of 1546 7 2030 (by decide +kernel) rfl (by decide +kernel)
set_option maxRecDepth 100000 in
theorem qL_40 (hJ : qJ M) (hn : n ≤ 4096) (hi : 0 ≤ i ∧ i + 8 ≤ n) (K : ∀ M', qJ M' → zG n (114, 4080270) 300 311 (2158, [zR 0, zR 8, zR 97, .inl i], []) M' qLQ) : zG n (114, 4080270) 300 311 (2030, [zR 0, zR 8, zR 97, .inl i], []) M qLQ := by
  have hz : zP 311 = (zk_L_law, 4, (114, 4080270)) := rfl
  have hg := sh_40
  refine zG_blk (c' := (2031, [zR 0, zR 8, zR 97, .inl i], [zR 8])) 1 (by decide) hz (zsteps_seg hg rfl) ?_
  refine zG_call (by decide) hz (rfl : zP 163 = (zk_X10_clear, 2, (0, 0))) (hg _ _ rfl) rfl (Nat.le_of_ble_eq_true rfl) ⟨Nat.le_of_ble_eq_true rfl, Nat.le_of_ble_eq_true rfl⟩ (zG.andH (qm_163_8 (by decide) hJ.1 ) (fh_163_8 )) (fun vr M1 hr => ?_)
  obtain ⟨⟨⟨hC1, hF1⟩, -⟩, rfl, hM1⟩ := hr
  have hi := hF1.hi rfl
  have hI := hJ.2.1.same hi
  have hc0 : ∀ j, M1 0 j = M 0 j := fun j => hF1 0 j (by decide)
  show zG n (114, 4080270) 300 311 (2034, [zR 0, zR 8, zR 97, .inl i], [.inl (hf_163_8 M).1]) M1 _
  refine zG_blk (c' := (2036, [zR 0, zR 8, zR 97, .inl i], [zR 97])) 2 (by decide) hz (zsteps_seg hg rfl) ?_
  refine zG_call (by decide) hz (rfl : zP 287 = (zk_X11_clear, 2, (0, 0))) (hg _ _ rfl) rfl (Nat.le_of_ble_eq_true rfl) ⟨Nat.le_of_ble_eq_true rfl, Nat.le_of_ble_eq_true rfl⟩ (zG.andH (qm_287_97 (by decide) hI ) (fh_287_97 )) (fun vr M2 hr => ?_)
  obtain ⟨⟨⟨hC2, hF2⟩, -⟩, rfl, hM2⟩ := hr
  have hm := hm_163 hJ.2.2.1
  rw [← hM1] at hm
  rw [← hM2] at hm
  have hJ2 : qJ M2 := hJ.mut hC1 hF1 rfl rfl hC2 hF2 rfl (by decide) hm.2
  show zG n (114, 4080270) 300 311 (2039, [zR 0, zR 8, zR 97, .inl i], [.inl (hf_287_97 M1).1]) M2 _
  refine zG_blk (c' := (2158, [zR 0, zR 8, zR 97, .inl i], [])) 2 (by decide) hz (zsteps_seg hg rfl) ?_
  exact K M2 hJ2
def sg_41 : List zE := [(2043, .aload_n ⟨1, zfin1⟩, 2044, (0, 0, 0, [])),
  (2044, .aload_n ⟨0, zfin0⟩, 2045, (0, 0, 0, [])),
  (2045, .iload_n ⟨3, zfin3⟩, 2046, (0, 0, 0, [])),
  (2046, .iconst 1, 2047, (0, 0, 0, [])),
  (2047, .iadd, 2048, (0, 0, 0, [])),
  (2048, .iaload, 2049, (0, 0, 0, [])),
  (2049, .aload_n ⟨0, zfin0⟩, 2050, (0, 0, 0, [])),
  (2050, .iload_n ⟨3, zfin3⟩, 2051, (0, 0, 0, [])),
  (2051, .iconst 2, 2052, (0, 0, 0, [])),
  (2052, .iadd, 2053, (0, 0, 0, [])),
  (2053, .iaload, 2054, (0, 0, 0, [])),
  (2054, .invokevirtual 190, 2057, (164, 3, 0, [11])),
  (2057, .pop, 2058, (0, 0, 0, [])),
  (2058, .aload_n ⟨2, zfin2⟩, 2059, (0, 0, 0, [])),
  (2059, .aload_n ⟨0, zfin0⟩, 2060, (0, 0, 0, [])),
  (2060, .iload_n ⟨3, zfin3⟩, 2061, (0, 0, 0, [])),
  (2061, .iconst 1, 2062, (0, 0, 0, [])),
  (2062, .iadd, 2063, (0, 0, 0, [])),
  (2063, .iaload, 2064, (0, 0, 0, [])),
  (2064, .aload_n ⟨0, zfin0⟩, 2065, (0, 0, 0, [])),
  (2065, .iload_n ⟨3, zfin3⟩, 2066, (0, 0, 0, [])),
  (2066, .iconst 2, 2067, (0, 0, 0, [])),
  (2067, .iadd, 2068, (0, 0, 0, [])),
  (2068, .iaload, 2069, (0, 0, 0, [])),
  (2069, .invokevirtual 193, 2072, (289, 3, 0, [12])),
  (2072, .pop, 2073, (0, 0, 0, [])),
  (2073, .goto (85), 2076, (2158, 0, 0, []))]
set_option maxRecDepth 100000 in
theorem sh_41 : zSeg zk_L_law sg_41 := zSeg_of 1553 27 2043 (by decide +kernel) rfl (by decide +kernel)
set_option maxRecDepth 100000 in
theorem qL_41 (hJ : qJ M) (hn : n ≤ 4096) (hi : 0 ≤ i ∧ i + 8 ≤ n) (K : ∀ M', qJ M' → zG n (114, 4080270) 300 311 (2158, [zR 0, zR 8, zR 97, .inl i], []) M' qLQ) : zG n (114, 4080270) 300 311 (2043, [zR 0, zR 8, zR 97, .inl i], []) M qLQ := by
  have hz : zP 311 = (zk_L_law, 4, (114, 4080270)) := rfl
  have hg := sh_41
  refine zG_blk (c' := (2048, [zR 0, zR 8, zR 97, .inl i], [.inl (i + 1), zR 0, zR 8])) 5 (by decide) hz (zsteps_seg hg (by rw [show (.inl (i + 1) : zV) = .inl (w32 (i + 1)) from by rw [w32_id (by omega)]]; rfl)) ?_
  refine zG_iald (by decide) hz (hg _ _ rfl) rfl (.inr rfl) (by omega) ?_
  obtain ⟨x1, hx1⟩ : ∃ x : Int, x = M 0 (i + 1).toNat := ⟨_, rfl⟩
  rw [← hx1]
  have hr1 : qin x1 := by rw [hx1]; exact hJ.1.rng 0 _ (by decide) (by decide)
  show zG n (114, 4080270) 300 311 (2049, [zR 0, zR 8, zR 97, .inl i], [.inl x1, zR 8]) M _
  refine zG_blk (c' := (2053, [zR 0, zR 8, zR 97, .inl i], [.inl (i + 2), zR 0, .inl x1, zR 8])) 4 (by decide) hz (zsteps_seg hg (by rw [show (.inl (i + 2) : zV) = .inl (w32 (i + 2)) from by rw [w32_id (by omega)]]; rfl)) ?_
  refine zG_iald (by decide) hz (hg _ _ rfl) rfl (.inr rfl) (by omega) ?_
  obtain ⟨x2, hx2⟩ : ∃ x : Int, x = M 0 (i + 2).toNat := ⟨_, rfl⟩
  rw [← hx2]
  have hr2 : qin x2 := by rw [hx2]; exact hJ.1.rng 0 _ (by decide) (by decide)
  show zG n (114, 4080270) 300 311 (2054, [zR 0, zR 8, zR 97, .inl i], [.inl x2, .inl x1, zR 8]) M _
  refine zG_call (by decide) hz (rfl : zP 164 = (zk_X10_doubt, 3, (0, 0))) (hg _ _ rfl) rfl (Nat.le_of_ble_eq_true rfl) ⟨Nat.le_of_ble_eq_true rfl, Nat.le_of_ble_eq_true rfl⟩ (qm_164_8 (by decide) hJ.1 x1 (by omega) x2 (by omega)) (fun vr M1 hr => ?_)
  obtain ⟨⟨hCM1, hFM1⟩, hr⟩ := hr
  have hJM1 : qJ M1 := hJ.cls hCM1 hFM1 rfl rfl
  have hc0 : ∀ j, M1 0 j = M 0 j := fun j => hFM1 0 j (by decide)
  obtain ⟨r1, rfl, -⟩ := hr
  show zG n (114, 4080270) 300 311 (2057, [zR 0, zR 8, zR 97, .inl i], [.inl r1]) M1 _
  refine zG_blk (c' := (2063, [zR 0, zR 8, zR 97, .inl i], [.inl (i + 1), zR 0, zR 97])) 6 (by decide) hz (zsteps_seg hg (by rw [show (.inl (i + 1) : zV) = .inl (w32 (i + 1)) from by rw [w32_id (by omega)]]; rfl)) ?_
  refine zG_iald (by decide) hz (hg _ _ rfl) rfl (.inr rfl) (by omega) ?_
  rw [show M1 0 (i + 1).toNat = x1 from (hc0 _).trans hx1.symm]
  show zG n (114, 4080270) 300 311 (2064, [zR 0, zR 8, zR 97, .inl i], [.inl x1, zR 97]) M1 _
  refine zG_blk (c' := (2068, [zR 0, zR 8, zR 97, .inl i], [.inl (i + 2), zR 0, .inl x1, zR 97])) 4 (by decide) hz (zsteps_seg hg (by rw [show (.inl (i + 2) : zV) = .inl (w32 (i + 2)) from by rw [w32_id (by omega)]]; rfl)) ?_
  refine zG_iald (by decide) hz (hg _ _ rfl) rfl (.inr rfl) (by omega) ?_
  rw [show M1 0 (i + 2).toNat = x2 from (hc0 _).trans hx2.symm]
  show zG n (114, 4080270) 300 311 (2069, [zR 0, zR 8, zR 97, .inl i], [.inl x2, .inl x1, zR 97]) M1 _
  refine zG_call (by decide) hz (rfl : zP 289 = (zk_X11_doubt, 7, (0, 0))) (hg _ _ rfl) rfl (Nat.le_of_ble_eq_true rfl) ⟨Nat.le_of_ble_eq_true rfl, Nat.le_of_ble_eq_true rfl⟩ (qm_289_97 (by decide) hJM1.2.1 x1 (by omega) x2 (by omega)) (fun vr M2 hr => ?_)
  obtain ⟨hq, hr⟩ := hr
  replace hq := hq.symm; subst hq
  obtain ⟨r2, hv9⟩ := hr
  first | (obtain ⟨rfl, -⟩ := hv9) | (obtain rfl := hv9)
  show zG n (114, 4080270) 300 311 (2072, [zR 0, zR 8, zR 97, .inl i], [.inl r2]) M1 _
  refine zG_blk (c' := (2158, [zR 0, zR 8, zR 97, .inl i], [])) 2 (by decide) hz (zsteps_seg hg rfl) ?_
  exact K M1 hJM1
def sg_42 : List zE := [(2076, .aload_n ⟨1, zfin1⟩, 2077, (0, 0, 0, [])),
  (2077, .aload_n ⟨0, zfin0⟩, 2078, (0, 0, 0, [])),
  (2078, .iload_n ⟨3, zfin3⟩, 2079, (0, 0, 0, [])),
  (2079, .iconst 1, 2080, (0, 0, 0, [])),
  (2080, .iadd, 2081, (0, 0, 0, [])),
  (2081, .iaload, 2082, (0, 0, 0, [])),
  (2082, .invokevirtual 194, 2085, (165, 2, 0, [11])),
  (2085, .pop, 2086, (0, 0, 0, [])),
  (2086, .aload_n ⟨2, zfin2⟩, 2087, (0, 0, 0, [])),
  (2087, .aload_n ⟨0, zfin0⟩, 2088, (0, 0, 0, [])),
  (2088, .iload_n ⟨3, zfin3⟩, 2089, (0, 0, 0, [])),
  (2089, .iconst 1, 2090, (0, 0, 0, [])),
  (2090, .iadd, 2091, (0, 0, 0, [])),
  (2091, .iaload, 2092, (0, 0, 0, [])),
  (2092, .invokevirtual 197, 2095, (290, 2, 0, [12])),
  (2095, .pop, 2096, (0, 0, 0, [])),
  (2096, .goto (62), 2099, (2158, 0, 0, []))]
set_option maxRecDepth 100000 in
theorem sh_42 : zSeg zk_L_law sg_42 := zSeg_of 1580 17 2076 (by decide +kernel) rfl (by decide +kernel)
set_option maxRecDepth 100000 in
theorem qL_42_0 (hJ : qJ M) (hn : n ≤ 4096) (hi : 0 ≤ i ∧ i + 8 ≤ n) (K : ∀ M', qJ M' → zG n (114, 4080270) 300 311 (2158, [zR 0, zR 8, zR 97, .inl i], []) M' qLQ) (hA : ∀ x, x = M 0 (i + 1).toNat → x = 0) : zG n (114, 4080270) 300 311 (2076, [zR 0, zR 8, zR 97, .inl i], []) M qLQ := by
  have hz : zP 311 = (zk_L_law, 4, (114, 4080270)) := rfl
  have hg := sh_42
  refine zG_blk (c' := (2081, [zR 0, zR 8, zR 97, .inl i], [.inl (i + 1), zR 0, zR 8])) 5 (by decide) hz (zsteps_seg hg (by rw [show (.inl (i + 1) : zV) = .inl (w32 (i + 1)) from by rw [w32_id (by omega)]]; rfl)) ?_
  refine zG_iald (by decide) hz (hg _ _ rfl) rfl (.inr rfl) (by omega) ?_
  obtain ⟨x1, hx1⟩ : ∃ x : Int, x = M 0 (i + 1).toNat := ⟨_, rfl⟩
  rw [← hx1]
  have hr1 : qin x1 := by rw [hx1]; exact hJ.1.rng 0 _ (by decide) (by decide)
  obtain rfl : x1 = 0 := hA x1 hx1
  show zG n (114, 4080270) 300 311 (2082, [zR 0, zR 8, zR 97, .inl i], [.inl 0, zR 8]) M _
  refine zG_call (by decide) hz (rfl : zP 165 = (zk_X10_image, 2, (0, 0))) (hg _ _ rfl) rfl (Nat.le_of_ble_eq_true rfl) ⟨Nat.le_of_ble_eq_true rfl, Nat.le_of_ble_eq_true rfl⟩ (zG.andH (qe_165_8 (by decide) hJ.1 0 (by omega)) fh_165_8_L0) (fun vr M1 hr => ?_)
  obtain ⟨⟨⟨hC1, hF1⟩, -⟩, rfl, hM1⟩ := hr
  have hi := hF1.hi rfl
  have hI := hJ.2.1.same hi
  have hc0 : ∀ j, M1 0 j = M 0 j := fun j => hF1 0 j (by decide)
  show zG n (114, 4080270) 300 311 (2085, [zR 0, zR 8, zR 97, .inl i], [.inl (hf_165_8_L0 M).1]) M1 _
  refine zG_blk (c' := (2091, [zR 0, zR 8, zR 97, .inl i], [.inl (i + 1), zR 0, zR 97])) 6 (by decide) hz (zsteps_seg hg (by rw [show (.inl (i + 1) : zV) = .inl (w32 (i + 1)) from by rw [w32_id (by omega)]]; rfl)) ?_
  refine zG_iald (by decide) hz (hg _ _ rfl) rfl (.inr rfl) (by omega) ?_
  rw [show M1 0 (i + 1).toNat = 0 from (hc0 _).trans hx1.symm]
  show zG n (114, 4080270) 300 311 (2092, [zR 0, zR 8, zR 97, .inl i], [.inl 0, zR 97]) M1 _
  refine zG_call (by decide) hz (rfl : zP 290 = (zk_X11_image, 3, (0, 0))) (hg _ _ rfl) rfl (Nat.le_of_ble_eq_true rfl) ⟨Nat.le_of_ble_eq_true rfl, Nat.le_of_ble_eq_true rfl⟩ (qx_image (by decide) hI 0 (by omega)) (fun vr M2 hr => ?_)
  obtain ⟨⟨hC2, hF2⟩, h2⟩ := hr
  have lo := hF2.lo rfl
  have eL : ∀ r, r < 97 → M2 r = M1 r := fun r hr => funext fun k => lo r k hr
  obtain ⟨g1, g2, g3, g4⟩ := hJ.2.2
  obtain ⟨k1, k2, k3, k4⟩ := hm_165_0 hJ.1 g1
  rw [← hM1] at k2 k3 k4
  obtain ⟨rfl, ⟨v1, v2⟩, v3, v4⟩ : vr = some (.inl 1) ∧ (M2 100 (0 : Int).toNat = 1 ∧ ∀ j, j ≠ (0 : Int).toNat → M2 100 j = M1 100 j) ∧ (∀ j : Nat, j < 5664 → M2 99 ((5664 * 0 : Int).toNat + j) = M1 98 j) ∧ (∀ j : Nat, (j < (5664 * 0 : Int).toNat ∨ (5664 * 0 : Int).toNat + 5664 ≤ j) → M2 99 j = M1 99 j) := by rcases h2 with ⟨-, h, -⟩ | ⟨h, -, h3, h4, h5⟩; exact absurd (by decide) h; exact ⟨h, h3, h4, h5⟩
  have n98 : ∀ j, M2 98 j = M 98 j := fun j => (hF2.ar 98 j (by decide) (by decide)).trans (hi 98 j (by decide))
  have v1 : M2 100 0 = 1 := v1
  have v2 : M2 100 1 = M 100 1 := (v2 1 (by decide)).trans (hi 100 1 (by decide))
  have eA : ∀ r, (r < 26 ∨ 43 ≤ r) → r ≠ 8 → r < 97 → M2 r = M r := fun r h1 h2 h3 => (eL r h3).trans (k4 r h1 h2)
  have p0 := hJ.2.1.bl100 0
  have p1 := hJ.2.1.bl100 1
  have hJ2 : qJ M2 := by
    refine ⟨hC1.same lo, hC2, ?_, ?_, ?_, ?_⟩
    · exact g1.fr (fun r hr => eA r (by omega) (by omega) (by omega)) (fun j _ _ _ _ => n98 j)
    · refine fun _ => k2.fr (fun r hr => eL r (by omega)) (fun j hj _ _ _ => ?_)
      have q := v3 j hj
      rw [show ((5664 * 0 : Int).toNat + j) = j by omega] at q
      exact q.trans (hi 98 j (by decide))
    · refine fun hk => (g3 (by rw [← v2]; exact hk)).fr (fun r hr => eA r (by omega) (by omega) (by omega)) (fun j hj _ _ _ => ?_)
      exact (v4 (5664 + j) (.inr (by omega))).trans (hi 99 _ (by decide))
    · have m8 : M2 8 3 = zbor (M 8 3) (zbshl 1 0) := (lo 8 3 (by decide)).trans k3
      have z5 : M2 8 3 = 1 + 2 * M 100 1 := by
        rw [m8, g4.2.2]
        rcases p0 with h | h <;> rcases p1 with h' | h' <;> rw [h, h'] <;> decide
      omega
  show zG n (114, 4080270) 300 311 (2095, [zR 0, zR 8, zR 97, .inl i], [.inl 1]) M2 _
  refine zG_blk (c' := (2158, [zR 0, zR 8, zR 97, .inl i], [])) 2 (by decide) hz (zsteps_seg hg rfl) ?_
  exact K M2 hJ2
set_option maxRecDepth 100000 in
theorem qL_42_1 (hJ : qJ M) (hn : n ≤ 4096) (hi : 0 ≤ i ∧ i + 8 ≤ n) (K : ∀ M', qJ M' → zG n (114, 4080270) 300 311 (2158, [zR 0, zR 8, zR 97, .inl i], []) M' qLQ) (hA : ∀ x, x = M 0 (i + 1).toNat → x = 1) : zG n (114, 4080270) 300 311 (2076, [zR 0, zR 8, zR 97, .inl i], []) M qLQ := by
  have hz : zP 311 = (zk_L_law, 4, (114, 4080270)) := rfl
  have hg := sh_42
  refine zG_blk (c' := (2081, [zR 0, zR 8, zR 97, .inl i], [.inl (i + 1), zR 0, zR 8])) 5 (by decide) hz (zsteps_seg hg (by rw [show (.inl (i + 1) : zV) = .inl (w32 (i + 1)) from by rw [w32_id (by omega)]]; rfl)) ?_
  refine zG_iald (by decide) hz (hg _ _ rfl) rfl (.inr rfl) (by omega) ?_
  obtain ⟨x1, hx1⟩ : ∃ x : Int, x = M 0 (i + 1).toNat := ⟨_, rfl⟩
  rw [← hx1]
  have hr1 : qin x1 := by rw [hx1]; exact hJ.1.rng 0 _ (by decide) (by decide)
  obtain rfl : x1 = 1 := hA x1 hx1
  show zG n (114, 4080270) 300 311 (2082, [zR 0, zR 8, zR 97, .inl i], [.inl 1, zR 8]) M _
  refine zG_call (by decide) hz (rfl : zP 165 = (zk_X10_image, 2, (0, 0))) (hg _ _ rfl) rfl (Nat.le_of_ble_eq_true rfl) ⟨Nat.le_of_ble_eq_true rfl, Nat.le_of_ble_eq_true rfl⟩ (zG.andH (qe_165_8 (by decide) hJ.1 1 (by omega)) fh_165_8_L1) (fun vr M1 hr => ?_)
  obtain ⟨⟨⟨hC1, hF1⟩, -⟩, rfl, hM1⟩ := hr
  have hi := hF1.hi rfl
  have hI := hJ.2.1.same hi
  have hc0 : ∀ j, M1 0 j = M 0 j := fun j => hF1 0 j (by decide)
  show zG n (114, 4080270) 300 311 (2085, [zR 0, zR 8, zR 97, .inl i], [.inl (hf_165_8_L1 M).1]) M1 _
  refine zG_blk (c' := (2091, [zR 0, zR 8, zR 97, .inl i], [.inl (i + 1), zR 0, zR 97])) 6 (by decide) hz (zsteps_seg hg (by rw [show (.inl (i + 1) : zV) = .inl (w32 (i + 1)) from by rw [w32_id (by omega)]]; rfl)) ?_
  refine zG_iald (by decide) hz (hg _ _ rfl) rfl (.inr rfl) (by omega) ?_
  rw [show M1 0 (i + 1).toNat = 1 from (hc0 _).trans hx1.symm]
  show zG n (114, 4080270) 300 311 (2092, [zR 0, zR 8, zR 97, .inl i], [.inl 1, zR 97]) M1 _
  refine zG_call (by decide) hz (rfl : zP 290 = (zk_X11_image, 3, (0, 0))) (hg _ _ rfl) rfl (Nat.le_of_ble_eq_true rfl) ⟨Nat.le_of_ble_eq_true rfl, Nat.le_of_ble_eq_true rfl⟩ (qx_image (by decide) hI 1 (by omega)) (fun vr M2 hr => ?_)
  obtain ⟨⟨hC2, hF2⟩, h2⟩ := hr
  have lo := hF2.lo rfl
  have eL : ∀ r, r < 97 → M2 r = M1 r := fun r hr => funext fun k => lo r k hr
  obtain ⟨g1, g2, g3, g4⟩ := hJ.2.2
  obtain ⟨k1, k2, k3, k4⟩ := hm_165_1 hJ.1 g1
  rw [← hM1] at k2 k3 k4
  obtain ⟨rfl, ⟨v1, v2⟩, v3, v4⟩ : vr = some (.inl 1) ∧ (M2 100 (1 : Int).toNat = 1 ∧ ∀ j, j ≠ (1 : Int).toNat → M2 100 j = M1 100 j) ∧ (∀ j : Nat, j < 5664 → M2 99 ((5664 * 1 : Int).toNat + j) = M1 98 j) ∧ (∀ j : Nat, (j < (5664 * 1 : Int).toNat ∨ (5664 * 1 : Int).toNat + 5664 ≤ j) → M2 99 j = M1 99 j) := by rcases h2 with ⟨-, h, -⟩ | ⟨h, -, h3, h4, h5⟩; exact absurd (by decide) h; exact ⟨h, h3, h4, h5⟩
  have n98 : ∀ j, M2 98 j = M 98 j := fun j => (hF2.ar 98 j (by decide) (by decide)).trans (hi 98 j (by decide))
  have v1 : M2 100 1 = 1 := v1
  have v2 : M2 100 0 = M 100 0 := (v2 0 (by decide)).trans (hi 100 0 (by decide))
  have eA : ∀ r, (r < 43 ∨ 60 ≤ r) → r ≠ 8 → r < 97 → M2 r = M r := fun r h1 h2 h3 => (eL r h3).trans (k4 r h1 h2)
  have p0 := hJ.2.1.bl100 0
  have p1 := hJ.2.1.bl100 1
  have hJ2 : qJ M2 := by
    refine ⟨hC1.same lo, hC2, ?_, ?_, ?_, ?_⟩
    · exact g1.fr (fun r hr => eA r (by omega) (by omega) (by omega)) (fun j _ _ _ _ => n98 j)
    · refine fun hk => (g2 (by rw [← v2]; exact hk)).fr (fun r hr => eA r (by omega) (by omega) (by omega)) (fun j hj _ _ _ => ?_)
      exact (v4 j (.inl (by omega))).trans (hi 99 _ (by decide))
    · refine fun _ => k2.fr (fun r hr => eL r (by omega)) (fun j hj _ _ _ => ?_)
      have q := v3 j hj
      rw [show ((5664 * 1 : Int).toNat + j) = 5664 + j by omega] at q
      exact q.trans (hi 98 j (by decide))
    · have m8 : M2 8 3 = zbor (M 8 3) (zbshl 1 1) := (lo 8 3 (by decide)).trans k3
      have z5 : M2 8 3 = M 100 0 + 2 := by
        rw [m8, g4.2.2]
        rcases p0 with h | h <;> rcases p1 with h' | h' <;> rw [h, h'] <;> decide
      omega
  show zG n (114, 4080270) 300 311 (2095, [zR 0, zR 8, zR 97, .inl i], [.inl 1]) M2 _
  refine zG_blk (c' := (2158, [zR 0, zR 8, zR 97, .inl i], [])) 2 (by decide) hz (zsteps_seg hg rfl) ?_
  exact K M2 hJ2
set_option maxRecDepth 100000 in
theorem qL_42_n (hJ : qJ M) (hn : n ≤ 4096) (hi : 0 ≤ i ∧ i + 8 ≤ n) (K : ∀ M', qJ M' → zG n (114, 4080270) 300 311 (2158, [zR 0, zR 8, zR 97, .inl i], []) M' qLQ) (hA : ∀ x, x = M 0 (i + 1).toNat → ¬ (0 ≤ x ∧ x ≤ 1)) : zG n (114, 4080270) 300 311 (2076, [zR 0, zR 8, zR 97, .inl i], []) M qLQ := by
  have hz : zP 311 = (zk_L_law, 4, (114, 4080270)) := rfl
  have hg := sh_42
  refine zG_blk (c' := (2081, [zR 0, zR 8, zR 97, .inl i], [.inl (i + 1), zR 0, zR 8])) 5 (by decide) hz (zsteps_seg hg (by rw [show (.inl (i + 1) : zV) = .inl (w32 (i + 1)) from by rw [w32_id (by omega)]]; rfl)) ?_
  refine zG_iald (by decide) hz (hg _ _ rfl) rfl (.inr rfl) (by omega) ?_
  obtain ⟨x1, hx1⟩ : ∃ x : Int, x = M 0 (i + 1).toNat := ⟨_, rfl⟩
  rw [← hx1]
  have hr1 : qin x1 := by rw [hx1]; exact hJ.1.rng 0 _ (by decide) (by decide)
  have hA9 := hA x1 hx1
  show zG n (114, 4080270) 300 311 (2082, [zR 0, zR 8, zR 97, .inl i], [.inl x1, zR 8]) M _
  refine zG_call (by decide) hz (rfl : zP 165 = (zk_X10_image, 2, (0, 0))) (hg _ _ rfl) rfl (Nat.le_of_ble_eq_true rfl) ⟨Nat.le_of_ble_eq_true rfl, Nat.le_of_ble_eq_true rfl⟩ (qe_165_8 (by decide) hJ.1 x1 (by omega)) (fun vr M1 hr => ?_)
  obtain ⟨⟨hC1, hF1⟩, h1⟩ := hr
  have h1' : vr = some (.inl (-2)) ∧ M1 = M := by rcases h1 with ⟨h, -, h'⟩ | ⟨-, h, -⟩; exact ⟨h, h'⟩; all_goals exact absurd h hA9
  obtain ⟨rfl, hM1⟩ := h1'
  have hi := hF1.hi rfl
  have hI := hJ.2.1.same hi
  have hc0 : ∀ j, M1 0 j = M 0 j := fun j => hF1 0 j (by decide)
  show zG n (114, 4080270) 300 311 (2085, [zR 0, zR 8, zR 97, .inl i], [.inl (-2)]) M1 _
  refine zG_blk (c' := (2091, [zR 0, zR 8, zR 97, .inl i], [.inl (i + 1), zR 0, zR 97])) 6 (by decide) hz (zsteps_seg hg (by rw [show (.inl (i + 1) : zV) = .inl (w32 (i + 1)) from by rw [w32_id (by omega)]]; rfl)) ?_
  refine zG_iald (by decide) hz (hg _ _ rfl) rfl (.inr rfl) (by omega) ?_
  rw [show M1 0 (i + 1).toNat = x1 from (hc0 _).trans hx1.symm]
  show zG n (114, 4080270) 300 311 (2092, [zR 0, zR 8, zR 97, .inl i], [.inl x1, zR 97]) M1 _
  refine zG_call (by decide) hz (rfl : zP 290 = (zk_X11_image, 3, (0, 0))) (hg _ _ rfl) rfl (Nat.le_of_ble_eq_true rfl) ⟨Nat.le_of_ble_eq_true rfl, Nat.le_of_ble_eq_true rfl⟩ (qx_image (by decide) hI x1 (by omega)) (fun vr M2 hr => ?_)
  obtain ⟨⟨hC2, hF2⟩, h2⟩ := hr
  have lo := hF2.lo rfl
  have eL : ∀ r, r < 97 → M2 r = M1 r := fun r hr => funext fun k => lo r k hr
  obtain ⟨g1, g2, g3, g4⟩ := hJ.2.2
  have h2' : vr = some (.inl (-2)) ∧ M2 = M1 := by rcases h2 with ⟨h, -, h'⟩ | ⟨-, h, -⟩; exact ⟨h, h'⟩; all_goals exact absurd h hA9
  obtain ⟨rfl, hM2⟩ := h2'
  have hJ2 : qJ M2 := by rw [hM2, hM1]; exact hJ
  show zG n (114, 4080270) 300 311 (2095, [zR 0, zR 8, zR 97, .inl i], [.inl (-2)]) M2 _
  refine zG_blk (c' := (2158, [zR 0, zR 8, zR 97, .inl i], [])) 2 (by decide) hz (zsteps_seg hg rfl) ?_
  exact K M2 hJ2
theorem qL_42 (hJ : qJ M) (hn : n ≤ 4096) (hi : 0 ≤ i ∧ i + 8 ≤ n) (K : ∀ M', qJ M' → zG n (114, 4080270) 300 311 (2158, [zR 0, zR 8, zR 97, .inl i], []) M' qLQ) : zG n (114, 4080270) 300 311 (2076, [zR 0, zR 8, zR 97, .inl i], []) M qLQ := by
  by_cases h0 : M 0 (i + 1).toNat = 0
  · exact qL_42_0 hJ hn hi K (fun x hx => hx.trans h0)
  · by_cases h1 : M 0 (i + 1).toNat = 1
    · exact qL_42_1 hJ hn hi K (fun x hx => hx.trans h1)
    · exact qL_42_n hJ hn hi K (fun x hx => by omega)
def sg_43 : List zE := [(2099, .aload_n ⟨1, zfin1⟩, 2100, (0, 0, 0, [])),
  (2100, .aload_n ⟨0, zfin0⟩, 2101, (0, 0, 0, [])),
  (2101, .iload_n ⟨3, zfin3⟩, 2102, (0, 0, 0, [])),
  (2102, .iconst 1, 2103, (0, 0, 0, [])),
  (2103, .iadd, 2104, (0, 0, 0, [])),
  (2104, .iaload, 2105, (0, 0, 0, [])),
  (2105, .invokevirtual 198, 2108, (166, 2, 0, [11])),
  (2108, .pop, 2109, (0, 0, 0, [])),
  (2109, .aload_n ⟨2, zfin2⟩, 2110, (0, 0, 0, [])),
  (2110, .aload_n ⟨0, zfin0⟩, 2111, (0, 0, 0, [])),
  (2111, .iload_n ⟨3, zfin3⟩, 2112, (0, 0, 0, [])),
  (2112, .iconst 1, 2113, (0, 0, 0, [])),
  (2113, .iadd, 2114, (0, 0, 0, [])),
  (2114, .iaload, 2115, (0, 0, 0, [])),
  (2115, .invokevirtual 201, 2118, (291, 2, 0, [12])),
  (2118, .pop, 2119, (0, 0, 0, [])),
  (2119, .goto (39), 2122, (2158, 0, 0, []))]
set_option maxRecDepth 100000 in
theorem sh_43 : zSeg zk_L_law sg_43 := zSeg_of 1597 17 2099 (by decide +kernel) rfl (by decide +kernel)
set_option maxRecDepth 100000 in
theorem qL_43_0 (hJ : qJ M) (hn : n ≤ 4096) (hi : 0 ≤ i ∧ i + 8 ≤ n) (K : ∀ M', qJ M' → zG n (114, 4080270) 300 311 (2158, [zR 0, zR 8, zR 97, .inl i], []) M' qLQ) (hA : ∀ x, x = M 0 (i + 1).toNat → x = 0) : zG n (114, 4080270) 300 311 (2099, [zR 0, zR 8, zR 97, .inl i], []) M qLQ := by
  have hz : zP 311 = (zk_L_law, 4, (114, 4080270)) := rfl
  have hg := sh_43
  refine zG_blk (c' := (2104, [zR 0, zR 8, zR 97, .inl i], [.inl (i + 1), zR 0, zR 8])) 5 (by decide) hz (zsteps_seg hg (by rw [show (.inl (i + 1) : zV) = .inl (w32 (i + 1)) from by rw [w32_id (by omega)]]; rfl)) ?_
  refine zG_iald (by decide) hz (hg _ _ rfl) rfl (.inr rfl) (by omega) ?_
  obtain ⟨x1, hx1⟩ : ∃ x : Int, x = M 0 (i + 1).toNat := ⟨_, rfl⟩
  rw [← hx1]
  have hr1 : qin x1 := by rw [hx1]; exact hJ.1.rng 0 _ (by decide) (by decide)
  obtain rfl : x1 = 0 := hA x1 hx1
  show zG n (114, 4080270) 300 311 (2105, [zR 0, zR 8, zR 97, .inl i], [.inl 0, zR 8]) M _
  refine zG_call (by decide) hz (rfl : zP 166 = (zk_X10_from, 2, (0, 0))) (hg _ _ rfl) rfl (Nat.le_of_ble_eq_true rfl) ⟨Nat.le_of_ble_eq_true rfl, Nat.le_of_ble_eq_true rfl⟩ (zG.andH (qe_166_8 (by decide) hJ.1 0 (by omega)) fh_166_8_L0) (fun vr M1 hr => ?_)
  obtain ⟨⟨⟨hC1, hF1⟩, -⟩, rfl, hM1⟩ := hr
  have hi := hF1.hi rfl
  have hI := hJ.2.1.same hi
  have hc0 : ∀ j, M1 0 j = M 0 j := fun j => hF1 0 j (by decide)
  show zG n (114, 4080270) 300 311 (2108, [zR 0, zR 8, zR 97, .inl i], [.inl (hf_166_8_L0 M).1]) M1 _
  refine zG_blk (c' := (2114, [zR 0, zR 8, zR 97, .inl i], [.inl (i + 1), zR 0, zR 97])) 6 (by decide) hz (zsteps_seg hg (by rw [show (.inl (i + 1) : zV) = .inl (w32 (i + 1)) from by rw [w32_id (by omega)]]; rfl)) ?_
  refine zG_iald (by decide) hz (hg _ _ rfl) rfl (.inr rfl) (by omega) ?_
  rw [show M1 0 (i + 1).toNat = 0 from (hc0 _).trans hx1.symm]
  show zG n (114, 4080270) 300 311 (2115, [zR 0, zR 8, zR 97, .inl i], [.inl 0, zR 97]) M1 _
  refine zG_call (by decide) hz (rfl : zP 291 = (zk_X11_from, 3, (0, 0))) (hg _ _ rfl) rfl (Nat.le_of_ble_eq_true rfl) ⟨Nat.le_of_ble_eq_true rfl, Nat.le_of_ble_eq_true rfl⟩ (qx_from (by decide) hI 0 (by omega)) (fun vr M2 hr => ?_)
  obtain ⟨⟨hC2, hF2⟩, h2⟩ := hr
  have lo := hF2.lo rfl
  have eL : ∀ r, r < 97 → M2 r = M1 r := fun r hr => funext fun k => lo r k hr
  obtain ⟨g1, g2, g3, g4⟩ := hJ.2.2
  have p0 := hJ.2.1.bl100 0
  have p1 := hJ.2.1.bl100 1
  have t0 : zband (zbshr (M 8 3) 0) 1 = M 100 0 := by rw [g4.2.2]; rcases p0 with h | h <;> rcases p1 with h' | h' <;> rw [h, h'] <;> decide
  have s0 : M1 100 (0 : Int).toNat = M 100 0 := hi 100 0 (by decide)
  have n100 : ∀ j, M2 100 j = M 100 j := fun j => (hF2.ar 100 j (by decide) (by decide)).trans (hi 100 j (by decide))
  have n99 : ∀ j, M2 99 j = M 99 j := fun j => (hF2.ar 99 j (by decide) (by decide)).trans (hi 99 j (by decide))
  have hJ2 : qJ M2 := by
    by_cases hk : M 100 0 = 0
    · have e1 : hf_166_8_L0 M = (-3, M) := by
        unfold hf_166_8_L0
        simp only [hq_169, t0, hk]
        (repeat' split) <;> first | omega | (rename_i hq; exact absurd trivial hq) | rfl
      have e2 : M1 = M := by rw [hM1, e1]
      have e3 : M2 = M1 := by
        rcases h2 with ⟨-, -, h⟩ | ⟨-, -, -, h⟩ | ⟨-, -, h, -⟩
        · exact h
        · exact h
        · exact absurd (s0.trans hk) h
      rw [e3, e2]; exact hJ
    · obtain ⟨k1, k2, k3⟩ := hm_166_0 hJ.1 (g2 hk) (by rw [t0]; exact hk)
      rw [← hM1] at k2 k3
      have v3 : ∀ j : Nat, j < 5664 → M2 98 j = M1 99 ((5664 * 0 : Int).toNat + j) := by
        rcases h2 with ⟨-, h, -⟩ | ⟨-, -, h, -⟩ | ⟨-, -, -, h⟩
        · exact absurd (by decide) h
        · exact absurd (s0.symm.trans h) hk
        · exact h
      have eA : ∀ r, (r < 9 ∨ 26 ≤ r) → r < 97 → M2 r = M r := fun r h1 h3 => (eL r h3).trans (k3 r h1)
      refine ⟨hC1.same lo, hC2, ?_, ?_, ?_, ?_⟩
      · refine k2.fr (fun r hr => eL r (by omega)) (fun j hj _ _ _ => ?_)
        have q := v3 j hj
        rw [show ((5664 * 0 : Int).toNat + j) = j by omega] at q
        exact q.trans (hi 99 _ (by decide))
      · rw [n100]; exact fun hk => (g2 hk).fr (fun r hr => eA r (by omega) (by omega)) (fun j hj _ _ _ => n99 _)
      · rw [n100]; exact fun hk => (g3 hk).fr (fun r hr => eA r (by omega) (by omega)) (fun j hj _ _ _ => n99 _)
      · rw [n100, n100, eA 8 (by decide) (by decide)]; exact g4
  have hv2 : ∃ x : Int, vr = some (.inl x) := by rcases h2 with ⟨h, -⟩ | ⟨h, -⟩ | ⟨h, -⟩ <;> exact ⟨_, h⟩
  obtain ⟨r2, rfl⟩ := hv2
  show zG n (114, 4080270) 300 311 (2118, [zR 0, zR 8, zR 97, .inl i], [.inl r2]) M2 _
  refine zG_blk (c' := (2158, [zR 0, zR 8, zR 97, .inl i], [])) 2 (by decide) hz (zsteps_seg hg rfl) ?_
  exact K M2 hJ2
set_option maxRecDepth 100000 in
theorem qL_43_1 (hJ : qJ M) (hn : n ≤ 4096) (hi : 0 ≤ i ∧ i + 8 ≤ n) (K : ∀ M', qJ M' → zG n (114, 4080270) 300 311 (2158, [zR 0, zR 8, zR 97, .inl i], []) M' qLQ) (hA : ∀ x, x = M 0 (i + 1).toNat → x = 1) : zG n (114, 4080270) 300 311 (2099, [zR 0, zR 8, zR 97, .inl i], []) M qLQ := by
  have hz : zP 311 = (zk_L_law, 4, (114, 4080270)) := rfl
  have hg := sh_43
  refine zG_blk (c' := (2104, [zR 0, zR 8, zR 97, .inl i], [.inl (i + 1), zR 0, zR 8])) 5 (by decide) hz (zsteps_seg hg (by rw [show (.inl (i + 1) : zV) = .inl (w32 (i + 1)) from by rw [w32_id (by omega)]]; rfl)) ?_
  refine zG_iald (by decide) hz (hg _ _ rfl) rfl (.inr rfl) (by omega) ?_
  obtain ⟨x1, hx1⟩ : ∃ x : Int, x = M 0 (i + 1).toNat := ⟨_, rfl⟩
  rw [← hx1]
  have hr1 : qin x1 := by rw [hx1]; exact hJ.1.rng 0 _ (by decide) (by decide)
  obtain rfl : x1 = 1 := hA x1 hx1
  show zG n (114, 4080270) 300 311 (2105, [zR 0, zR 8, zR 97, .inl i], [.inl 1, zR 8]) M _
  refine zG_call (by decide) hz (rfl : zP 166 = (zk_X10_from, 2, (0, 0))) (hg _ _ rfl) rfl (Nat.le_of_ble_eq_true rfl) ⟨Nat.le_of_ble_eq_true rfl, Nat.le_of_ble_eq_true rfl⟩ (zG.andH (qe_166_8 (by decide) hJ.1 1 (by omega)) fh_166_8_L1) (fun vr M1 hr => ?_)
  obtain ⟨⟨⟨hC1, hF1⟩, -⟩, rfl, hM1⟩ := hr
  have hi := hF1.hi rfl
  have hI := hJ.2.1.same hi
  have hc0 : ∀ j, M1 0 j = M 0 j := fun j => hF1 0 j (by decide)
  show zG n (114, 4080270) 300 311 (2108, [zR 0, zR 8, zR 97, .inl i], [.inl (hf_166_8_L1 M).1]) M1 _
  refine zG_blk (c' := (2114, [zR 0, zR 8, zR 97, .inl i], [.inl (i + 1), zR 0, zR 97])) 6 (by decide) hz (zsteps_seg hg (by rw [show (.inl (i + 1) : zV) = .inl (w32 (i + 1)) from by rw [w32_id (by omega)]]; rfl)) ?_
  refine zG_iald (by decide) hz (hg _ _ rfl) rfl (.inr rfl) (by omega) ?_
  rw [show M1 0 (i + 1).toNat = 1 from (hc0 _).trans hx1.symm]
  show zG n (114, 4080270) 300 311 (2115, [zR 0, zR 8, zR 97, .inl i], [.inl 1, zR 97]) M1 _
  refine zG_call (by decide) hz (rfl : zP 291 = (zk_X11_from, 3, (0, 0))) (hg _ _ rfl) rfl (Nat.le_of_ble_eq_true rfl) ⟨Nat.le_of_ble_eq_true rfl, Nat.le_of_ble_eq_true rfl⟩ (qx_from (by decide) hI 1 (by omega)) (fun vr M2 hr => ?_)
  obtain ⟨⟨hC2, hF2⟩, h2⟩ := hr
  have lo := hF2.lo rfl
  have eL : ∀ r, r < 97 → M2 r = M1 r := fun r hr => funext fun k => lo r k hr
  obtain ⟨g1, g2, g3, g4⟩ := hJ.2.2
  have p0 := hJ.2.1.bl100 0
  have p1 := hJ.2.1.bl100 1
  have t0 : zband (zbshr (M 8 3) 1) 1 = M 100 1 := by rw [g4.2.2]; rcases p0 with h | h <;> rcases p1 with h' | h' <;> rw [h, h'] <;> decide
  have s0 : M1 100 (1 : Int).toNat = M 100 1 := hi 100 1 (by decide)
  have n100 : ∀ j, M2 100 j = M 100 j := fun j => (hF2.ar 100 j (by decide) (by decide)).trans (hi 100 j (by decide))
  have n99 : ∀ j, M2 99 j = M 99 j := fun j => (hF2.ar 99 j (by decide) (by decide)).trans (hi 99 j (by decide))
  have hJ2 : qJ M2 := by
    by_cases hk : M 100 1 = 0
    · have e1 : hf_166_8_L1 M = (-3, M) := by
        unfold hf_166_8_L1
        simp only [hq_169, t0, hk]
        (repeat' split) <;> first | omega | (rename_i hq; exact absurd trivial hq) | rfl
      have e2 : M1 = M := by rw [hM1, e1]
      have e3 : M2 = M1 := by
        rcases h2 with ⟨-, -, h⟩ | ⟨-, -, -, h⟩ | ⟨-, -, h, -⟩
        · exact h
        · exact h
        · exact absurd (s0.trans hk) h
      rw [e3, e2]; exact hJ
    · obtain ⟨k1, k2, k3⟩ := hm_166_1 hJ.1 (g3 hk) (by rw [t0]; exact hk)
      rw [← hM1] at k2 k3
      have v3 : ∀ j : Nat, j < 5664 → M2 98 j = M1 99 ((5664 * 1 : Int).toNat + j) := by
        rcases h2 with ⟨-, h, -⟩ | ⟨-, -, h, -⟩ | ⟨-, -, -, h⟩
        · exact absurd (by decide) h
        · exact absurd (s0.symm.trans h) hk
        · exact h
      have eA : ∀ r, (r < 9 ∨ 26 ≤ r) → r < 97 → M2 r = M r := fun r h1 h3 => (eL r h3).trans (k3 r h1)
      refine ⟨hC1.same lo, hC2, ?_, ?_, ?_, ?_⟩
      · refine k2.fr (fun r hr => eL r (by omega)) (fun j hj _ _ _ => ?_)
        have q := v3 j hj
        rw [show ((5664 * 1 : Int).toNat + j) = (5664 + j) by omega] at q
        exact q.trans (hi 99 _ (by decide))
      · rw [n100]; exact fun hk => (g2 hk).fr (fun r hr => eA r (by omega) (by omega)) (fun j hj _ _ _ => n99 _)
      · rw [n100]; exact fun hk => (g3 hk).fr (fun r hr => eA r (by omega) (by omega)) (fun j hj _ _ _ => n99 _)
      · rw [n100, n100, eA 8 (by decide) (by decide)]; exact g4
  have hv2 : ∃ x : Int, vr = some (.inl x) := by rcases h2 with ⟨h, -⟩ | ⟨h, -⟩ | ⟨h, -⟩ <;> exact ⟨_, h⟩
  obtain ⟨r2, rfl⟩ := hv2
  show zG n (114, 4080270) 300 311 (2118, [zR 0, zR 8, zR 97, .inl i], [.inl r2]) M2 _
  refine zG_blk (c' := (2158, [zR 0, zR 8, zR 97, .inl i], [])) 2 (by decide) hz (zsteps_seg hg rfl) ?_
  exact K M2 hJ2
set_option maxRecDepth 100000 in
theorem qL_43_n (hJ : qJ M) (hn : n ≤ 4096) (hi : 0 ≤ i ∧ i + 8 ≤ n) (K : ∀ M', qJ M' → zG n (114, 4080270) 300 311 (2158, [zR 0, zR 8, zR 97, .inl i], []) M' qLQ) (hA : ∀ x, x = M 0 (i + 1).toNat → ¬ (0 ≤ x ∧ x ≤ 1)) : zG n (114, 4080270) 300 311 (2099, [zR 0, zR 8, zR 97, .inl i], []) M qLQ := by
  have hz : zP 311 = (zk_L_law, 4, (114, 4080270)) := rfl
  have hg := sh_43
  refine zG_blk (c' := (2104, [zR 0, zR 8, zR 97, .inl i], [.inl (i + 1), zR 0, zR 8])) 5 (by decide) hz (zsteps_seg hg (by rw [show (.inl (i + 1) : zV) = .inl (w32 (i + 1)) from by rw [w32_id (by omega)]]; rfl)) ?_
  refine zG_iald (by decide) hz (hg _ _ rfl) rfl (.inr rfl) (by omega) ?_
  obtain ⟨x1, hx1⟩ : ∃ x : Int, x = M 0 (i + 1).toNat := ⟨_, rfl⟩
  rw [← hx1]
  have hr1 : qin x1 := by rw [hx1]; exact hJ.1.rng 0 _ (by decide) (by decide)
  have hA9 := hA x1 hx1
  show zG n (114, 4080270) 300 311 (2105, [zR 0, zR 8, zR 97, .inl i], [.inl x1, zR 8]) M _
  refine zG_call (by decide) hz (rfl : zP 166 = (zk_X10_from, 2, (0, 0))) (hg _ _ rfl) rfl (Nat.le_of_ble_eq_true rfl) ⟨Nat.le_of_ble_eq_true rfl, Nat.le_of_ble_eq_true rfl⟩ (qe_166_8 (by decide) hJ.1 x1 (by omega)) (fun vr M1 hr => ?_)
  obtain ⟨⟨hC1, hF1⟩, h1⟩ := hr
  have h1' : vr = some (.inl (-2)) ∧ M1 = M := by rcases h1 with ⟨h, -, h'⟩ | ⟨-, h, -⟩ | ⟨-, h, -⟩; exact ⟨h, h'⟩; all_goals exact absurd h hA9
  obtain ⟨rfl, hM1⟩ := h1'
  have hi := hF1.hi rfl
  have hI := hJ.2.1.same hi
  have hc0 : ∀ j, M1 0 j = M 0 j := fun j => hF1 0 j (by decide)
  show zG n (114, 4080270) 300 311 (2108, [zR 0, zR 8, zR 97, .inl i], [.inl (-2)]) M1 _
  refine zG_blk (c' := (2114, [zR 0, zR 8, zR 97, .inl i], [.inl (i + 1), zR 0, zR 97])) 6 (by decide) hz (zsteps_seg hg (by rw [show (.inl (i + 1) : zV) = .inl (w32 (i + 1)) from by rw [w32_id (by omega)]]; rfl)) ?_
  refine zG_iald (by decide) hz (hg _ _ rfl) rfl (.inr rfl) (by omega) ?_
  rw [show M1 0 (i + 1).toNat = x1 from (hc0 _).trans hx1.symm]
  show zG n (114, 4080270) 300 311 (2115, [zR 0, zR 8, zR 97, .inl i], [.inl x1, zR 97]) M1 _
  refine zG_call (by decide) hz (rfl : zP 291 = (zk_X11_from, 3, (0, 0))) (hg _ _ rfl) rfl (Nat.le_of_ble_eq_true rfl) ⟨Nat.le_of_ble_eq_true rfl, Nat.le_of_ble_eq_true rfl⟩ (qx_from (by decide) hI x1 (by omega)) (fun vr M2 hr => ?_)
  obtain ⟨⟨hC2, hF2⟩, h2⟩ := hr
  have lo := hF2.lo rfl
  have eL : ∀ r, r < 97 → M2 r = M1 r := fun r hr => funext fun k => lo r k hr
  obtain ⟨g1, g2, g3, g4⟩ := hJ.2.2
  have h2' : vr = some (.inl (-2)) ∧ M2 = M1 := by rcases h2 with ⟨h, -, h'⟩ | ⟨-, h, -⟩ | ⟨-, h, -⟩; exact ⟨h, h'⟩; all_goals exact absurd h hA9
  obtain ⟨rfl, hM2⟩ := h2'
  have hJ2 : qJ M2 := by rw [hM2, hM1]; exact hJ
  show zG n (114, 4080270) 300 311 (2118, [zR 0, zR 8, zR 97, .inl i], [.inl (-2)]) M2 _
  refine zG_blk (c' := (2158, [zR 0, zR 8, zR 97, .inl i], [])) 2 (by decide) hz (zsteps_seg hg rfl) ?_
  exact K M2 hJ2
theorem qL_43 (hJ : qJ M) (hn : n ≤ 4096) (hi : 0 ≤ i ∧ i + 8 ≤ n) (K : ∀ M', qJ M' → zG n (114, 4080270) 300 311 (2158, [zR 0, zR 8, zR 97, .inl i], []) M' qLQ) : zG n (114, 4080270) 300 311 (2099, [zR 0, zR 8, zR 97, .inl i], []) M qLQ := by
  by_cases h0 : M 0 (i + 1).toNat = 0
  · exact qL_43_0 hJ hn hi K (fun x hx => hx.trans h0)
  · by_cases h1 : M 0 (i + 1).toNat = 1
    · exact qL_43_1 hJ hn hi K (fun x hx => hx.trans h1)
    · exact qL_43_n hJ hn hi K (fun x hx => by omega)
def sg_44 : List zE := [(2122, .aload_n ⟨1, zfin1⟩, 2123, (0, 0, 0, [])),
  (2123, .aload_n ⟨0, zfin0⟩, 2124, (0, 0, 0, [])),
  (2124, .iload_n ⟨3, zfin3⟩, 2125, (0, 0, 0, [])),
  (2125, .iconst 1, 2126, (0, 0, 0, [])),
  (2126, .iadd, 2127, (0, 0, 0, [])),
  (2127, .iaload, 2128, (0, 0, 0, [])),
  (2128, .invokevirtual 202, 2131, (167, 2, 0, [11])),
  (2131, .pop, 2132, (0, 0, 0, [])),
  (2132, .aload_n ⟨2, zfin2⟩, 2133, (0, 0, 0, [])),
  (2133, .aload_n ⟨0, zfin0⟩, 2134, (0, 0, 0, [])),
  (2134, .iload_n ⟨3, zfin3⟩, 2135, (0, 0, 0, [])),
  (2135, .iconst 1, 2136, (0, 0, 0, [])),
  (2136, .iadd, 2137, (0, 0, 0, [])),
  (2137, .iaload, 2138, (0, 0, 0, [])),
  (2138, .invokevirtual 205, 2141, (293, 2, 0, [12])),
  (2141, .pop, 2142, (0, 0, 0, [])),
  (2142, .goto (16), 2145, (2158, 0, 0, []))]
set_option maxRecDepth 100000 in
theorem sh_44 : zSeg zk_L_law sg_44 := zSeg_of 1614 17 2122 (by decide +kernel) rfl (by decide +kernel)
set_option maxRecDepth 100000 in
theorem qL_44 (hJ : qJ M) (hn : n ≤ 4096) (hi : 0 ≤ i ∧ i + 8 ≤ n) (K : ∀ M', qJ M' → zG n (114, 4080270) 300 311 (2158, [zR 0, zR 8, zR 97, .inl i], []) M' qLQ) : zG n (114, 4080270) 300 311 (2122, [zR 0, zR 8, zR 97, .inl i], []) M qLQ := by
  have hz : zP 311 = (zk_L_law, 4, (114, 4080270)) := rfl
  have hg := sh_44
  refine zG_blk (c' := (2127, [zR 0, zR 8, zR 97, .inl i], [.inl (i + 1), zR 0, zR 8])) 5 (by decide) hz (zsteps_seg hg (by rw [show (.inl (i + 1) : zV) = .inl (w32 (i + 1)) from by rw [w32_id (by omega)]]; rfl)) ?_
  refine zG_iald (by decide) hz (hg _ _ rfl) rfl (.inr rfl) (by omega) ?_
  obtain ⟨x1, hx1⟩ : ∃ x : Int, x = M 0 (i + 1).toNat := ⟨_, rfl⟩
  rw [← hx1]
  have hr1 : qin x1 := by rw [hx1]; exact hJ.1.rng 0 _ (by decide) (by decide)
  show zG n (114, 4080270) 300 311 (2128, [zR 0, zR 8, zR 97, .inl i], [.inl x1, zR 8]) M _
  refine zG_call (by decide) hz (rfl : zP 167 = (zk_X10_count, 2, (0, 0))) (hg _ _ rfl) rfl (Nat.le_of_ble_eq_true rfl) ⟨Nat.le_of_ble_eq_true rfl, Nat.le_of_ble_eq_true rfl⟩ (qm_167_8 (by decide) hJ.1 x1 (by omega)) (fun vr M1 hr => ?_)
  obtain ⟨hq, hr⟩ := hr
  replace hq := hq.symm; subst hq
  have hc0 : ∀ j, M 0 j = M 0 j := fun _ => rfl
  obtain ⟨r1, rfl, -⟩ := hr
  show zG n (114, 4080270) 300 311 (2131, [zR 0, zR 8, zR 97, .inl i], [.inl r1]) M _
  refine zG_blk (c' := (2137, [zR 0, zR 8, zR 97, .inl i], [.inl (i + 1), zR 0, zR 97])) 6 (by decide) hz (zsteps_seg hg (by rw [show (.inl (i + 1) : zV) = .inl (w32 (i + 1)) from by rw [w32_id (by omega)]]; rfl)) ?_
  refine zG_iald (by decide) hz (hg _ _ rfl) rfl (.inr rfl) (by omega) ?_
  rw [show M 0 (i + 1).toNat = x1 from hx1.symm]
  show zG n (114, 4080270) 300 311 (2138, [zR 0, zR 8, zR 97, .inl i], [.inl x1, zR 97]) M _
  refine zG_call (by decide) hz (rfl : zP 293 = (zk_X11_count, 2, (0, 0))) (hg _ _ rfl) rfl (Nat.le_of_ble_eq_true rfl) ⟨Nat.le_of_ble_eq_true rfl, Nat.le_of_ble_eq_true rfl⟩ (qm_293_97 (by decide) hJ.2.1 x1 (by omega)) (fun vr M2 hr => ?_)
  obtain ⟨hq, hr⟩ := hr
  replace hq := hq.symm; subst hq
  obtain ⟨r2, hv9⟩ := hr
  first | (obtain ⟨rfl, -⟩ := hv9) | (obtain rfl := hv9)
  show zG n (114, 4080270) 300 311 (2141, [zR 0, zR 8, zR 97, .inl i], [.inl r2]) M _
  refine zG_blk (c' := (2158, [zR 0, zR 8, zR 97, .inl i], [])) 2 (by decide) hz (zsteps_seg hg rfl) ?_
  exact K M hJ
def sg_45 : List zE := [(2145, .aload_n ⟨1, zfin1⟩, 2146, (0, 0, 0, [])),
  (2146, .invokevirtual 206, 2149, (168, 1, 0, [11])),
  (2149, .pop2, 2150, (0, 0, 0, [])),
  (2150, .aload_n ⟨2, zfin2⟩, 2151, (0, 0, 0, [])),
  (2151, .invokevirtual 210, 2154, (295, 1, 0, [12])),
  (2154, .pop2, 2155, (0, 0, 0, [])),
  (2155, .goto (3), 2158, (2158, 0, 0, []))]
set_option maxRecDepth 100000 in
theorem sh_45 : zSeg zk_L_law sg_45 := zSeg_of 1631 7 2145 (by decide +kernel) rfl (by decide +kernel)
set_option maxRecDepth 100000 in
theorem qL_45 (hJ : qJ M) (hn : n ≤ 4096) (hi : 0 ≤ i ∧ i + 8 ≤ n) (K : ∀ M', qJ M' → zG n (114, 4080270) 300 311 (2158, [zR 0, zR 8, zR 97, .inl i], []) M' qLQ) : zG n (114, 4080270) 300 311 (2145, [zR 0, zR 8, zR 97, .inl i], []) M qLQ := by
  have hz : zP 311 = (zk_L_law, 4, (114, 4080270)) := rfl
  have hg := sh_45
  refine zG_blk (c' := (2146, [zR 0, zR 8, zR 97, .inl i], [zR 8])) 1 (by decide) hz (zsteps_seg hg rfl) ?_
  refine zG_call (by decide) hz (rfl : zP 168 = (zk_X10_digest, 1, (0, 0))) (hg _ _ rfl) rfl (Nat.le_of_ble_eq_true rfl) ⟨Nat.le_of_ble_eq_true rfl, Nat.le_of_ble_eq_true rfl⟩ (qm_168_8 (by decide) hJ.1 ) (fun vr M1 hr => ?_)
  obtain ⟨hq, hr⟩ := hr
  replace hq := hq.symm; subst hq
  have hc0 : ∀ j, M 0 j = M 0 j := fun _ => rfl
  obtain ⟨r1, rfl⟩ := hr
  show zG n (114, 4080270) 300 311 (2149, [zR 0, zR 8, zR 97, .inl i], [(.inr (.inl r1))]) M _
  refine zG_blk (c' := (2151, [zR 0, zR 8, zR 97, .inl i], [zR 97])) 2 (by decide) hz (zsteps_seg hg rfl) ?_
  refine zG_call (by decide) hz (rfl : zP 295 = (zk_X11_digest, 4, (0, 0))) (hg _ _ rfl) rfl (Nat.le_of_ble_eq_true rfl) ⟨Nat.le_of_ble_eq_true rfl, Nat.le_of_ble_eq_true rfl⟩ (qm_295_97 (by decide) hJ.2.1 ) (fun vr M2 hr => ?_)
  obtain ⟨hq, hr⟩ := hr
  replace hq := hq.symm; subst hq
  obtain ⟨r2, hv9⟩ := hr
  first | (obtain ⟨rfl, -⟩ := hv9) | (obtain rfl := hv9)
  show zG n (114, 4080270) 300 311 (2154, [zR 0, zR 8, zR 97, .inl i], [(.inr (.inl r2))]) M _
  refine zG_blk (c' := (2158, [zR 0, zR 8, zR 97, .inl i], [])) 2 (by decide) hz (zsteps_seg hg rfl) ?_
  exact K M hJ
set_option maxRecDepth 100000 in
theorem qL_all (hn : n ≤ 4096) : ∀ (N : Nat) (i : Int) (M : zM), ((n : Int) + 8 - i).toNat < N → 0 ≤ i ∧ i ≤ n + 8 → qJ M → zG n (114, 4080270) 300 311 (18, [zR 0, zR 8, zR 97, .inl i], []) M qLQ := by
  have hz : zP 311 = (zk_L_law, 4, (114, 4080270)) := rfl
  intro N
  induction N with
  | zero => intro i M hN; exact absurd hN (Nat.not_lt_zero _)
  | succ N ih =>
    intro i M hN hi hJ
    refine zG_blk (c' := (20, [zR 0, zR 8, zR 97, .inl i], [zR 0, .inl i])) 2 (by decide) hz rfl ?_
    refine zG_alen (by decide) hz rfl rfl ?_
    refine zG_blk (c' := (24, [zR 0, zR 8, zR 97, .inl i], [.inl ((n : Int) - 8), .inl i])) 2 (by decide) hz (by rw [show (.inl ((n : Int) - 8) : zV) = .inl (w32 ((n : Int) - 8)) from by rw [w32_id (by omega)]]; rfl) ?_
    refine zG_icmp_gt (by decide) hz rfl (fun hb => ?_) (fun hb => ?_)
    · refine zG_blk (c' := (2165, [zR 0, zR 8, zR 97, .inl i], [.inl 1])) 1 (by decide) hz rfl ?_
      exact zG_zret (by decide) hz rfl (.inr rfl) rfl
    · have K : ∀ M', qJ M' → zG n (114, 4080270) 300 311 (2158, [zR 0, zR 8, zR 97, .inl i], []) M' qLQ := by
        intro M' hJ'
        refine zG_blk (c' := (18, [zR 0, zR 8, zR 97, .inl (i + 8)], [])) 2 (by decide) hz (by rw [show (.inl (i + 8) : zV) = .inl (w32 (i + 8)) from by rw [w32_id (by omega)]]; rfl) ?_
        exact ih (i + 8) M' (by omega) (by omega) hJ'
      have hi8 : 0 ≤ i ∧ i + 8 ≤ n := by omega
      refine zG_blk (c' := (29, [zR 0, zR 8, zR 97, .inl i], [.inl i, zR 0])) 2 (by decide) hz rfl ?_
      refine zG_iald (by decide) hz rfl rfl (.inr rfl) (by omega) ?_
      refine zG_blk (c' := (33, [zR 0, zR 8, zR 97, .inl i], [.inl (zband (M 0 i.toNat) 63)])) 2 (by decide) hz rfl ?_
      refine zG_sw (by decide) hz rfl ?_
      refine zts_all (P := fun t => zG n (114, 4080270) 300 311 (t, [zR 0, zR 8, zR 97, .inl i], []) M _) (K M hJ) ?_
      intro t ht
      simp only [List.mem_cons, List.not_mem_nil, or_false] at ht
      rcases ht with rfl | rfl | rfl | rfl | rfl | rfl | rfl | rfl | rfl | rfl | rfl | rfl | rfl | rfl | rfl | rfl | rfl | rfl | rfl | rfl | rfl | rfl | rfl | rfl | rfl | rfl | rfl | rfl | rfl | rfl | rfl | rfl | rfl | rfl | rfl | rfl | rfl | rfl | rfl | rfl | rfl | rfl | rfl | rfl | rfl | rfl
      · exact qL_0 hJ hn hi8 K
      · exact qL_1 hJ hn hi8 K
      · exact qL_2 hJ hn hi8 K
      · exact qL_3 hJ hn hi8 K
      · exact qL_4 hJ hn hi8 K
      · exact qL_5 hJ hn hi8 K
      · exact qL_6 hJ hn hi8 K
      · exact qL_7 hJ hn hi8 K
      · exact qL_8 hJ hn hi8 K
      · exact qL_9 hJ hn hi8 K
      · exact qL_10 hJ hn hi8 K
      · exact qL_11 hJ hn hi8 K
      · exact qL_12 hJ hn hi8 K
      · exact qL_13 hJ hn hi8 K
      · exact qL_14 hJ hn hi8 K
      · exact qL_15 hJ hn hi8 K
      · exact qL_16 hJ hn hi8 K
      · exact qL_17 hJ hn hi8 K
      · exact qL_18 hJ hn hi8 K
      · exact qL_19 hJ hn hi8 K
      · exact qL_20 hJ hn hi8 K
      · exact qL_21 hJ hn hi8 K
      · exact qL_22 hJ hn hi8 K
      · exact qL_23 hJ hn hi8 K
      · exact qL_24 hJ hn hi8 K
      · exact qL_25 hJ hn hi8 K
      · exact qL_26 hJ hn hi8 K
      · exact qL_27 hJ hn hi8 K
      · exact qL_28 hJ hn hi8 K
      · exact qL_29 hJ hn hi8 K
      · exact qL_30 hJ hn hi8 K
      · exact qL_31 hJ hn hi8 K
      · exact qL_32 hJ hn hi8 K
      · exact qL_33 hJ hn hi8 K
      · exact qL_34 hJ hn hi8 K
      · exact qL_35 hJ hn hi8 K
      · exact qL_36 hJ hn hi8 K
      · exact qL_37 hJ hn hi8 K
      · exact qL_38 hJ hn hi8 K
      · exact qL_39 hJ hn hi8 K
      · exact qL_40 hJ hn hi8 K
      · exact qL_41 hJ hn hi8 K
      · exact qL_42 hJ hn hi8 K
      · exact qL_43 hJ hn hi8 K
      · exact qL_44 hJ hn hi8 K
      · exact qL_45 hJ hn hi8 K
end LW

