/-! THE LAW (ID) -/
def hFree (r : Nat) : Bool := Nat.blt 59 r || (Nat.blt r 8 || (Nat.beq r 20 || (Nat.beq r 22 || (Nat.beq r 23 || (Nat.beq r 37 || (Nat.beq r 39 || (Nat.beq r 40 || (Nat.beq r 54 || (Nat.beq r 56 || Nat.beq r 57)))))))))
def hFre9 (r : Nat) : Bool := Nat.blt 59 r || (Nat.blt r 8 || (Nat.blt 8 r && Nat.blt r 26))
def qK (M : zM) : Prop := hHs M 9 (M 98) ∧ (M 100 0 ≠ 0 → hHs M 26 (fun j => M 99 j)) ∧ (M 100 1 ≠ 0 → hHs M 43 (fun j => M 99 (5664 + j))) ∧ (0 ≤ M 8 3 ∧ M 8 3 ≤ 3 ∧ M 8 3 = M 100 0 + 2 * M 100 1)
def qJ (M : zM) : Prop := qCI M ∧ qMI M ∧ qK M
theorem qMI.same {M M' : zM} (h : qMI M) (e : ∀ r k, 97 ≤ r → M' r k = M r k) : qMI M' := by
  refine ⟨?_, ?_, ?_, fun r k hr => by rw [e r k hr]; exact h.2.2.2.1 r k hr, ?_⟩
  · rw [show M' 98 = M 98 from funext fun j => e 98 j (by decide)]; exact h.1
  · rw [show M' 99 = M 99 from funext fun j => e 99 j (by decide)]; exact h.2.1
  · rw [show M' 99 = M 99 from funext fun j => e 99 j (by decide)]; exact h.2.2.1
  · have ht := h.2.2.2.2
    unfold qTS at ht ⊢
    rw [show M' 105 = M 105 from funext fun j => e 105 j (by decide), show M' 106 = M 106 from funext fun j => e 106 j (by decide), e 97 7 (by decide)]
    exact ht
theorem qCI.same {M M' : zM} (h : qCI M) (e : ∀ r k, r < 97 → M' r k = M r k) : qCI M' := by
  refine ⟨fun r l c hm => ?_, ?_, ?_, ?_, fun r k hr hl => by rw [e r k hr]; exact h.rng r k hr hl, ?_⟩
  · have hz := qRTL_rz _ hm
    rw [e r 0 hz.2.2.1, e r 1 hz.2.2.1, e r 3 hz.2.2.1]; exact h.rows r l c hm
  · rw [e 72 3 (by decide)]; exact h.rk
  · rw [e 72 5 (by decide)]; exact h.um
  · rw [e 87 5 (by decide)]; exact h.pp
  · rw [e 4 1 (by decide), e 6 1 (by decide)]; exact h.st
theorem qFr.hi {g : List Nat} {M M' : zM} (h : qFr g M M') (hg : g.all (fun x => Nat.blt x 97) = true) : ∀ r k, 97 ≤ r → M' r k = M r k := fun r k hr => h r k (fun hm => by
  have := List.all_eq_true.mp hg r hm
  rw [Nat.blt_eq] at this
  omega)
theorem qFm.lo {g : List Nat} {M M' : zM} (h : qFm g M M') (hg : g.all (fun x => Nat.ble 97 x) = true) : ∀ r k, r < 97 → M' r k = M r k := fun r k hr => h r k (fun hm => by
  have := List.all_eq_true.mp hg _ hm
  rw [Nat.ble_eq] at this
  simp only [qCd, if_neg (show r ≠ 97 by omega)] at this
  omega)
theorem qFr.fre {g : List Nat} {M M' : zM} (h : qFr g M M') (hg : g.all hFree = true) : ∀ r, (r = 8 ∨ (9 ≤ r ∧ r ≤ 59 ∧ r ≠ 20 ∧ r ≠ 22 ∧ r ≠ 23 ∧ r ≠ 37 ∧ r ≠ 39 ∧ r ≠ 40 ∧ r ≠ 54 ∧ r ≠ 56 ∧ r ≠ 57)) → M' r = M r := fun r hr => funext fun k => h r k (fun hm => by
  have := List.all_eq_true.mp hg r hm
  simp only [hFree, Bool.or_eq_true, Nat.blt_eq, Nat.beq_eq] at this
  omega)
theorem qFr.fr9 {g : List Nat} {M M' : zM} (h : qFr g M M') (hg : g.all hFre9 = true) : ∀ r, (r = 8 ∨ (26 ≤ r ∧ r ≤ 59)) → M' r = M r := fun r hr => funext fun k => h r k (fun hm => by
  have := List.all_eq_true.mp hg r hm
  simp only [hFre9, Bool.or_eq_true, Bool.and_eq_true, Nat.blt_eq, Nat.beq_eq] at this
  omega)
theorem qJ.cls {g : List Nat} {M M' : zM} (h : qJ M) (hc : qCI M') (hf : qFr g M M') (hg : g.all (fun x => Nat.blt x 97) = true) (hg2 : g.all hFree = true) : qJ M' := by
  have hi := hf.hi hg
  have e := hf.fre hg2
  obtain ⟨h1, h2, h3, h4⟩ := h.2.2
  refine ⟨hc, h.2.1.same hi, ?_, ?_, ?_, ?_⟩
  · exact h1.fr (fun r hr => e r (by omega)) (fun j _ _ _ _ => hi 98 j (by decide))
  · rw [hi 100 0 (by decide)]; exact fun hk => (h2 hk).fr (fun r hr => e r (by omega)) (fun j _ _ _ _ => hi 99 _ (by decide))
  · rw [hi 100 1 (by decide)]; exact fun hk => (h3 hk).fr (fun r hr => e r (by omega)) (fun j _ _ _ _ => hi 99 _ (by decide))
  · rw [hi 100 0 (by decide), hi 100 1 (by decide), e 8 (by omega)]; exact h4
theorem qJ.mdl {g : List Nat} {M M' : zM} (h : qJ M) (hm : qMI M') (hf : qFm g M M') (hg : g.all (fun x => Nat.ble 97 x) = true) (hg2 : 99 ∉ g ∧ 100 ∉ g) (h9 : ∀ j, j < 5664 → j ≠ 5 → ¬ (4000 ≤ j ∧ j < 5640) → ¬ (80 ≤ j ∧ j < 140 ∧ (j - 80) % 3 = 1) → M' 98 j = M 98 j) : qJ M' := by
  have lo := hf.lo hg
  have e : ∀ r, r < 97 → M' r = M r := fun r hr => funext fun k => lo r k hr
  have e99 : ∀ j, M' 99 j = M 99 j := fun j => hf.ar 99 j (by decide) hg2.1
  obtain ⟨h1, h2, h3, h4⟩ := h.2.2
  refine ⟨h.1.same lo, hm, ?_, ?_, ?_, ?_⟩
  · exact h1.fr (fun r hr => e r (by omega)) h9
  · rw [hf.ar 100 0 (by decide) hg2.2]; exact fun hk => (h2 hk).fr (fun r hr => e r (by omega)) (fun j _ _ _ _ => e99 _)
  · rw [hf.ar 100 1 (by decide) hg2.2]; exact fun hk => (h3 hk).fr (fun r hr => e r (by omega)) (fun j _ _ _ _ => e99 _)
  · rw [hf.ar 100 0 (by decide) hg2.2, hf.ar 100 1 (by decide) hg2.2, lo 8 3 (by decide)]; exact h4
theorem qJ.mut {g g2 : List Nat} {M M1 M2 : zM} (h : qJ M) (hc : qCI M1) (hf : qFr g M M1) (hg : g.all (fun x => Nat.blt x 97) = true) (hg3 : g.all hFre9 = true) (hm : qMI M2) (hf2 : qFm g2 M1 M2) (hg4 : g2.all (fun x => Nat.ble 97 x) = true) (hg2 : 99 ∉ g2 ∧ 100 ∉ g2) (hh : hHs M2 9 (M2 98)) : qJ M2 := by
  have hi := hf.hi hg
  have lo := hf2.lo hg4
  have e : ∀ r, (r = 8 ∨ (26 ≤ r ∧ r ≤ 59)) → M2 r = M r := fun r hr => (funext fun k => lo r k (by omega)).trans (hf.fr9 hg3 r hr)
  have e99 : ∀ j, M2 99 j = M 99 j := fun j => (hf2.ar 99 j (by decide) hg2.1).trans (hi 99 j (by decide))
  have e0 : ∀ j, M2 100 j = M 100 j := fun j => (hf2.ar 100 j (by decide) hg2.2).trans (hi 100 j (by decide))
  obtain ⟨h1, h2, h3, h4⟩ := h.2.2
  refine ⟨hc.same lo, hm, hh, ?_, ?_, ?_⟩
  · rw [e0]; exact fun hk => (h2 hk).fr (fun r hr => e r (by omega)) (fun j _ _ _ _ => e99 _)
  · rw [e0]; exact fun hk => (h3 hk).fr (fun r hr => e r (by omega)) (fun j _ _ _ _ => e99 _)
  · rw [e0, e0, e 8 (by omega)]; exact h4
theorem qCI.tb {M : zM} (h : qCI M) : hTb M := by
  have t := fun r l c hm => h.rows r l c hm
  exact ⟨⟨(t 10 14 4 (by decide)).1, (t 10 14 4 (by decide)).2.1⟩, ⟨(t 12 20 3 (by decide)).1, (t 12 20 3 (by decide)).2.1⟩, ⟨(t 14 4 2 (by decide)).1, (t 14 4 2 (by decide)).2.1⟩, ⟨(t 16 40 5 (by decide)).1, (t 16 40 5 (by decide)).2.1⟩, ⟨(t 18 250 11 (by decide)).1, (t 18 250 11 (by decide)).2.1⟩, ⟨(t 20 8 81 (by decide)).1, (t 20 8 81 (by decide)).2.1⟩, ⟨(t 22 10 164 (by decide)).1, (t 22 10 164 (by decide)).2.1⟩, ⟨(t 24 12 2 (by decide)).1, (t 24 12 2 (by decide)).2.1⟩⟩
theorem qMI.bd {M : zM} (h : qMI M) : hBd M := ⟨h.cnt0, h.cnt1, h.cnt2, h.cnt3, h.cnt4, h.cnt5, h.cnt6⟩
