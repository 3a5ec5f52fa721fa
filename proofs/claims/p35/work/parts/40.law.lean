/-! THE LAW (ID) -/
def hFree (r : Nat) : Bool := Nat.blt 59 r || (Nat.blt r 8 || (Nat.beq r 20 || (Nat.beq r 37 || Nat.beq r 54)))
def hFre9 (r : Nat) : Bool := Nat.blt 59 r || (Nat.blt r 8 || (Nat.blt 8 r && Nat.blt r 26))
def qK (M : zM) : Prop := hHs M 9 (M 98) ∧ (M 100 0 ≠ 0 → hHs M 26 (fun j => M 99 j)) ∧ (M 100 1 ≠ 0 → hHs M 43 (fun j => M 99 (5664 + j))) ∧ (0 ≤ M 8 3 ∧ M 8 3 ≤ 3 ∧ M 8 3 = M 100 0 + 2 * M 100 1)
def qJ (M : zM) : Prop := qCI M ∧ qMI M ∧ qK M
theorem qMI.same {M M' : zM} (h : qMI M) (e : ∀ r k, 97 ≤ r → M' r k = M r k) : qMI M' := by
  refine ⟨?_, ?_, ?_, fun r k hr => by rw [e r k hr]; exact h.2.2.2.1 r k hr, ?_⟩
  · rw [show M' 98 = M 98 from funext fun j => e 98 j (by decide)]; exact h.1
  · rw [show M' 99 = M 99 from funext fun j => e 99 j (by decide)]; exact h.2.1
  · rw [show M' 99 = M 99 from funext fun j => e 99 j (by decide)]; exact h.2.2.1
  · have ht := h.2.2.2.2
    unfold qTS at ht ⊢
    rw [show M' 105 = M 105 from funext fun j => e 105 j (by decide), show M' 106 = M 106 from funext fun j => e 106 j (by decide), e 97 7 (by decide)]
    exact ht
theorem qCI.same {M M' : zM} (h : qCI M) (e : ∀ r k, r < 97 → M' r k = M r k) : qCI M' := by
  refine ⟨fun r l c hm => ?_, ?_, ?_, ?_, fun r k hr hl => by rw [e r k hr]; exact h.rng r k hr hl, ?_⟩
  · have hz := qRTL_rz _ hm
    rw [e r 0 hz.2.2.1, e r 1 hz.2.2.1, e r 3 hz.2.2.1]; exact h.rows r l c hm
  · rw [e 72 3 (by decide)]; exact h.rk
  · rw [e 72 5 (by decide)]; exact h.um
  · rw [e 87 5 (by decide)]; exact h.pp
  · rw [e 4 1 (by decide), e 6 1 (by decide)]; exact h.st
theorem qFr.hi {g : List Nat} {M M' : zM} (h : qFr g M M') (hg : g.all (fun x => Nat.blt x 97) = true) : ∀ r k, 97 ≤ r → M' r k = M r k := fun r k hr => h r k (fun hm => by
  have := List.all_eq_true.mp hg r hm
  rw [Nat.blt_eq] at this
  omega)
theorem qFm.lo {g : List Nat} {M M' : zM} (h : qFm g M M') (hg : g.all (fun x => Nat.ble 97 x) = true) : ∀ r k, r < 97 → M' r k = M r k := fun r k hr => h r k (fun hm => by
  have := List.all_eq_true.mp hg _ hm
  rw [Nat.ble_eq] at this
  simp only [qCd, if_neg (show r ≠ 97 by omega)] at this
  omega)
theorem qFr.fre {g : List Nat} {M M' : zM} (h : qFr g M M') (hg : g.all hFree = true) : ∀ r, (r = 8 ∨ (9 ≤ r ∧ r ≤ 59 ∧ r ≠ 20 ∧ r ≠ 37 ∧ r ≠ 54)) → M' r = M r := fun r hr => funext fun k => h r k (fun hm => by
  have := List.all_eq_true.mp hg r hm
  simp only [hFree, Bool.or_eq_true, Nat.blt_eq, Nat.beq_eq] at this
  omega)
theorem qFr.fr9 {g : List Nat} {M M' : zM} (h : qFr g M M') (hg : g.all hFre9 = true) : ∀ r, (r = 8 ∨ (26 ≤ r ∧ r ≤ 59)) → M' r = M r := fun r hr => funext fun k => h r k (fun hm => by
  have := List.all_eq_true.mp hg r hm
  simp only [hFre9, Bool.or_eq_true, Bool.and_eq_true, Nat.blt_eq, Nat.beq_eq] at this
  omega)
theorem qJ.cls {g : List Nat} {M M' : zM} (h : qJ M) (hc : qCI M') (hf : qFr g M M') (hg : g.all (fun x => Nat.blt x 97) = true) (hg2 : g.all hFree = true) : qJ M' := by
  have hi := hf.hi hg
  have e := hf.fre hg2
  obtain ⟨h1, h2, h3, h4⟩ := h.2.2
  refine ⟨hc, h.2.1.same hi, ?_, ?_, ?_, ?_⟩
  · exact h1.fr (fun r hr => e r (by omega)) (fun j _ => hi 98 j (by decide))
  · rw [hi 100 0 (by decide)]; exact fun hk => (h2 hk).fr (fun r hr => e r (by omega)) (fun j _ => hi 99 _ (by decide))
  · rw [hi 100 1 (by decide)]; exact fun hk => (h3 hk).fr (fun r hr => e r (by omega)) (fun j _ => hi 99 _ (by decide))
  · rw [hi 100 0 (by decide), hi 100 1 (by decide), e 8 (by omega)]; exact h4
theorem qJ.mdl {g : List Nat} {M M' : zM} (h : qJ M) (hm : qMI M') (hf : qFm g M M') (hg : g.all (fun x => Nat.ble 97 x) = true) (hg2 : 99 ∉ g ∧ 100 ∉ g) (h9 : ∀ j, j < 5664 → M' 98 j = M 98 j) : qJ M' := by
  have lo := hf.lo hg
  have e : ∀ r, r < 97 → M' r = M r := fun r hr => funext fun k => lo r k hr
  have e99 : ∀ j, M' 99 j = M 99 j := fun j => hf.ar 99 j (by decide) hg2.1
  obtain ⟨h1, h2, h3, h4⟩ := h.2.2
  refine ⟨h.1.same lo, hm, ?_, ?_, ?_, ?_⟩
  · exact h1.fr (fun r hr => e r (by omega)) h9
  · rw [hf.ar 100 0 (by decide) hg2.2]; exact fun hk => (h2 hk).fr (fun r hr => e r (by omega)) (fun j _ => e99 _)
  · rw [hf.ar 100 1 (by decide) hg2.2]; exact fun hk => (h3 hk).fr (fun r hr => e r (by omega)) (fun j _ => e99 _)
  · rw [hf.ar 100 0 (by decide) hg2.2, hf.ar 100 1 (by decide) hg2.2, lo 8 3 (by decide)]; exact h4
theorem qJ.mut {g g2 : List Nat} {M M1 M2 : zM} (h : qJ M) (hc : qCI M1) (hf : qFr g M M1) (hg : g.all (fun x => Nat.blt x 97) = true) (hg3 : g.all hFre9 = true) (hm : qMI M2) (hf2 : qFm g2 M1 M2) (hg4 : g2.all (fun x => Nat.ble 97 x) = true) (hg2 : 99 ∉ g2 ∧ 100 ∉ g2) (hh : hHs M2 9 (M2 98)) : qJ M2 := by
  have hi := hf.hi hg
  have lo := hf2.lo hg4
  have e : ∀ r, (r = 8 ∨ (26 ≤ r ∧ r ≤ 59)) → M2 r = M r := fun r hr => (funext fun k => lo r k (by omega)).trans (hf.fr9 hg3 r hr)
  have e99 : ∀ j, M2 99 j = M 99 j := fun j => (hf2.ar 99 j (by decide) hg2.1).trans (hi 99 j (by decide))
  have e0 : ∀ j, M2 100 j = M 100 j := fun j => (hf2.ar 100 j (by decide) hg2.2).trans (hi 100 j (by decide))
  obtain ⟨h1, h2, h3, h4⟩ := h.2.2
  refine ⟨hc.same lo, hm, hh, ?_, ?_, ?_⟩
  · rw [e0]; exact fun hk => (h2 hk).fr (fun r hr => e r (by omega)) (fun j _ => e99 _)
  · rw [e0]; exact fun hk => (h3 hk).fr (fun r hr => e r (by omega)) (fun j _ => e99 _)
  · rw [e0, e0, e 8 (by omega)]; exact h4
theorem qCI.tb {M : zM} (h : qCI M) : hTb M := by
  have t := fun r l c hm => h.rows r l c hm
  exact ⟨⟨(t 10 14 4 (by decide)).1, (t 10 14 4 (by decide)).2.1⟩, ⟨(t 12 20 3 (by decide)).1, (t 12 20 3 (by decide)).2.1⟩, ⟨(t 14 4 2 (by decide)).1, (t 14 4 2 (by decide)).2.1⟩, ⟨(t 16 40 5 (by decide)).1, (t 16 40 5 (by decide)).2.1⟩, ⟨(t 18 250 11 (by decide)).1, (t 18 250 11 (by decide)).2.1⟩, ⟨(t 20 8 81 (by decide)).1, (t 20 8 81 (by decide)).2.1⟩, ⟨(t 22 10 164 (by decide)).1, (t 22 10 164 (by decide)).2.1⟩, ⟨(t 24 12 2 (by decide)).1, (t 24 12 2 (by decide)).2.1⟩⟩
theorem qMI.bd {M : zM} (h : qMI M) : hBd M := ⟨h.cnt0, h.cnt1, h.cnt2, h.cnt3, h.cnt4, h.cnt5, h.cnt6⟩
theorem qMI.tl {M : zM} (h : qMI M) : ∀ t : Nat, t < 8 → 0 ≤ M 98 (3350 + 81 * t) ∧ M 98 (3350 + 81 * t) ≤ 80 := fun t ht => by
  have q := h.txt (t : Int) (3350 + 81 * t) (by omega) rfl
  rw [show ((3350 : Int) + 81 * (t : Int)).toNat = 3350 + 81 * t by omega] at q
  exact q
def qX (M : zM) : Prop := xCon M ∧ pCon M
def qY (M : zM) : Prop := qJ M ∧ qX M ∧ qU M
theorem qX.cg {M M' : zM} (h : qX M) (e : ∀ r, (r < 8 ∨ r = 78) → M' r = M r) : qX M' := by
  obtain ⟨h1, h2⟩ := h
  refine ⟨?_, ?_⟩
  · unfold xCon at h1 ⊢
    rw [e 4 (by decide), e 6 (by decide), e 5 (by decide), e 7 (by decide), e 1 (by decide)]
    exact h1
  · unfold pCon at h2 ⊢
    rw [e 78 (by decide)]
    exact h2
def hNx (r : Nat) : Bool := Nat.blt 7 r && (Nat.blt r 78 || Nat.blt 78 r)
theorem qX.cls {g : List Nat} {M M' : zM} (h : qX M) (hf : qFr g M M') (hg : g.all hNx = true) : qX M' :=
  h.cg (fun r hr => funext fun k => hf r k (fun hm => by
    have := List.all_eq_true.mp hg r hm
    simp only [hNx, Bool.and_eq_true, Bool.or_eq_true, Nat.blt_eq] at this
    omega))
theorem qX.mdl {g : List Nat} {M M' : zM} (h : qX M) (hf : qFm g M M') (hg : g.all (fun x => Nat.ble 97 x) = true) : qX M' :=
  h.cg (fun r hr => funext fun k => hf.lo hg r k (by omega))
theorem qX.xp {M : zM} (h : qX M) (hJ : qJ M) (a : Int) (ha : 0 ≤ a ∧ a ≤ 7) : xP M a := by
  have t := fun r l c hm => hJ.1.rows r l c hm
  have h5 : hc5 (M 21) (M 98) := hJ.2.2.1.2.2.2.2.2.1
  have hb : hcB (M 21) := hJ.2.2.1.2.2.2.2.2.2.2.2.2.2.2
  exact ⟨hJ.2.1, h5, hJ.1.tb, h.1, ⟨(t 68 1 81 (by decide)).1, (t 68 1 81 (by decide)).2.1⟩, ha, fun j hj => by rw [← h5 j hj]; exact hb j hj⟩
theorem qJ.t70 {M : zM} (h : qJ M) : M 70 0 = 80 ∧ M 70 1 = 1 := by
  have t := fun r l c hm => h.1.rows r l c hm
  exact ⟨(t 70 80 1 (by decide)).1, (t 70 80 1 (by decide)).2.1⟩
theorem qJ.h9 {M : zM} (h : qJ M) : hc9 (M 22 3) (M 23) (M 98) := h.2.2.1.2.2.2.2.2.2.2.2.2.1
theorem qJ.hA {M : zM} (h : qJ M) : hcA (M 13) (M 98) := h.2.2.1.2.2.2.2.2.2.2.2.2.2.1
theorem qJ.hf {M : zM} (h : qJ M) : ∀ o : Nat, (o : Int) < M 98 5 → 0 ≤ M 98 (4162 + 164 * o) := fun o ho => (h.h9.2 o (by have := h.h9.1; omega) ho).2.1.1
theorem zlc_z {a b : Int} (h : a = b) : (if b < a then (1 : Int) else if a = b then 0 else -1) = 0 := by rw [h, if_neg (by omega), if_pos rfl]
theorem qJ.kp {M : zM} (h : qJ M) : kP M := by
  have t := fun r l c hm => h.1.rows r l c hm
  exact ⟨h.2.1, h.2.2.1, h.1.tb, ⟨(t 61 250 4 (by decide)).1, (t 61 250 4 (by decide)).2.1⟩, ⟨(t 63 280 4 (by decide)).1, (t 63 280 4 (by decide)).2.1⟩, ⟨(t 65 250 1 (by decide)).1, (t 65 250 1 (by decide)).2.1⟩⟩
theorem hm_165_0 {M : zM} {f : Nat → Int} (hC : qCI M) (h : hHs M 9 f) : (hf_165_8_L0 M).1 = 1 ∧ hHs (hf_165_8_L0 M).2 26 f ∧ (hf_165_8_L0 M).2 8 3 = zbor (M 8 3) (zbshl 1 0) ∧ ∀ i, (i < 26 ∨ 43 ≤ i) → i ≠ 8 → (hf_165_8_L0 M).2 i = M i := by
  obtain ⟨q1, ⟨u0, u1, u2, u3, u4, u5, u6, u7⟩, ⟨c0, c1, c2, c3, c4, c5, c6, c7⟩, d7, d8⟩ := hto_26_9 (M := M) ⟨(hC.rows 27 14 4 (by decide)).1, by have := (hC.rows 10 14 4 (by decide)).2.2.2; exact this⟩ ⟨(hC.rows 29 20 3 (by decide)).1, by have := (hC.rows 12 20 3 (by decide)).2.2.2; exact this⟩ ⟨(hC.rows 31 4 2 (by decide)).1, by have := (hC.rows 14 4 2 (by decide)).2.2.2; exact this⟩ ⟨(hC.rows 33 40 5 (by decide)).1, by have := (hC.rows 16 40 5 (by decide)).2.2.2; exact this⟩ ⟨(hC.rows 35 250 11 (by decide)).1, by have := (hC.rows 18 250 11 (by decide)).2.2.2; exact this⟩ ⟨(hC.rows 37 8 81 (by decide)).1, by have := (hC.rows 20 8 81 (by decide)).2.2.2; exact this⟩ ⟨(hC.rows 39 10 164 (by decide)).1, by have := (hC.rows 22 10 164 (by decide)).2.2.2; exact this⟩ ⟨(hC.rows 41 12 2 (by decide)).1, by have := (hC.rows 24 12 2 (by decide)).2.2.2; exact this⟩
  have e : hf_165_8_L0 M = (1, zput (hf_26_26_9 M) 8 3 (zbor (M 8 3) (zbshl 1 0))) := by
    unfold hf_165_8_L0
    rw [if_pos (by rw [hq_169]; omega), q1 8 (by omega)]
  rw [e]; dsimp only
  refine ⟨rfl, ?_, qput_eq, fun i hi h8 => (zput_oth h8).trans (q1 i hi)⟩
  refine h.cp (b' := 26) u0 u1 u2 u3 u4 u7 c0 c1 c2 c3 c4 c5 c7 d7 d8 (fun _ _ => rfl) u6 c6
theorem hm_166_0 {M : zM} {f : Nat → Int} (hC : qCI M) (h : hHs M 26 f) (hk : ¬ zband (zbshr (M 8 3) 0) 1 = 0) : (hf_166_8_L0 M).1 = 1 ∧ hHs (hf_166_8_L0 M).2 9 f ∧ ∀ i, (i < 9 ∨ 26 ≤ i) → (hf_166_8_L0 M).2 i = M i := by
  obtain ⟨q1, ⟨u0, u1, u2, u3, u4, u5, u6, u7⟩, ⟨c0, c1, c2, c3, c4, c5, c6, c7⟩, d7, d8⟩ := hto_9_26 (M := M) ⟨(hC.rows 10 14 4 (by decide)).1, by have := (hC.rows 27 14 4 (by decide)).2.2.2; exact this⟩ ⟨(hC.rows 12 20 3 (by decide)).1, by have := (hC.rows 29 20 3 (by decide)).2.2.2; exact this⟩ ⟨(hC.rows 14 4 2 (by decide)).1, by have := (hC.rows 31 4 2 (by decide)).2.2.2; exact this⟩ ⟨(hC.rows 16 40 5 (by decide)).1, by have := (hC.rows 33 40 5 (by decide)).2.2.2; exact this⟩ ⟨(hC.rows 18 250 11 (by decide)).1, by have := (hC.rows 35 250 11 (by decide)).2.2.2; exact this⟩ ⟨(hC.rows 20 8 81 (by decide)).1, by have := (hC.rows 37 8 81 (by decide)).2.2.2; exact this⟩ ⟨(hC.rows 22 10 164 (by decide)).1, by have := (hC.rows 39 10 164 (by decide)).2.2.2; exact this⟩ ⟨(hC.rows 24 12 2 (by decide)).1, by have := (hC.rows 41 12 2 (by decide)).2.2.2; exact this⟩
  have e : hf_166_8_L0 M = (1, hf_26_9_26 M) := by
    unfold hf_166_8_L0
    simp only [hq_169]
    (repeat' split) <;> first | omega | rfl
  rw [e]; dsimp only
  exact ⟨rfl, h.cp (b' := 9) u0 u1 u2 u3 u4 u7 c0 c1 c2 c3 c4 c5 c7 d7 d8 (fun _ _ => rfl) u6 c6, q1⟩
theorem hm_165_1 {M : zM} {f : Nat → Int} (hC : qCI M) (h : hHs M 9 f) : (hf_165_8_L1 M).1 = 1 ∧ hHs (hf_165_8_L1 M).2 43 f ∧ (hf_165_8_L1 M).2 8 3 = zbor (M 8 3) (zbshl 1 1) ∧ ∀ i, (i < 43 ∨ 60 ≤ i) → i ≠ 8 → (hf_165_8_L1 M).2 i = M i := by
  obtain ⟨q1, ⟨u0, u1, u2, u3, u4, u5, u6, u7⟩, ⟨c0, c1, c2, c3, c4, c5, c6, c7⟩, d7, d8⟩ := hto_43_9 (M := M) ⟨(hC.rows 44 14 4 (by decide)).1, by have := (hC.rows 10 14 4 (by decide)).2.2.2; exact this⟩ ⟨(hC.rows 46 20 3 (by decide)).1, by have := (hC.rows 12 20 3 (by decide)).2.2.2; exact this⟩ ⟨(hC.rows 48 4 2 (by decide)).1, by have := (hC.rows 14 4 2 (by decide)).2.2.2; exact this⟩ ⟨(hC.rows 50 40 5 (by decide)).1, by have := (hC.rows 16 40 5 (by decide)).2.2.2; exact this⟩ ⟨(hC.rows 52 250 11 (by decide)).1, by have := (hC.rows 18 250 11 (by decide)).2.2.2; exact this⟩ ⟨(hC.rows 54 8 81 (by decide)).1, by have := (hC.rows 20 8 81 (by decide)).2.2.2; exact this⟩ ⟨(hC.rows 56 10 164 (by decide)).1, by have := (hC.rows 22 10 164 (by decide)).2.2.2; exact this⟩ ⟨(hC.rows 58 12 2 (by decide)).1, by have := (hC.rows 24 12 2 (by decide)).2.2.2; exact this⟩
  have e : hf_165_8_L1 M = (1, zput (hf_26_43_9 M) 8 3 (zbor (M 8 3) (zbshl 1 1))) := by
    unfold hf_165_8_L1
    rw [if_pos (by rw [hq_169]; omega), q1 8 (by omega)]
  rw [e]; dsimp only
  refine ⟨rfl, ?_, qput_eq, fun i hi h8 => (zput_oth h8).trans (q1 i hi)⟩
  refine h.cp (b' := 43) u0 u1 u2 u3 u4 u7 c0 c1 c2 c3 c4 c5 c7 d7 d8 (fun _ _ => rfl) u6 c6
theorem hm_166_1 {M : zM} {f : Nat → Int} (hC : qCI M) (h : hHs M 43 f) (hk : ¬ zband (zbshr (M 8 3) 1) 1 = 0) : (hf_166_8_L1 M).1 = 1 ∧ hHs (hf_166_8_L1 M).2 9 f ∧ ∀ i, (i < 9 ∨ 26 ≤ i) → (hf_166_8_L1 M).2 i = M i := by
  obtain ⟨q1, ⟨u0, u1, u2, u3, u4, u5, u6, u7⟩, ⟨c0, c1, c2, c3, c4, c5, c6, c7⟩, d7, d8⟩ := hto_9_43 (M := M) ⟨(hC.rows 10 14 4 (by decide)).1, by have := (hC.rows 44 14 4 (by decide)).2.2.2; exact this⟩ ⟨(hC.rows 12 20 3 (by decide)).1, by have := (hC.rows 46 20 3 (by decide)).2.2.2; exact this⟩ ⟨(hC.rows 14 4 2 (by decide)).1, by have := (hC.rows 48 4 2 (by decide)).2.2.2; exact this⟩ ⟨(hC.rows 16 40 5 (by decide)).1, by have := (hC.rows 50 40 5 (by decide)).2.2.2; exact this⟩ ⟨(hC.rows 18 250 11 (by decide)).1, by have := (hC.rows 52 250 11 (by decide)).2.2.2; exact this⟩ ⟨(hC.rows 20 8 81 (by decide)).1, by have := (hC.rows 54 8 81 (by decide)).2.2.2; exact this⟩ ⟨(hC.rows 22 10 164 (by decide)).1, by have := (hC.rows 56 10 164 (by decide)).2.2.2; exact this⟩ ⟨(hC.rows 24 12 2 (by decide)).1, by have := (hC.rows 58 12 2 (by decide)).2.2.2; exact this⟩
  have e : hf_166_8_L1 M = (1, hf_26_9_43 M) := by
    unfold hf_166_8_L1
    simp only [hq_169]
    (repeat' split) <;> first | omega | rfl
  rw [e]; dsimp only
  exact ⟨rfl, h.cp (b' := 9) u0 u1 u2 u3 u4 u7 c0 c1 c2 c3 c4 c5 c7 d7 d8 (fun _ _ => rfl) u6 c6, q1⟩
def zSeg (code seg : List zE) : Prop := ∀ pc e, zat seg pc = some e → zat code pc = some e
theorem zat_app : ∀ (l1 l2 : List zE) (pc : Nat), zat (l1 ++ l2) pc = (match zat l1 pc with | some e => some e | none => zat l2 pc) := by
  intro l1 l2 pc
  induction l1 with
  | nil => rfl
  | cons a l ih =>
    have e1 : ∀ l', zat (a :: l') pc = (match Nat.beq a.1 pc with | true => some a | false => zat l' pc) := fun _ => rfl
    rw [List.cons_append, e1, e1]
    cases Nat.beq a.1 pc with
    | true => rfl
    | false => exact ih
theorem zat_no {l : List zE} {pc p0 : Nat} (h : l.all (fun e => Nat.blt e.1 p0) = true) (hp : p0 ≤ pc) : zat l pc = none := by
  induction l with
  | nil => rfl
  | cons a l ih =>
    rw [List.all_cons, Bool.and_eq_true, Nat.blt_eq] at h
    unfold zat
    have hb : Nat.beq a.1 pc = false := by
      cases hq : Nat.beq a.1 pc with
      | false => rfl
      | true => have := Nat.eq_of_beq_eq_true hq; omega
    rw [hb]
    exact ih h.2
theorem zat_lo {l : List zE} {pc p0 : Nat} {e : zE} (h : l.all (fun e => Nat.ble p0 e.1) = true) (he : zat l pc = some e) : p0 ≤ pc := by
  induction l with
  | nil => cases he
  | cons a l ih =>
    rw [List.all_cons, Bool.and_eq_true, Nat.ble_eq] at h
    unfold zat at he
    cases hq : Nat.beq a.1 pc with
    | true => have := Nat.eq_of_beq_eq_true hq; omega
    | false => rw [hq] at he; exact ih h.2 he
theorem zSeg_of {code seg : List zE} (n m p0 : Nat) (h1 : (code.take n).all (fun e => Nat.blt e.1 p0) = true) (h2 : (code.drop n).take m = seg) (h3 : seg.all (fun e => Nat.ble p0 e.1) = true) : zSeg code seg := by
  intro pc e he
  have hp := zat_lo h3 he
  rw [← List.take_append_drop n code, zat_app, zat_no h1 hp]
  dsimp only
  rw [← List.take_append_drop m (code.drop n), h2, zat_app, he]
theorem zsteps_seg {code seg : List zE} {B : Nat × Nat} (hs : zSeg code seg) : ∀ {k : Nat} {c : zC} {w : zW} {q : zC × zW}, zsteps seg B k c w = some q → zsteps code B k c w = some q := by
  intro k
  induction k with
  | zero => intro c w q h; exact h
  | succ k ih =>
    intro c w q h
    unfold zsteps at h ⊢
    cases he : zat seg c.1 with
    | none => rw [he] at h; cases h
    | some e =>
      rw [hs _ _ he]
      rw [he] at h
      dsimp only at h ⊢
      cases hz : zst true B e c.2.1 c.2.2 w with
      | none => rw [hz] at h; cases h
      | some o =>
        rw [hz] at h
        rcases o with ⟨c', w'⟩ | o
        · exact ih h
        · cases h
section LW
variable {n : Nat} {M : zM} {i : Int}
abbrev qLQ : Option zV → zM → Prop := fun v _ => v = some (.inl 1)
noncomputable def sg_0 : List zE := [(232, .aload_n ⟨1, zfin1⟩, 233, zx0),
  (233, .aload_n ⟨0, zfin0⟩, 234, zx0),
  (234, .iload_n ⟨3, zfin3⟩, 235, zx0),
  (235, .iconst 1, 236, zx0),
  (236, .iadd, 237, zx0),
  (237, .iaload, 238, zx0),
  (238, .aload_n ⟨0, zfin0⟩, 239, zx0),
  (239, .iload_n ⟨3, zfin3⟩, 240, zx0),
  (240, .iconst 2, 241, zx0),
  (241, .iadd, 242, zx0),
  (242, .iaload, 243, zx0),
  (243, .aload_n ⟨0, zfin0⟩, 244, zx0),
  (244, .iload_n ⟨3, zfin3⟩, 245, zx0),
  (245, .iconst 3, 246, zx0),
  (246, .iadd, 247, zx0),
  (247, .iaload, 248, zx0),
  (248, .aload_n ⟨0, zfin0⟩, 249, zx0),
  (249, .iload_n ⟨3, zfin3⟩, 250, zx0),
  (250, .iconst 4, 251, zx0),
  (251, .iadd, 252, zx0),
  (252, .iaload, 253, zx0),
  (253, .invokevirtual 13, 256, (123, 5, 0, [11])),
  (256, .pop, 257, zx0),
  (257, .aload_n ⟨2, zfin2⟩, 258, zx0),
  (258, .aload_n ⟨0, zfin0⟩, 259, zx0),
  (259, .iload_n ⟨3, zfin3⟩, 260, zx0),
  (260, .iconst 1, 261, zx0),
  (261, .iadd, 262, zx0),
  (262, .iaload, 263, zx0),
  (263, .aload_n ⟨0, zfin0⟩, 264, zx0),
  (264, .iload_n ⟨3, zfin3⟩, 265, zx0),
  (265, .iconst 2, 266, zx0),
  (266, .iadd, 267, zx0),
  (267, .iaload, 268, zx0),
  (268, .aload_n ⟨0, zfin0⟩, 269, zx0),
  (269, .iload_n ⟨3, zfin3⟩, 270, zx0),
  (270, .iconst 3, 271, zx0),
  (271, .iadd, 272, zx0),
  (272, .iaload, 273, zx0),
  (273, .aload_n ⟨0, zfin0⟩, 274, zx0),
  (274, .iload_n ⟨3, zfin3⟩, 275, zx0),
  (275, .iconst 4, 276, zx0),
  (276, .iadd, 277, zx0),
  (277, .iaload, 278, zx0),
  (278, .invokevirtual 17, 281, (187, 5, 0, [12])),
  (281, .pop, 282, zx0),
  (282, .goto (1876), 285, (2158, 0, 0, []))]
set_option maxRecDepth 100000 in
theorem sh_0 : zSeg zk_L_law sg_0 := zSeg_of 22 47 232 (by decide +kernel) rfl (by decide +kernel)
set_option maxRecDepth 100000 in
theorem qL_0 (hY : qY M) (hn : n ≤ 4096) (hi : 0 ≤ i ∧ i + 8 ≤ n) (K : ∀ M', qY M' → zG n (114, 4080270) 300 311 (2158, [zR 0, zR 8, zR 97, .inl i], []) M' qLQ) : zG n (114, 4080270) 300 311 (232, [zR 0, zR 8, zR 97, .inl i], []) M qLQ := by
  have hz := zp_311
  have hg := sh_0
  have hJ := hY.1
  have hX := hY.2.1
  have hU := hY.2.2
  refine zG_blk (c' := (237, [zR 0, zR 8, zR 97, .inl i], [.inl (i + 1), zR 0, zR 8])) 5 (by decide) hz (zsteps_seg hg (by rw [show (.inl (i + 1) : zV) = .inl (w32 (i + 1)) from by rw [w32_id (by omega)]]; rfl)) ?_
  refine zG_iald (by decide) hz (hg _ _ rfl) rfl (.inr rfl) (by omega) ?_
  obtain ⟨x1, hx1⟩ : ∃ x : Int, x = M 0 (i + 1).toNat := ⟨_, rfl⟩
  rw [← hx1]
  have hr1 : qin x1 := by rw [hx1]; exact hJ.1.rng 0 _ (by decide) (by decide)
  show zG n (114, 4080270) 300 311 (238, [zR 0, zR 8, zR 97, .inl i], [.inl x1, zR 8]) M _
  refine zG_blk (c' := (242, [zR 0, zR 8, zR 97, .inl i], [.inl (i + 2), zR 0, .inl x1, zR 8])) 4 (by decide) hz (zsteps_seg hg (by rw [show (.inl (i + 2) : zV) = .inl (w32 (i + 2)) from by rw [w32_id (by omega)]]; rfl)) ?_
  refine zG_iald (by decide) hz (hg _ _ rfl) rfl (.inr rfl) (by omega) ?_
  obtain ⟨x2, hx2⟩ : ∃ x : Int, x = M 0 (i + 2).toNat := ⟨_, rfl⟩
  rw [← hx2]
  have hr2 : qin x2 := by rw [hx2]; exact hJ.1.rng 0 _ (by decide) (by decide)
  show zG n (114, 4080270) 300 311 (243, [zR 0, zR 8, zR 97, .inl i], [.inl x2, .inl x1, zR 8]) M _
  refine zG_blk (c' := (247, [zR 0, zR 8, zR 97, .inl i], [.inl (i + 3), zR 0, .inl x2, .inl x1, zR 8])) 4 (by decide) hz (zsteps_seg hg (by rw [show (.inl (i + 3) : zV) = .inl (w32 (i + 3)) from by rw [w32_id (by omega)]]; rfl)) ?_
  refine zG_iald (by decide) hz (hg _ _ rfl) rfl (.inr rfl) (by omega) ?_
  obtain ⟨x3, hx3⟩ : ∃ x : Int, x = M 0 (i + 3).toNat := ⟨_, rfl⟩
  rw [← hx3]
  have hr3 : qin x3 := by rw [hx3]; exact hJ.1.rng 0 _ (by decide) (by decide)
  show zG n (114, 4080270) 300 311 (248, [zR 0, zR 8, zR 97, .inl i], [.inl x3, .inl x2, .inl x1, zR 8]) M _
  refine zG_blk (c' := (252, [zR 0, zR 8, zR 97, .inl i], [.inl (i + 4), zR 0, .inl x3, .inl x2, .inl x1, zR 8])) 4 (by decide) hz (zsteps_seg hg (by rw [show (.inl (i + 4) : zV) = .inl (w32 (i + 4)) from by rw [w32_id (by omega)]]; rfl)) ?_
  refine zG_iald (by decide) hz (hg _ _ rfl) rfl (.inr rfl) (by omega) ?_
  obtain ⟨x4, hx4⟩ : ∃ x : Int, x = M 0 (i + 4).toNat := ⟨_, rfl⟩
  rw [← hx4]
  have hr4 : qin x4 := by rw [hx4]; exact hJ.1.rng 0 _ (by decide) (by decide)
  show zG n (114, 4080270) 300 311 (253, [zR 0, zR 8, zR 97, .inl i], [.inl x4, .inl x3, .inl x2, .inl x1, zR 8]) M _
  refine zG_call (by decide) hz zp_123 (hg _ _ rfl) rfl (Nat.le_of_ble_eq_true rfl) ⟨Nat.le_of_ble_eq_true rfl, Nat.le_of_ble_eq_true rfl⟩ (zG.andH (qm_123_8 (by decide) hJ.1 x1 (by omega) x2 (by omega) x3 (by omega) x4 (by omega)) (fh_123_8 x1 x2 x3 x4)) (fun vr M1 hr => ?_)
  obtain ⟨⟨⟨hC1, hF1⟩, -⟩, rfl, hM1⟩ := hr
  have hi := hF1.hi rfl
  have hI := hJ.2.1.same hi
  have hc0 : ∀ j, M1 0 j = M 0 j := fun j => hF1 0 j (by decide)
  have hX1 : qX M1 := hX.cls hF1 rfl; have hU1 : qU M1 := hU.cg (hF1.hi rfl)
  show zG n (114, 4080270) 300 311 (256, [zR 0, zR 8, zR 97, .inl i], [.inl (hf_123_8 M x1 x2 x3 x4).1]) M1 _
  refine zG_blk (c' := (262, [zR 0, zR 8, zR 97, .inl i], [.inl (i + 1), zR 0, zR 97])) 6 (by decide) hz (zsteps_seg hg (by rw [show (.inl (i + 1) : zV) = .inl (w32 (i + 1)) from by rw [w32_id (by omega)]]; rfl)) ?_
  refine zG_iald (by decide) hz (hg _ _ rfl) rfl (.inr rfl) (by omega) ?_
  rw [show M1 0 (i + 1).toNat = x1 from (hc0 _).trans hx1.symm]
  show zG n (114, 4080270) 300 311 (263, [zR 0, zR 8, zR 97, .inl i], [.inl x1, zR 97]) M1 _
  refine zG_blk (c' := (267, [zR 0, zR 8, zR 97, .inl i], [.inl (i + 2), zR 0, .inl x1, zR 97])) 4 (by decide) hz (zsteps_seg hg (by rw [show (.inl (i + 2) : zV) = .inl (w32 (i + 2)) from by rw [w32_id (by omega)]]; rfl)) ?_
  refine zG_iald (by decide) hz (hg _ _ rfl) rfl (.inr rfl) (by omega) ?_
  rw [show M1 0 (i + 2).toNat = x2 from (hc0 _).trans hx2.symm]
  show zG n (114, 4080270) 300 311 (268, [zR 0, zR 8, zR 97, .inl i], [.inl x2, .inl x1, zR 97]) M1 _
  refine zG_blk (c' := (272, [zR 0, zR 8, zR 97, .inl i], [.inl (i + 3), zR 0, .inl x2, .inl x1, zR 97])) 4 (by decide) hz (zsteps_seg hg (by rw [show (.inl (i + 3) : zV) = .inl (w32 (i + 3)) from by rw [w32_id (by omega)]]; rfl)) ?_
  refine zG_iald (by decide) hz (hg _ _ rfl) rfl (.inr rfl) (by omega) ?_
  rw [show M1 0 (i + 3).toNat = x3 from (hc0 _).trans hx3.symm]
  show zG n (114, 4080270) 300 311 (273, [zR 0, zR 8, zR 97, .inl i], [.inl x3, .inl x2, .inl x1, zR 97]) M1 _
  refine zG_blk (c' := (277, [zR 0, zR 8, zR 97, .inl i], [.inl (i + 4), zR 0, .inl x3, .inl x2, .inl x1, zR 97])) 4 (by decide) hz (zsteps_seg hg (by rw [show (.inl (i + 4) : zV) = .inl (w32 (i + 4)) from by rw [w32_id (by omega)]]; rfl)) ?_
  refine zG_iald (by decide) hz (hg _ _ rfl) rfl (.inr rfl) (by omega) ?_
  rw [show M1 0 (i + 4).toNat = x4 from (hc0 _).trans hx4.symm]
  show zG n (114, 4080270) 300 311 (278, [zR 0, zR 8, zR 97, .inl i], [.inl x4, .inl x3, .inl x2, .inl x1, zR 97]) M1 _
  refine zG_call (by decide) hz zp_187 (hg _ _ rfl) rfl (Nat.le_of_ble_eq_true rfl) ⟨Nat.le_of_ble_eq_true rfl, Nat.le_of_ble_eq_true rfl⟩ (zG.andH (qm_187_97 (by decide) hI x1 (by omega) x2 (by omega) x3 (by omega) x4 (by omega)) (fh_187_97 x1 x2 x3 x4)) (fun vr M2 hr => ?_)
  obtain ⟨⟨⟨hC2, hF2⟩, -⟩, rfl, hM2⟩ := hr
  have hm := hm_123 hJ.2.2.1 hJ.1.tb hJ.2.1.bd (a1 := x1) (a2 := x2) (a3 := x3) (a4 := x4)
  rw [← hM1] at hm
  rw [← hM2] at hm
  have hJ2 : qJ M2 := hJ.mut hC1 hF1 rfl rfl hC2 hF2 rfl (by decide) hm.2
  have hX2 : qX M2 := hX1.mdl hF2 rfl
  have hU2 : qU M2 := hU.crs hJ.2.2.1 hJ.1.tb hJ.2.1.bd (by rw [hM2, hM1]) ((hF2.fn 99 (by decide) (by decide)).trans (funext fun j => hi 99 j (by decide))) ((hF2.fn 100 (by decide) (by decide)).trans (funext fun j => hi 100 j (by decide)))
  show zG n (114, 4080270) 300 311 (281, [zR 0, zR 8, zR 97, .inl i], [.inl (hf_187_97 M1 x1 x2 x3 x4).1]) M2 _
  refine zG_blk (c' := (2158, [zR 0, zR 8, zR 97, .inl i], [])) 2 (by decide) hz (zsteps_seg hg rfl) ?_
  exact K M2 ⟨hJ2, hX2, hU2⟩
noncomputable def sg_1 : List zE := [(285, .aload_n ⟨1, zfin1⟩, 286, zx0),
  (286, .aload_n ⟨0, zfin0⟩, 287, zx0),
  (287, .iload_n ⟨3, zfin3⟩, 288, zx0),
  (288, .iconst 1, 289, zx0),
  (289, .iadd, 290, zx0),
  (290, .iaload, 291, zx0),
  (291, .invokevirtual 18, 294, (124, 2, 0, [11])),
  (294, .pop, 295, zx0),
  (295, .aload_n ⟨2, zfin2⟩, 296, zx0),
  (296, .aload_n ⟨0, zfin0⟩, 297, zx0),
  (297, .iload_n ⟨3, zfin3⟩, 298, zx0),
  (298, .iconst 1, 299, zx0),
  (299, .iadd, 300, zx0),
  (300, .iaload, 301, zx0),
  (301, .invokevirtual 22, 304, (188, 2, 0, [12])),
  (304, .pop, 305, zx0),
  (305, .goto (1853), 308, (2158, 0, 0, []))]
set_option maxRecDepth 100000 in
theorem sh_1 : zSeg zk_L_law sg_1 := zSeg_of 69 17 285 (by decide +kernel) rfl (by decide +kernel)
set_option maxRecDepth 100000 in
theorem qL_1 (hY : qY M) (hn : n ≤ 4096) (hi : 0 ≤ i ∧ i + 8 ≤ n) (K : ∀ M', qY M' → zG n (114, 4080270) 300 311 (2158, [zR 0, zR 8, zR 97, .inl i], []) M' qLQ) : zG n (114, 4080270) 300 311 (285, [zR 0, zR 8, zR 97, .inl i], []) M qLQ := by
  have hz := zp_311
  have hg := sh_1
  have hJ := hY.1
  have hX := hY.2.1
  have hU := hY.2.2
  refine zG_blk (c' := (290, [zR 0, zR 8, zR 97, .inl i], [.inl (i + 1), zR 0, zR 8])) 5 (by decide) hz (zsteps_seg hg (by rw [show (.inl (i + 1) : zV) = .inl (w32 (i + 1)) from by rw [w32_id (by omega)]]; rfl)) ?_
  refine zG_iald (by decide) hz (hg _ _ rfl) rfl (.inr rfl) (by omega) ?_
  obtain ⟨x1, hx1⟩ : ∃ x : Int, x = M 0 (i + 1).toNat := ⟨_, rfl⟩
  rw [← hx1]
  have hr1 : qin x1 := by rw [hx1]; exact hJ.1.rng 0 _ (by decide) (by decide)
  show zG n (114, 4080270) 300 311 (291, [zR 0, zR 8, zR 97, .inl i], [.inl x1, zR 8]) M _
  refine zG_call (by decide) hz zp_124 (hg _ _ rfl) rfl (Nat.le_of_ble_eq_true rfl) ⟨Nat.le_of_ble_eq_true rfl, Nat.le_of_ble_eq_true rfl⟩ (zG.andH (qm_124_8 (by decide) hJ.1 x1 (by omega)) (fh_124_8 x1)) (fun vr M1 hr => ?_)
  obtain ⟨⟨⟨hC1, hF1⟩, -⟩, rfl, hM1⟩ := hr
  have hi := hF1.hi rfl
  have hI := hJ.2.1.same hi
  have hc0 : ∀ j, M1 0 j = M 0 j := fun j => hF1 0 j (by decide)
  have hX1 : qX M1 := hX.cls hF1 rfl; have hU1 : qU M1 := hU.cg (hF1.hi rfl)
  show zG n (114, 4080270) 300 311 (294, [zR 0, zR 8, zR 97, .inl i], [.inl (hf_124_8 M x1).1]) M1 _
  refine zG_blk (c' := (300, [zR 0, zR 8, zR 97, .inl i], [.inl (i + 1), zR 0, zR 97])) 6 (by decide) hz (zsteps_seg hg (by rw [show (.inl (i + 1) : zV) = .inl (w32 (i + 1)) from by rw [w32_id (by omega)]]; rfl)) ?_
  refine zG_iald (by decide) hz (hg _ _ rfl) rfl (.inr rfl) (by omega) ?_
  rw [show M1 0 (i + 1).toNat = x1 from (hc0 _).trans hx1.symm]
  show zG n (114, 4080270) 300 311 (301, [zR 0, zR 8, zR 97, .inl i], [.inl x1, zR 97]) M1 _
  refine zG_call (by decide) hz zp_188 (hg _ _ rfl) rfl (Nat.le_of_ble_eq_true rfl) ⟨Nat.le_of_ble_eq_true rfl, Nat.le_of_ble_eq_true rfl⟩ (zG.andH (qm_188_97 (by decide) hI x1 (by omega)) (fh_188_97 x1)) (fun vr M2 hr => ?_)
  obtain ⟨⟨⟨hC2, hF2⟩, -⟩, rfl, hM2⟩ := hr
  have hm := hm_124 hJ.2.2.1 hJ.1.tb hJ.2.1.bd (a1 := x1)
  rw [← hM1] at hm
  rw [← hM2] at hm
  have hJ2 : qJ M2 := hJ.mut hC1 hF1 rfl rfl hC2 hF2 rfl (by decide) hm.2
  have hX2 : qX M2 := hX1.mdl hF2 rfl
  have hU2 : qU M2 := hU1.f9 (wSm.mut hJ.2.2.1 hJ2.2.2.1 hJ.2.1.cnt0 hF1 rfl (hF2.lo rfl)) hF2 rfl
  show zG n (114, 4080270) 300 311 (304, [zR 0, zR 8, zR 97, .inl i], [.inl (hf_188_97 M1 x1).1]) M2 _
  refine zG_blk (c' := (2158, [zR 0, zR 8, zR 97, .inl i], [])) 2 (by decide) hz (zsteps_seg hg rfl) ?_
  exact K M2 ⟨hJ2, hX2, hU2⟩
noncomputable def sg_2 : List zE := [(308, .aload_n ⟨1, zfin1⟩, 309, zx0),
  (309, .aload_n ⟨0, zfin0⟩, 310, zx0),
  (310, .iload_n ⟨3, zfin3⟩, 311, zx0),
  (311, .iconst 1, 312, zx0),
  (312, .iadd, 313, zx0),
  (313, .iaload, 314, zx0),
  (314, .aload_n ⟨0, zfin0⟩, 315, zx0),
  (315, .iload_n ⟨3, zfin3⟩, 316, zx0),
  (316, .iconst 2, 317, zx0),
  (317, .iadd, 318, zx0),
  (318, .iaload, 319, zx0),
  (319, .invokevirtual 23, 322, (125, 3, 0, [11])),
  (322, .pop, 323, zx0),
  (323, .aload_n ⟨2, zfin2⟩, 324, zx0),
  (324, .aload_n ⟨0, zfin0⟩, 325, zx0),
  (325, .iload_n ⟨3, zfin3⟩, 326, zx0),
  (326, .iconst 1, 327, zx0),
  (327, .iadd, 328, zx0),
  (328, .iaload, 329, zx0),
  (329, .aload_n ⟨0, zfin0⟩, 330, zx0),
  (330, .iload_n ⟨3, zfin3⟩, 331, zx0),
  (331, .iconst 2, 332, zx0),
  (332, .iadd, 333, zx0),
  (333, .iaload, 334, zx0),
  (334, .invokevirtual 27, 337, (189, 3, 0, [12])),
  (337, .pop, 338, zx0),
  (338, .goto (1820), 341, (2158, 0, 0, []))]
set_option maxRecDepth 100000 in
theorem sh_2 : zSeg zk_L_law sg_2 := zSeg_of 86 27 308 (by decide +kernel) rfl (by decide +kernel)
set_option maxRecDepth 100000 in
theorem qL_2 (hY : qY M) (hn : n ≤ 4096) (hi : 0 ≤ i ∧ i + 8 ≤ n) (K : ∀ M', qY M' → zG n (114, 4080270) 300 311 (2158, [zR 0, zR 8, zR 97, .inl i], []) M' qLQ) : zG n (114, 4080270) 300 311 (308, [zR 0, zR 8, zR 97, .inl i], []) M qLQ := by
  have hz := zp_311
  have hg := sh_2
  have hJ := hY.1
  have hX := hY.2.1
  have hU := hY.2.2
  refine zG_blk (c' := (313, [zR 0, zR 8, zR 97, .inl i], [.inl (i + 1), zR 0, zR 8])) 5 (by decide) hz (zsteps_seg hg (by rw [show (.inl (i + 1) : zV) = .inl (w32 (i + 1)) from by rw [w32_id (by omega)]]; rfl)) ?_
  refine zG_iald (by decide) hz (hg _ _ rfl) rfl (.inr rfl) (by omega) ?_
  obtain ⟨x1, hx1⟩ : ∃ x : Int, x = M 0 (i + 1).toNat := ⟨_, rfl⟩
  rw [← hx1]
  have hr1 : qin x1 := by rw [hx1]; exact hJ.1.rng 0 _ (by decide) (by decide)
  show zG n (114, 4080270) 300 311 (314, [zR 0, zR 8, zR 97, .inl i], [.inl x1, zR 8]) M _
  refine zG_blk (c' := (318, [zR 0, zR 8, zR 97, .inl i], [.inl (i + 2), zR 0, .inl x1, zR 8])) 4 (by decide) hz (zsteps_seg hg (by rw [show (.inl (i + 2) : zV) = .inl (w32 (i + 2)) from by rw [w32_id (by omega)]]; rfl)) ?_
  refine zG_iald (by decide) hz (hg _ _ rfl) rfl (.inr rfl) (by omega) ?_
  obtain ⟨x2, hx2⟩ : ∃ x : Int, x = M 0 (i + 2).toNat := ⟨_, rfl⟩
  rw [← hx2]
  have hr2 : qin x2 := by rw [hx2]; exact hJ.1.rng 0 _ (by decide) (by decide)
  show zG n (114, 4080270) 300 311 (319, [zR 0, zR 8, zR 97, .inl i], [.inl x2, .inl x1, zR 8]) M _
  refine zG_call (by decide) hz zp_125 (hg _ _ rfl) rfl (Nat.le_of_ble_eq_true rfl) ⟨Nat.le_of_ble_eq_true rfl, Nat.le_of_ble_eq_true rfl⟩ (zG.andH (qm_125_8 (by decide) hJ.1 x1 (by omega) x2 (by omega)) (fh_125_8 x1 x2)) (fun vr M1 hr => ?_)
  obtain ⟨⟨⟨hC1, hF1⟩, -⟩, rfl, hM1⟩ := hr
  have hi := hF1.hi rfl
  have hI := hJ.2.1.same hi
  have hc0 : ∀ j, M1 0 j = M 0 j := fun j => hF1 0 j (by decide)
  have hX1 : qX M1 := hX.cls hF1 rfl; have hU1 : qU M1 := hU.cg (hF1.hi rfl)
  show zG n (114, 4080270) 300 311 (322, [zR 0, zR 8, zR 97, .inl i], [.inl (hf_125_8 M x1 x2).1]) M1 _
  refine zG_blk (c' := (328, [zR 0, zR 8, zR 97, .inl i], [.inl (i + 1), zR 0, zR 97])) 6 (by decide) hz (zsteps_seg hg (by rw [show (.inl (i + 1) : zV) = .inl (w32 (i + 1)) from by rw [w32_id (by omega)]]; rfl)) ?_
  refine zG_iald (by decide) hz (hg _ _ rfl) rfl (.inr rfl) (by omega) ?_
  rw [show M1 0 (i + 1).toNat = x1 from (hc0 _).trans hx1.symm]
  show zG n (114, 4080270) 300 311 (329, [zR 0, zR 8, zR 97, .inl i], [.inl x1, zR 97]) M1 _
  refine zG_blk (c' := (333, [zR 0, zR 8, zR 97, .inl i], [.inl (i + 2), zR 0, .inl x1, zR 97])) 4 (by decide) hz (zsteps_seg hg (by rw [show (.inl (i + 2) : zV) = .inl (w32 (i + 2)) from by rw [w32_id (by omega)]]; rfl)) ?_
  refine zG_iald (by decide) hz (hg _ _ rfl) rfl (.inr rfl) (by omega) ?_
  rw [show M1 0 (i + 2).toNat = x2 from (hc0 _).trans hx2.symm]
  show zG n (114, 4080270) 300 311 (334, [zR 0, zR 8, zR 97, .inl i], [.inl x2, .inl x1, zR 97]) M1 _
  refine zG_call (by decide) hz zp_189 (hg _ _ rfl) rfl (Nat.le_of_ble_eq_true rfl) ⟨Nat.le_of_ble_eq_true rfl, Nat.le_of_ble_eq_true rfl⟩ (zG.andH (qm_189_97 (by decide) hI x1 (by omega) x2 (by omega)) (fh_189_97 x1 x2)) (fun vr M2 hr => ?_)
  obtain ⟨⟨⟨hC2, hF2⟩, -⟩, rfl, hM2⟩ := hr
  have hm := hm_125 hJ.2.2.1 hJ.1.tb hJ.2.1.bd (a1 := x1) (a2 := x2)
  rw [← hM1] at hm
  rw [← hM2] at hm
  have hJ2 : qJ M2 := hJ.mut hC1 hF1 rfl rfl hC2 hF2 rfl (by decide) hm.2
  have hX2 : qX M2 := hX1.mdl hF2 rfl
  have hU2 : qU M2 := hU1.f9 (wSm.mut hJ.2.2.1 hJ2.2.2.1 hJ.2.1.cnt0 hF1 rfl (hF2.lo rfl)) hF2 rfl
  show zG n (114, 4080270) 300 311 (337, [zR 0, zR 8, zR 97, .inl i], [.inl (hf_189_97 M1 x1 x2).1]) M2 _
  refine zG_blk (c' := (2158, [zR 0, zR 8, zR 97, .inl i], [])) 2 (by decide) hz (zsteps_seg hg rfl) ?_
  exact K M2 ⟨hJ2, hX2, hU2⟩
noncomputable def sg_3 : List zE := [(341, .aload_n ⟨1, zfin1⟩, 342, zx0),
  (342, .aload_n ⟨0, zfin0⟩, 343, zx0),
  (343, .iload_n ⟨3, zfin3⟩, 344, zx0),
  (344, .iconst 1, 345, zx0),
  (345, .iadd, 346, zx0),
  (346, .iaload, 347, zx0),
  (347, .aload_n ⟨0, zfin0⟩, 348, zx0),
  (348, .iload_n ⟨3, zfin3⟩, 349, zx0),
  (349, .iconst 2, 350, zx0),
  (350, .iadd, 351, zx0),
  (351, .iaload, 352, zx0),
  (352, .aload_n ⟨0, zfin0⟩, 353, zx0),
  (353, .iload_n ⟨3, zfin3⟩, 354, zx0),
  (354, .iconst 3, 355, zx0),
  (355, .iadd, 356, zx0),
  (356, .iaload, 357, zx0),
  (357, .aload_n ⟨0, zfin0⟩, 358, zx0),
  (358, .iload_n ⟨3, zfin3⟩, 359, zx0),
  (359, .iconst 4, 360, zx0),
  (360, .iadd, 361, zx0),
  (361, .iaload, 362, zx0),
  (362, .invokevirtual 28, 365, (126, 5, 0, [11])),
  (365, .pop, 366, zx0),
  (366, .aload_n ⟨2, zfin2⟩, 367, zx0),
  (367, .aload_n ⟨0, zfin0⟩, 368, zx0),
  (368, .iload_n ⟨3, zfin3⟩, 369, zx0),
  (369, .iconst 1, 370, zx0),
  (370, .iadd, 371, zx0),
  (371, .iaload, 372, zx0),
  (372, .aload_n ⟨0, zfin0⟩, 373, zx0),
  (373, .iload_n ⟨3, zfin3⟩, 374, zx0),
  (374, .iconst 2, 375, zx0),
  (375, .iadd, 376, zx0),
  (376, .iaload, 377, zx0),
  (377, .aload_n ⟨0, zfin0⟩, 378, zx0),
  (378, .iload_n ⟨3, zfin3⟩, 379, zx0),
  (379, .iconst 3, 380, zx0),
  (380, .iadd, 381, zx0),
  (381, .iaload, 382, zx0),
  (382, .aload_n ⟨0, zfin0⟩, 383, zx0),
  (383, .iload_n ⟨3, zfin3⟩, 384, zx0),
  (384, .iconst 4, 385, zx0),
  (385, .iadd, 386, zx0),
  (386, .iaload, 387, zx0),
  (387, .invokevirtual 31, 390, (190, 5, 0, [12])),
  (390, .pop, 391, zx0),
  (391, .goto (1767), 394, (2158, 0, 0, []))]
set_option maxRecDepth 100000 in
theorem sh_3 : zSeg zk_L_law sg_3 := zSeg_of 113 47 341 (by decide +kernel) rfl (by decide +kernel)
set_option maxRecDepth 100000 in
theorem qL_3 (hY : qY M) (hn : n ≤ 4096) (hi : 0 ≤ i ∧ i + 8 ≤ n) (K : ∀ M', qY M' → zG n (114, 4080270) 300 311 (2158, [zR 0, zR 8, zR 97, .inl i], []) M' qLQ) : zG n (114, 4080270) 300 311 (341, [zR 0, zR 8, zR 97, .inl i], []) M qLQ := by
  have hz := zp_311
  have hg := sh_3
  have hJ := hY.1
  have hX := hY.2.1
  have hU := hY.2.2
  refine zG_blk (c' := (346, [zR 0, zR 8, zR 97, .inl i], [.inl (i + 1), zR 0, zR 8])) 5 (by decide) hz (zsteps_seg hg (by rw [show (.inl (i + 1) : zV) = .inl (w32 (i + 1)) from by rw [w32_id (by omega)]]; rfl)) ?_
  refine zG_iald (by decide) hz (hg _ _ rfl) rfl (.inr rfl) (by omega) ?_
  obtain ⟨x1, hx1⟩ : ∃ x : Int, x = M 0 (i + 1).toNat := ⟨_, rfl⟩
  rw [← hx1]
  have hr1 : qin x1 := by rw [hx1]; exact hJ.1.rng 0 _ (by decide) (by decide)
  show zG n (114, 4080270) 300 311 (347, [zR 0, zR 8, zR 97, .inl i], [.inl x1, zR 8]) M _
  refine zG_blk (c' := (351, [zR 0, zR 8, zR 97, .inl i], [.inl (i + 2), zR 0, .inl x1, zR 8])) 4 (by decide) hz (zsteps_seg hg (by rw [show (.inl (i + 2) : zV) = .inl (w32 (i + 2)) from by rw [w32_id (by omega)]]; rfl)) ?_
  refine zG_iald (by decide) hz (hg _ _ rfl) rfl (.inr rfl) (by omega) ?_
  obtain ⟨x2, hx2⟩ : ∃ x : Int, x = M 0 (i + 2).toNat := ⟨_, rfl⟩
  rw [← hx2]
  have hr2 : qin x2 := by rw [hx2]; exact hJ.1.rng 0 _ (by decide) (by decide)
  show zG n (114, 4080270) 300 311 (352, [zR 0, zR 8, zR 97, .inl i], [.inl x2, .inl x1, zR 8]) M _
  refine zG_blk (c' := (356, [zR 0, zR 8, zR 97, .inl i], [.inl (i + 3), zR 0, .inl x2, .inl x1, zR 8])) 4 (by decide) hz (zsteps_seg hg (by rw [show (.inl (i + 3) : zV) = .inl (w32 (i + 3)) from by rw [w32_id (by omega)]]; rfl)) ?_
  refine zG_iald (by decide) hz (hg _ _ rfl) rfl (.inr rfl) (by omega) ?_
  obtain ⟨x3, hx3⟩ : ∃ x : Int, x = M 0 (i + 3).toNat := ⟨_, rfl⟩
  rw [← hx3]
  have hr3 : qin x3 := by rw [hx3]; exact hJ.1.rng 0 _ (by decide) (by decide)
  show zG n (114, 4080270) 300 311 (357, [zR 0, zR 8, zR 97, .inl i], [.inl x3, .inl x2, .inl x1, zR 8]) M _
  refine zG_blk (c' := (361, [zR 0, zR 8, zR 97, .inl i], [.inl (i + 4), zR 0, .inl x3, .inl x2, .inl x1, zR 8])) 4 (by decide) hz (zsteps_seg hg (by rw [show (.inl (i + 4) : zV) = .inl (w32 (i + 4)) from by rw [w32_id (by omega)]]; rfl)) ?_
  refine zG_iald (by decide) hz (hg _ _ rfl) rfl (.inr rfl) (by omega) ?_
  obtain ⟨x4, hx4⟩ : ∃ x : Int, x = M 0 (i + 4).toNat := ⟨_, rfl⟩
  rw [← hx4]
  have hr4 : qin x4 := by rw [hx4]; exact hJ.1.rng 0 _ (by decide) (by decide)
  show zG n (114, 4080270) 300 311 (362, [zR 0, zR 8, zR 97, .inl i], [.inl x4, .inl x3, .inl x2, .inl x1, zR 8]) M _
  refine zG_call (by decide) hz zp_126 (hg _ _ rfl) rfl (Nat.le_of_ble_eq_true rfl) ⟨Nat.le_of_ble_eq_true rfl, Nat.le_of_ble_eq_true rfl⟩ (zG.andH (qm_126_8 (by decide) hJ.1 x1 (by omega) x2 (by omega) x3 (by omega) x4 (by omega)) (fh_126_8 x1 x2 x3 x4)) (fun vr M1 hr => ?_)
  obtain ⟨⟨⟨hC1, hF1⟩, -⟩, rfl, hM1⟩ := hr
  have hi := hF1.hi rfl
  have hI := hJ.2.1.same hi
  have hc0 : ∀ j, M1 0 j = M 0 j := fun j => hF1 0 j (by decide)
  have hX1 : qX M1 := hX.cls hF1 rfl; have hU1 : qU M1 := hU.cg (hF1.hi rfl)
  show zG n (114, 4080270) 300 311 (365, [zR 0, zR 8, zR 97, .inl i], [.inl (hf_126_8 M x1 x2 x3 x4).1]) M1 _
  refine zG_blk (c' := (371, [zR 0, zR 8, zR 97, .inl i], [.inl (i + 1), zR 0, zR 97])) 6 (by decide) hz (zsteps_seg hg (by rw [show (.inl (i + 1) : zV) = .inl (w32 (i + 1)) from by rw [w32_id (by omega)]]; rfl)) ?_
  refine zG_iald (by decide) hz (hg _ _ rfl) rfl (.inr rfl) (by omega) ?_
  rw [show M1 0 (i + 1).toNat = x1 from (hc0 _).trans hx1.symm]
  show zG n (114, 4080270) 300 311 (372, [zR 0, zR 8, zR 97, .inl i], [.inl x1, zR 97]) M1 _
  refine zG_blk (c' := (376, [zR 0, zR 8, zR 97, .inl i], [.inl (i + 2), zR 0, .inl x1, zR 97])) 4 (by decide) hz (zsteps_seg hg (by rw [show (.inl (i + 2) : zV) = .inl (w32 (i + 2)) from by rw [w32_id (by omega)]]; rfl)) ?_
  refine zG_iald (by decide) hz (hg _ _ rfl) rfl (.inr rfl) (by omega) ?_
  rw [show M1 0 (i + 2).toNat = x2 from (hc0 _).trans hx2.symm]
  show zG n (114, 4080270) 300 311 (377, [zR 0, zR 8, zR 97, .inl i], [.inl x2, .inl x1, zR 97]) M1 _
  refine zG_blk (c' := (381, [zR 0, zR 8, zR 97, .inl i], [.inl (i + 3), zR 0, .inl x2, .inl x1, zR 97])) 4 (by decide) hz (zsteps_seg hg (by rw [show (.inl (i + 3) : zV) = .inl (w32 (i + 3)) from by rw [w32_id (by omega)]]; rfl)) ?_
  refine zG_iald (by decide) hz (hg _ _ rfl) rfl (.inr rfl) (by omega) ?_
  rw [show M1 0 (i + 3).toNat = x3 from (hc0 _).trans hx3.symm]
  show zG n (114, 4080270) 300 311 (382, [zR 0, zR 8, zR 97, .inl i], [.inl x3, .inl x2, .inl x1, zR 97]) M1 _
  refine zG_blk (c' := (386, [zR 0, zR 8, zR 97, .inl i], [.inl (i + 4), zR 0, .inl x3, .inl x2, .inl x1, zR 97])) 4 (by decide) hz (zsteps_seg hg (by rw [show (.inl (i + 4) : zV) = .inl (w32 (i + 4)) from by rw [w32_id (by omega)]]; rfl)) ?_
  refine zG_iald (by decide) hz (hg _ _ rfl) rfl (.inr rfl) (by omega) ?_
  rw [show M1 0 (i + 4).toNat = x4 from (hc0 _).trans hx4.symm]
  show zG n (114, 4080270) 300 311 (387, [zR 0, zR 8, zR 97, .inl i], [.inl x4, .inl x3, .inl x2, .inl x1, zR 97]) M1 _
  refine zG_call (by decide) hz zp_190 (hg _ _ rfl) rfl (Nat.le_of_ble_eq_true rfl) ⟨Nat.le_of_ble_eq_true rfl, Nat.le_of_ble_eq_true rfl⟩ (zG.andH (qm_190_97 (by decide) hI x1 (by omega) x2 (by omega) x3 (by omega) x4 (by omega)) (fh_190_97 x1 x2 x3 x4)) (fun vr M2 hr => ?_)
  obtain ⟨⟨⟨hC2, hF2⟩, -⟩, rfl, hM2⟩ := hr
  have hm := hm_126 hJ.2.2.1 hJ.1.tb hJ.2.1.bd (a1 := x1) (a2 := x2) (a3 := x3) (a4 := x4)
  rw [← hM1] at hm
  rw [← hM2] at hm
  have hJ2 : qJ M2 := hJ.mut hC1 hF1 rfl rfl hC2 hF2 rfl (by decide) hm.2
  have hX2 : qX M2 := hX1.mdl hF2 rfl
  have hU2 : qU M2 := hU1.f9 (wSm.mut hJ.2.2.1 hJ2.2.2.1 hJ.2.1.cnt0 hF1 rfl (hF2.lo rfl)) hF2 rfl
  show zG n (114, 4080270) 300 311 (390, [zR 0, zR 8, zR 97, .inl i], [.inl (hf_190_97 M1 x1 x2 x3 x4).1]) M2 _
  refine zG_blk (c' := (2158, [zR 0, zR 8, zR 97, .inl i], [])) 2 (by decide) hz (zsteps_seg hg rfl) ?_
  exact K M2 ⟨hJ2, hX2, hU2⟩
noncomputable def sg_4 : List zE := [(394, .aload_n ⟨1, zfin1⟩, 395, zx0),
  (395, .aload_n ⟨0, zfin0⟩, 396, zx0),
  (396, .iload_n ⟨3, zfin3⟩, 397, zx0),
  (397, .iconst 1, 398, zx0),
  (398, .iadd, 399, zx0),
  (399, .iaload, 400, zx0),
  (400, .aload_n ⟨0, zfin0⟩, 401, zx0),
  (401, .iload_n ⟨3, zfin3⟩, 402, zx0),
  (402, .iconst 2, 403, zx0),
  (403, .iadd, 404, zx0),
  (404, .iaload, 405, zx0),
  (405, .ifCond .eq (7), 408, (412, 0, 0, [])),
  (408, .iconst 1, 409, zx0),
  (409, .goto (4), 412, (413, 0, 0, [])),
  (412, .iconst 0, 413, zx0),
  (413, .invokevirtual 32, 416, (127, 3, 0, [11])),
  (416, .pop, 417, zx0),
  (417, .aload_n ⟨2, zfin2⟩, 418, zx0),
  (418, .aload_n ⟨0, zfin0⟩, 419, zx0),
  (419, .iload_n ⟨3, zfin3⟩, 420, zx0),
  (420, .iconst 1, 421, zx0),
  (421, .iadd, 422, zx0),
  (422, .iaload, 423, zx0),
  (423, .aload_n ⟨0, zfin0⟩, 424, zx0),
  (424, .iload_n ⟨3, zfin3⟩, 425, zx0),
  (425, .iconst 2, 426, zx0),
  (426, .iadd, 427, zx0),
  (427, .iaload, 428, zx0),
  (428, .ifCond .eq (7), 431, (435, 0, 0, [])),
  (431, .iconst 1, 432, zx0),
  (432, .goto (4), 435, (436, 0, 0, [])),
  (435, .iconst 0, 436, zx0),
  (436, .invokevirtual 36, 439, (191, 3, 0, [12])),
  (439, .pop, 440, zx0),
  (440, .goto (1718), 443, (2158, 0, 0, []))]
set_option maxRecDepth 100000 in
theorem sh_4 : zSeg zk_L_law sg_4 := zSeg_of 160 35 394 (by decide +kernel) rfl (by decide +kernel)
set_option maxRecDepth 100000 in
theorem qL_4 (hY : qY M) (hn : n ≤ 4096) (hi : 0 ≤ i ∧ i + 8 ≤ n) (K : ∀ M', qY M' → zG n (114, 4080270) 300 311 (2158, [zR 0, zR 8, zR 97, .inl i], []) M' qLQ) : zG n (114, 4080270) 300 311 (394, [zR 0, zR 8, zR 97, .inl i], []) M qLQ := by
  have hz := zp_311
  have hg := sh_4
  have hJ := hY.1
  have hX := hY.2.1
  have hU := hY.2.2
  refine zG_blk (c' := (399, [zR 0, zR 8, zR 97, .inl i], [.inl (i + 1), zR 0, zR 8])) 5 (by decide) hz (zsteps_seg hg (by rw [show (.inl (i + 1) : zV) = .inl (w32 (i + 1)) from by rw [w32_id (by omega)]]; rfl)) ?_
  refine zG_iald (by decide) hz (hg _ _ rfl) rfl (.inr rfl) (by omega) ?_
  obtain ⟨x1, hx1⟩ : ∃ x : Int, x = M 0 (i + 1).toNat := ⟨_, rfl⟩
  rw [← hx1]
  have hr1 : qin x1 := by rw [hx1]; exact hJ.1.rng 0 _ (by decide) (by decide)
  show zG n (114, 4080270) 300 311 (400, [zR 0, zR 8, zR 97, .inl i], [.inl x1, zR 8]) M _
  refine zG_blk (c' := (404, [zR 0, zR 8, zR 97, .inl i], [.inl (i + 2), zR 0, .inl x1, zR 8])) 4 (by decide) hz (zsteps_seg hg (by rw [show (.inl (i + 2) : zV) = .inl (w32 (i + 2)) from by rw [w32_id (by omega)]]; rfl)) ?_
  refine zG_iald (by decide) hz (hg _ _ rfl) rfl (.inr rfl) (by omega) ?_
  obtain ⟨x2, hx2⟩ : ∃ x : Int, x = M 0 (i + 2).toNat := ⟨_, rfl⟩
  rw [← hx2]
  have hr2 : qin x2 := by rw [hx2]; exact hJ.1.rng 0 _ (by decide) (by decide)
  show zG n (114, 4080270) 300 311 (405, [zR 0, zR 8, zR 97, .inl i], [.inl x2, .inl x1, zR 8]) M _
  have j413 : ∀ b405 : Int, ((x2 = 0 ∧ b405 = 0) ∨ (¬ x2 = 0 ∧ b405 = 1)) → zG n (114, 4080270) 300 311 (413, [zR 0, zR 8, zR 97, .inl i], [.inl b405, .inl x1, zR 8]) M qLQ := by
    intro b405 hb405
    refine zG_call (by decide) hz zp_127 (hg _ _ rfl) rfl (Nat.le_of_ble_eq_true rfl) ⟨Nat.le_of_ble_eq_true rfl, Nat.le_of_ble_eq_true rfl⟩ (zG.andH (qm_127_8 (by decide) hJ.1 x1 (by omega) b405 (by omega)) (fh_127_8 x1 b405)) (fun vr M1 hr => ?_)
    obtain ⟨⟨⟨hC1, hF1⟩, -⟩, rfl, hM1⟩ := hr
    have hi := hF1.hi rfl
    have hI := hJ.2.1.same hi
    have hc0 : ∀ j, M1 0 j = M 0 j := fun j => hF1 0 j (by decide)
    have hX1 : qX M1 := hX.cls hF1 rfl; have hU1 : qU M1 := hU.cg (hF1.hi rfl)
    show zG n (114, 4080270) 300 311 (416, [zR 0, zR 8, zR 97, .inl i], [.inl (hf_127_8 M x1 b405).1]) M1 _
    refine zG_blk (c' := (422, [zR 0, zR 8, zR 97, .inl i], [.inl (i + 1), zR 0, zR 97])) 6 (by decide) hz (zsteps_seg hg (by rw [show (.inl (i + 1) : zV) = .inl (w32 (i + 1)) from by rw [w32_id (by omega)]]; rfl)) ?_
    refine zG_iald (by decide) hz (hg _ _ rfl) rfl (.inr rfl) (by omega) ?_
    rw [show M1 0 (i + 1).toNat = x1 from (hc0 _).trans hx1.symm]
    show zG n (114, 4080270) 300 311 (423, [zR 0, zR 8, zR 97, .inl i], [.inl x1, zR 97]) M1 _
    refine zG_blk (c' := (427, [zR 0, zR 8, zR 97, .inl i], [.inl (i + 2), zR 0, .inl x1, zR 97])) 4 (by decide) hz (zsteps_seg hg (by rw [show (.inl (i + 2) : zV) = .inl (w32 (i + 2)) from by rw [w32_id (by omega)]]; rfl)) ?_
    refine zG_iald (by decide) hz (hg _ _ rfl) rfl (.inr rfl) (by omega) ?_
    rw [show M1 0 (i + 2).toNat = x2 from (hc0 _).trans hx2.symm]
    show zG n (114, 4080270) 300 311 (428, [zR 0, zR 8, zR 97, .inl i], [.inl x2, .inl x1, zR 97]) M1 _
    have j436 : zG n (114, 4080270) 300 311 (436, [zR 0, zR 8, zR 97, .inl i], [.inl b405, .inl x1, zR 97]) M1 qLQ := by
      refine zG_call (by decide) hz zp_191 (hg _ _ rfl) rfl (Nat.le_of_ble_eq_true rfl) ⟨Nat.le_of_ble_eq_true rfl, Nat.le_of_ble_eq_true rfl⟩ (zG.andH (qm_191_97 (by decide) hI x1 (by omega) b405 (by omega)) (fh_191_97 x1 b405)) (fun vr M2 hr => ?_)
      obtain ⟨⟨⟨hC2, hF2⟩, -⟩, rfl, hM2⟩ := hr
      have hm := hm_127 hJ.2.2.1 hJ.1.tb hJ.2.1.bd (a1 := x1) (a2 := b405) (by omega)
      rw [← hM1] at hm
      rw [← hM2] at hm
      have hJ2 : qJ M2 := hJ.mut hC1 hF1 rfl rfl hC2 hF2 rfl (by decide) hm.2
      have hX2 : qX M2 := hX1.mdl hF2 rfl
      have hU2 : qU M2 := hU1.f9 (wSm.mut hJ.2.2.1 hJ2.2.2.1 hJ.2.1.cnt0 hF1 rfl (hF2.lo rfl)) hF2 rfl
      show zG n (114, 4080270) 300 311 (439, [zR 0, zR 8, zR 97, .inl i], [.inl (hf_191_97 M1 x1 b405).1]) M2 _
      refine zG_blk (c' := (2158, [zR 0, zR 8, zR 97, .inl i], [])) 2 (by decide) hz (zsteps_seg hg rfl) ?_
      exact K M2 ⟨hJ2, hX2, hU2⟩
    refine zG_if_eq (by decide) hz (hg _ _ rfl) (fun hb => ?_) (fun hb => ?_)
    · exact zG_blk (c' := (436, [zR 0, zR 8, zR 97, .inl i], [.inl b405, .inl x1, zR 97])) 1 (by decide) hz (zsteps_seg hg (by rw [show b405 = 0 by omega]; rfl)) j436
    · exact zG_blk (c' := (436, [zR 0, zR 8, zR 97, .inl i], [.inl b405, .inl x1, zR 97])) 2 (by decide) hz (zsteps_seg hg (by rw [show b405 = 1 by omega]; rfl)) j436
  refine zG_if_eq (by decide) hz (hg _ _ rfl) (fun hb => ?_) (fun hb => ?_)
  · exact zG_blk (c' := (413, [zR 0, zR 8, zR 97, .inl i], [.inl 0, .inl x1, zR 8])) 1 (by decide) hz (zsteps_seg hg rfl) (j413 0 (.inl ⟨hb, rfl⟩))
  · exact zG_blk (c' := (413, [zR 0, zR 8, zR 97, .inl i], [.inl 1, .inl x1, zR 8])) 2 (by decide) hz (zsteps_seg hg rfl) (j413 1 (.inr ⟨hb, rfl⟩))
noncomputable def sg_5 : List zE := [(443, .aload_n ⟨1, zfin1⟩, 444, zx0),
  (444, .aload_n ⟨0, zfin0⟩, 445, zx0),
  (445, .iload_n ⟨3, zfin3⟩, 446, zx0),
  (446, .iconst 1, 447, zx0),
  (447, .iadd, 448, zx0),
  (448, .iaload, 449, zx0),
  (449, .invokevirtual 37, 452, (128, 2, 0, [11])),
  (452, .pop, 453, zx0),
  (453, .aload_n ⟨2, zfin2⟩, 454, zx0),
  (454, .aload_n ⟨0, zfin0⟩, 455, zx0),
  (455, .iload_n ⟨3, zfin3⟩, 456, zx0),
  (456, .iconst 1, 457, zx0),
  (457, .iadd, 458, zx0),
  (458, .iaload, 459, zx0),
  (459, .invokevirtual 40, 462, (193, 2, 0, [12])),
  (462, .pop, 463, zx0),
  (463, .goto (1695), 466, (2158, 0, 0, []))]
set_option maxRecDepth 100000 in
theorem sh_5 : zSeg zk_L_law sg_5 := zSeg_of 195 17 443 (by decide +kernel) rfl (by decide +kernel)
set_option maxRecDepth 100000 in
theorem qL_5 (hY : qY M) (hn : n ≤ 4096) (hi : 0 ≤ i ∧ i + 8 ≤ n) (K : ∀ M', qY M' → zG n (114, 4080270) 300 311 (2158, [zR 0, zR 8, zR 97, .inl i], []) M' qLQ) : zG n (114, 4080270) 300 311 (443, [zR 0, zR 8, zR 97, .inl i], []) M qLQ := by
  have hz := zp_311
  have hg := sh_5
  have hJ := hY.1
  have hX := hY.2.1
  have hU := hY.2.2
  refine zG_blk (c' := (448, [zR 0, zR 8, zR 97, .inl i], [.inl (i + 1), zR 0, zR 8])) 5 (by decide) hz (zsteps_seg hg (by rw [show (.inl (i + 1) : zV) = .inl (w32 (i + 1)) from by rw [w32_id (by omega)]]; rfl)) ?_
  refine zG_iald (by decide) hz (hg _ _ rfl) rfl (.inr rfl) (by omega) ?_
  obtain ⟨x1, hx1⟩ : ∃ x : Int, x = M 0 (i + 1).toNat := ⟨_, rfl⟩
  rw [← hx1]
  have hr1 : qin x1 := by rw [hx1]; exact hJ.1.rng 0 _ (by decide) (by decide)
  show zG n (114, 4080270) 300 311 (449, [zR 0, zR 8, zR 97, .inl i], [.inl x1, zR 8]) M _
  refine zG_call (by decide) hz zp_128 (hg _ _ rfl) rfl (Nat.le_of_ble_eq_true rfl) ⟨Nat.le_of_ble_eq_true rfl, Nat.le_of_ble_eq_true rfl⟩ (qm_128_8 (by decide) hJ.1 x1 (by omega)) (fun vr M1 hr => ?_)
  obtain ⟨hq, hr⟩ := hr
  replace hq := hq.symm; subst hq
  have hc0 : ∀ j, M 0 j = M 0 j := fun _ => rfl
  obtain ⟨r1, rfl, -⟩ := hr
  show zG n (114, 4080270) 300 311 (452, [zR 0, zR 8, zR 97, .inl i], [.inl r1]) M _
  refine zG_blk (c' := (458, [zR 0, zR 8, zR 97, .inl i], [.inl (i + 1), zR 0, zR 97])) 6 (by decide) hz (zsteps_seg hg (by rw [show (.inl (i + 1) : zV) = .inl (w32 (i + 1)) from by rw [w32_id (by omega)]]; rfl)) ?_
  refine zG_iald (by decide) hz (hg _ _ rfl) rfl (.inr rfl) (by omega) ?_
  rw [show M 0 (i + 1).toNat = x1 from hx1.symm]
  show zG n (114, 4080270) 300 311 (459, [zR 0, zR 8, zR 97, .inl i], [.inl x1, zR 97]) M _
  refine zG_call (by decide) hz zp_193 (hg _ _ rfl) rfl (Nat.le_of_ble_eq_true rfl) ⟨Nat.le_of_ble_eq_true rfl, Nat.le_of_ble_eq_true rfl⟩ (qm_193_97 (by decide) hJ.2.1 x1 (by omega)) (fun vr M2 hr => ?_)
  obtain ⟨hq, hr⟩ := hr
  replace hq := hq.symm; subst hq
  obtain ⟨r2, hv9⟩ := hr
  first | (obtain ⟨rfl, -⟩ := hv9) | (obtain rfl := hv9)
  show zG n (114, 4080270) 300 311 (462, [zR 0, zR 8, zR 97, .inl i], [.inl r2]) M _
  refine zG_blk (c' := (2158, [zR 0, zR 8, zR 97, .inl i], [])) 2 (by decide) hz (zsteps_seg hg rfl) ?_
  exact K M ⟨hJ, hX, hU⟩
noncomputable def sg_6 : List zE := [(466, .aload_n ⟨1, zfin1⟩, 467, zx0),
  (467, .aload_n ⟨0, zfin0⟩, 468, zx0),
  (468, .iload_n ⟨3, zfin3⟩, 469, zx0),
  (469, .iconst 1, 470, zx0),
  (470, .iadd, 471, zx0),
  (471, .iaload, 472, zx0),
  (472, .aload_n ⟨0, zfin0⟩, 473, zx0),
  (473, .iload_n ⟨3, zfin3⟩, 474, zx0),
  (474, .iconst 2, 475, zx0),
  (475, .iadd, 476, zx0),
  (476, .iaload, 477, zx0),
  (477, .aload_n ⟨0, zfin0⟩, 478, zx0),
  (478, .iload_n ⟨3, zfin3⟩, 479, zx0),
  (479, .iconst 3, 480, zx0),
  (480, .iadd, 481, zx0),
  (481, .iaload, 482, zx0),
  (482, .aload_n ⟨0, zfin0⟩, 483, zx0),
  (483, .iload_n ⟨3, zfin3⟩, 484, zx0),
  (484, .iconst 4, 485, zx0),
  (485, .iadd, 486, zx0),
  (486, .iaload, 487, zx0),
  (487, .aload_n ⟨0, zfin0⟩, 488, zx0),
  (488, .iload_n ⟨3, zfin3⟩, 489, zx0),
  (489, .iconst 5, 490, zx0),
  (490, .iadd, 491, zx0),
  (491, .iaload, 492, zx0),
  (492, .aload_n ⟨0, zfin0⟩, 493, zx0),
  (493, .iload_n ⟨3, zfin3⟩, 494, zx0),
  (494, .bipush (6), 496, zx0),
  (496, .iadd, 497, zx0),
  (497, .iaload, 498, zx0),
  (498, .invokevirtual 41, 501, (129, 7, 0, [11])),
  (501, .pop, 502, zx0),
  (502, .aload_n ⟨2, zfin2⟩, 503, zx0),
  (503, .aload_n ⟨0, zfin0⟩, 504, zx0),
  (504, .iload_n ⟨3, zfin3⟩, 505, zx0),
  (505, .iconst 1, 506, zx0),
  (506, .iadd, 507, zx0),
  (507, .iaload, 508, zx0),
  (508, .aload_n ⟨0, zfin0⟩, 509, zx0),
  (509, .iload_n ⟨3, zfin3⟩, 510, zx0),
  (510, .iconst 2, 511, zx0),
  (511, .iadd, 512, zx0),
  (512, .iaload, 513, zx0),
  (513, .aload_n ⟨0, zfin0⟩, 514, zx0),
  (514, .iload_n ⟨3, zfin3⟩, 515, zx0),
  (515, .iconst 3, 516, zx0),
  (516, .iadd, 517, zx0),
  (517, .iaload, 518, zx0),
  (518, .aload_n ⟨0, zfin0⟩, 519, zx0),
  (519, .iload_n ⟨3, zfin3⟩, 520, zx0),
  (520, .iconst 4, 521, zx0),
  (521, .iadd, 522, zx0),
  (522, .iaload, 523, zx0),
  (523, .aload_n ⟨0, zfin0⟩, 524, zx0),
  (524, .iload_n ⟨3, zfin3⟩, 525, zx0),
  (525, .iconst 5, 526, zx0),
  (526, .iadd, 527, zx0),
  (527, .iaload, 528, zx0),
  (528, .aload_n ⟨0, zfin0⟩, 529, zx0),
  (529, .iload_n ⟨3, zfin3⟩, 530, zx0),
  (530, .bipush (6), 532, zx0),
  (532, .iadd, 533, zx0),
  (533, .iaload, 534, zx0),
  (534, .invokevirtual 45, 537, (201, 7, 0, [12])),
  (537, .pop, 538, zx0),
  (538, .goto (1620), 541, (2158, 0, 0, []))]
set_option maxRecDepth 100000 in
theorem sh_6 : zSeg zk_L_law sg_6 := zSeg_of 212 67 466 (by decide +kernel) rfl (by decide +kernel)
set_option maxRecDepth 100000 in
theorem qL_6 (hY : qY M) (hn : n ≤ 4096) (hi : 0 ≤ i ∧ i + 8 ≤ n) (K : ∀ M', qY M' → zG n (114, 4080270) 300 311 (2158, [zR 0, zR 8, zR 97, .inl i], []) M' qLQ) : zG n (114, 4080270) 300 311 (466, [zR 0, zR 8, zR 97, .inl i], []) M qLQ := by
  have hz := zp_311
  have hg := sh_6
  have hJ := hY.1
  have hX := hY.2.1
  have hU := hY.2.2
  refine zG_blk (c' := (471, [zR 0, zR 8, zR 97, .inl i], [.inl (i + 1), zR 0, zR 8])) 5 (by decide) hz (zsteps_seg hg (by rw [show (.inl (i + 1) : zV) = .inl (w32 (i + 1)) from by rw [w32_id (by omega)]]; rfl)) ?_
  refine zG_iald (by decide) hz (hg _ _ rfl) rfl (.inr rfl) (by omega) ?_
  obtain ⟨x1, hx1⟩ : ∃ x : Int, x = M 0 (i + 1).toNat := ⟨_, rfl⟩
  rw [← hx1]
  have hr1 : qin x1 := by rw [hx1]; exact hJ.1.rng 0 _ (by decide) (by decide)
  show zG n (114, 4080270) 300 311 (472, [zR 0, zR 8, zR 97, .inl i], [.inl x1, zR 8]) M _
  refine zG_blk (c' := (476, [zR 0, zR 8, zR 97, .inl i], [.inl (i + 2), zR 0, .inl x1, zR 8])) 4 (by decide) hz (zsteps_seg hg (by rw [show (.inl (i + 2) : zV) = .inl (w32 (i + 2)) from by rw [w32_id (by omega)]]; rfl)) ?_
  refine zG_iald (by decide) hz (hg _ _ rfl) rfl (.inr rfl) (by omega) ?_
  obtain ⟨x2, hx2⟩ : ∃ x : Int, x = M 0 (i + 2).toNat := ⟨_, rfl⟩
  rw [← hx2]
  have hr2 : qin x2 := by rw [hx2]; exact hJ.1.rng 0 _ (by decide) (by decide)
  show zG n (114, 4080270) 300 311 (477, [zR 0, zR 8, zR 97, .inl i], [.inl x2, .inl x1, zR 8]) M _
  refine zG_blk (c' := (481, [zR 0, zR 8, zR 97, .inl i], [.inl (i + 3), zR 0, .inl x2, .inl x1, zR 8])) 4 (by decide) hz (zsteps_seg hg (by rw [show (.inl (i + 3) : zV) = .inl (w32 (i + 3)) from by rw [w32_id (by omega)]]; rfl)) ?_
  refine zG_iald (by decide) hz (hg _ _ rfl) rfl (.inr rfl) (by omega) ?_
  obtain ⟨x3, hx3⟩ : ∃ x : Int, x = M 0 (i + 3).toNat := ⟨_, rfl⟩
  rw [← hx3]
  have hr3 : qin x3 := by rw [hx3]; exact hJ.1.rng 0 _ (by decide) (by decide)
  show zG n (114, 4080270) 300 311 (482, [zR 0, zR 8, zR 97, .inl i], [.inl x3, .inl x2, .inl x1, zR 8]) M _
  refine zG_blk (c' := (486, [zR 0, zR 8, zR 97, .inl i], [.inl (i + 4), zR 0, .inl x3, .inl x2, .inl x1, zR 8])) 4 (by decide) hz (zsteps_seg hg (by rw [show (.inl (i + 4) : zV) = .inl (w32 (i + 4)) from by rw [w32_id (by omega)]]; rfl)) ?_
  refine zG_iald (by decide) hz (hg _ _ rfl) rfl (.inr rfl) (by omega) ?_
  obtain ⟨x4, hx4⟩ : ∃ x : Int, x = M 0 (i + 4).toNat := ⟨_, rfl⟩
  rw [← hx4]
  have hr4 : qin x4 := by rw [hx4]; exact hJ.1.rng 0 _ (by decide) (by decide)
  show zG n (114, 4080270) 300 311 (487, [zR 0, zR 8, zR 97, .inl i], [.inl x4, .inl x3, .inl x2, .inl x1, zR 8]) M _
  refine zG_blk (c' := (491, [zR 0, zR 8, zR 97, .inl i], [.inl (i + 5), zR 0, .inl x4, .inl x3, .inl x2, .inl x1, zR 8])) 4 (by decide) hz (zsteps_seg hg (by rw [show (.inl (i + 5) : zV) = .inl (w32 (i + 5)) from by rw [w32_id (by omega)]]; rfl)) ?_
  refine zG_iald (by decide) hz (hg _ _ rfl) rfl (.inr rfl) (by omega) ?_
  obtain ⟨x5, hx5⟩ : ∃ x : Int, x = M 0 (i + 5).toNat := ⟨_, rfl⟩
  rw [← hx5]
  have hr5 : qin x5 := by rw [hx5]; exact hJ.1.rng 0 _ (by decide) (by decide)
  show zG n (114, 4080270) 300 311 (492, [zR 0, zR 8, zR 97, .inl i], [.inl x5, .inl x4, .inl x3, .inl x2, .inl x1, zR 8]) M _
  refine zG_blk (c' := (497, [zR 0, zR 8, zR 97, .inl i], [.inl (i + 6), zR 0, .inl x5, .inl x4, .inl x3, .inl x2, .inl x1, zR 8])) 4 (by decide) hz (zsteps_seg hg (by rw [show (.inl (i + 6) : zV) = .inl (w32 (i + 6)) from by rw [w32_id (by omega)]]; rfl)) ?_
  refine zG_iald (by decide) hz (hg _ _ rfl) rfl (.inr rfl) (by omega) ?_
  obtain ⟨x6, hx6⟩ : ∃ x : Int, x = M 0 (i + 6).toNat := ⟨_, rfl⟩
  rw [← hx6]
  have hr6 : qin x6 := by rw [hx6]; exact hJ.1.rng 0 _ (by decide) (by decide)
  show zG n (114, 4080270) 300 311 (498, [zR 0, zR 8, zR 97, .inl i], [.inl x6, .inl x5, .inl x4, .inl x3, .inl x2, .inl x1, zR 8]) M _
  refine zG_call (by decide) hz zp_129 (hg _ _ rfl) rfl (Nat.le_of_ble_eq_true rfl) ⟨Nat.le_of_ble_eq_true rfl, Nat.le_of_ble_eq_true rfl⟩ (zG.andH (qm_129_8 (by decide) hJ.1 x1 (by omega) x2 (by omega) x3 (by omega) x4 (by omega) x5 (by omega) x6 (by omega)) (fh_129_8 x1 x2 x3 x4 x5 x6)) (fun vr M1 hr => ?_)
  obtain ⟨⟨⟨hC1, hF1⟩, -⟩, rfl, hM1⟩ := hr
  have hi := hF1.hi rfl
  have hI := hJ.2.1.same hi
  have hc0 : ∀ j, M1 0 j = M 0 j := fun j => hF1 0 j (by decide)
  have hX1 : qX M1 := hX.cls hF1 rfl; have hU1 : qU M1 := hU.cg (hF1.hi rfl)
  show zG n (114, 4080270) 300 311 (501, [zR 0, zR 8, zR 97, .inl i], [.inl (hf_129_8 M x1 x2 x3 x4 x5 x6).1]) M1 _
  refine zG_blk (c' := (507, [zR 0, zR 8, zR 97, .inl i], [.inl (i + 1), zR 0, zR 97])) 6 (by decide) hz (zsteps_seg hg (by rw [show (.inl (i + 1) : zV) = .inl (w32 (i + 1)) from by rw [w32_id (by omega)]]; rfl)) ?_
  refine zG_iald (by decide) hz (hg _ _ rfl) rfl (.inr rfl) (by omega) ?_
  rw [show M1 0 (i + 1).toNat = x1 from (hc0 _).trans hx1.symm]
  show zG n (114, 4080270) 300 311 (508, [zR 0, zR 8, zR 97, .inl i], [.inl x1, zR 97]) M1 _
  refine zG_blk (c' := (512, [zR 0, zR 8, zR 97, .inl i], [.inl (i + 2), zR 0, .inl x1, zR 97])) 4 (by decide) hz (zsteps_seg hg (by rw [show (.inl (i + 2) : zV) = .inl (w32 (i + 2)) from by rw [w32_id (by omega)]]; rfl)) ?_
  refine zG_iald (by decide) hz (hg _ _ rfl) rfl (.inr rfl) (by omega) ?_
  rw [show M1 0 (i + 2).toNat = x2 from (hc0 _).trans hx2.symm]
  show zG n (114, 4080270) 300 311 (513, [zR 0, zR 8, zR 97, .inl i], [.inl x2, .inl x1, zR 97]) M1 _
  refine zG_blk (c' := (517, [zR 0, zR 8, zR 97, .inl i], [.inl (i + 3), zR 0, .inl x2, .inl x1, zR 97])) 4 (by decide) hz (zsteps_seg hg (by rw [show (.inl (i + 3) : zV) = .inl (w32 (i + 3)) from by rw [w32_id (by omega)]]; rfl)) ?_
  refine zG_iald (by decide) hz (hg _ _ rfl) rfl (.inr rfl) (by omega) ?_
  rw [show M1 0 (i + 3).toNat = x3 from (hc0 _).trans hx3.symm]
  show zG n (114, 4080270) 300 311 (518, [zR 0, zR 8, zR 97, .inl i], [.inl x3, .inl x2, .inl x1, zR 97]) M1 _
  refine zG_blk (c' := (522, [zR 0, zR 8, zR 97, .inl i], [.inl (i + 4), zR 0, .inl x3, .inl x2, .inl x1, zR 97])) 4 (by decide) hz (zsteps_seg hg (by rw [show (.inl (i + 4) : zV) = .inl (w32 (i + 4)) from by rw [w32_id (by omega)]]; rfl)) ?_
  refine zG_iald (by decide) hz (hg _ _ rfl) rfl (.inr rfl) (by omega) ?_
  rw [show M1 0 (i + 4).toNat = x4 from (hc0 _).trans hx4.symm]
  show zG n (114, 4080270) 300 311 (523, [zR 0, zR 8, zR 97, .inl i], [.inl x4, .inl x3, .inl x2, .inl x1, zR 97]) M1 _
  refine zG_blk (c' := (527, [zR 0, zR 8, zR 97, .inl i], [.inl (i + 5), zR 0, .inl x4, .inl x3, .inl x2, .inl x1, zR 97])) 4 (by decide) hz (zsteps_seg hg (by rw [show (.inl (i + 5) : zV) = .inl (w32 (i + 5)) from by rw [w32_id (by omega)]]; rfl)) ?_
  refine zG_iald (by decide) hz (hg _ _ rfl) rfl (.inr rfl) (by omega) ?_
  rw [show M1 0 (i + 5).toNat = x5 from (hc0 _).trans hx5.symm]
  show zG n (114, 4080270) 300 311 (528, [zR 0, zR 8, zR 97, .inl i], [.inl x5, .inl x4, .inl x3, .inl x2, .inl x1, zR 97]) M1 _
  refine zG_blk (c' := (533, [zR 0, zR 8, zR 97, .inl i], [.inl (i + 6), zR 0, .inl x5, .inl x4, .inl x3, .inl x2, .inl x1, zR 97])) 4 (by decide) hz (zsteps_seg hg (by rw [show (.inl (i + 6) : zV) = .inl (w32 (i + 6)) from by rw [w32_id (by omega)]]; rfl)) ?_
  refine zG_iald (by decide) hz (hg _ _ rfl) rfl (.inr rfl) (by omega) ?_
  rw [show M1 0 (i + 6).toNat = x6 from (hc0 _).trans hx6.symm]
  show zG n (114, 4080270) 300 311 (534, [zR 0, zR 8, zR 97, .inl i], [.inl x6, .inl x5, .inl x4, .inl x3, .inl x2, .inl x1, zR 97]) M1 _
  refine zG_call (by decide) hz zp_201 (hg _ _ rfl) rfl (Nat.le_of_ble_eq_true rfl) ⟨Nat.le_of_ble_eq_true rfl, Nat.le_of_ble_eq_true rfl⟩ (zG.andH (qm_201_97 (by decide) hI x1 (by omega) x2 (by omega) x3 (by omega) x4 (by omega) x5 (by omega) x6 (by omega)) (fh_201_97 x1 x2 x3 x4 x5 x6)) (fun vr M2 hr => ?_)
  obtain ⟨⟨⟨hC2, hF2⟩, -⟩, rfl, hM2⟩ := hr
  have hm := hm_129 hJ.2.2.1 hJ.1.tb hJ.2.1.bd (a1 := x1) (a2 := x2) (a3 := x3) (a4 := x4) (a5 := x5) (a6 := x6)
  rw [← hM1] at hm
  rw [← hM2] at hm
  have hJ2 : qJ M2 := hJ.mut hC1 hF1 rfl rfl hC2 hF2 rfl (by decide) hm.2
  have hX2 : qX M2 := hX1.mdl hF2 rfl
  have hU2 : qU M2 := hU1.f9 (wSm.mut hJ.2.2.1 hJ2.2.2.1 hJ.2.1.cnt0 hF1 rfl (hF2.lo rfl)) hF2 rfl
  show zG n (114, 4080270) 300 311 (537, [zR 0, zR 8, zR 97, .inl i], [.inl (hf_201_97 M1 x1 x2 x3 x4 x5 x6).1]) M2 _
  refine zG_blk (c' := (2158, [zR 0, zR 8, zR 97, .inl i], [])) 2 (by decide) hz (zsteps_seg hg rfl) ?_
  exact K M2 ⟨hJ2, hX2, hU2⟩
noncomputable def sg_7 : List zE := [(541, .aload_n ⟨1, zfin1⟩, 542, zx0),
  (542, .aload_n ⟨0, zfin0⟩, 543, zx0),
  (543, .iload_n ⟨3, zfin3⟩, 544, zx0),
  (544, .iconst 1, 545, zx0),
  (545, .iadd, 546, zx0),
  (546, .iaload, 547, zx0),
  (547, .aload_n ⟨0, zfin0⟩, 548, zx0),
  (548, .iload_n ⟨3, zfin3⟩, 549, zx0),
  (549, .iconst 2, 550, zx0),
  (550, .iadd, 551, zx0),
  (551, .iaload, 552, zx0),
  (552, .aload_n ⟨0, zfin0⟩, 553, zx0),
  (553, .iload_n ⟨3, zfin3⟩, 554, zx0),
  (554, .iconst 3, 555, zx0),
  (555, .iadd, 556, zx0),
  (556, .iaload, 557, zx0),
  (557, .aload_n ⟨0, zfin0⟩, 558, zx0),
  (558, .iload_n ⟨3, zfin3⟩, 559, zx0),
  (559, .iconst 4, 560, zx0),
  (560, .iadd, 561, zx0),
  (561, .iaload, 562, zx0),
  (562, .aload_n ⟨0, zfin0⟩, 563, zx0),
  (563, .iload_n ⟨3, zfin3⟩, 564, zx0),
  (564, .iconst 5, 565, zx0),
  (565, .iadd, 566, zx0),
  (566, .iaload, 567, zx0),
  (567, .invokevirtual 46, 570, (130, 6, 0, [11])),
  (570, .pop, 571, zx0),
  (571, .aload_n ⟨2, zfin2⟩, 572, zx0),
  (572, .aload_n ⟨0, zfin0⟩, 573, zx0),
  (573, .iload_n ⟨3, zfin3⟩, 574, zx0),
  (574, .iconst 1, 575, zx0),
  (575, .iadd, 576, zx0),
  (576, .iaload, 577, zx0),
  (577, .aload_n ⟨0, zfin0⟩, 578, zx0),
  (578, .iload_n ⟨3, zfin3⟩, 579, zx0),
  (579, .iconst 2, 580, zx0),
  (580, .iadd, 581, zx0),
  (581, .iaload, 582, zx0),
  (582, .aload_n ⟨0, zfin0⟩, 583, zx0),
  (583, .iload_n ⟨3, zfin3⟩, 584, zx0),
  (584, .iconst 3, 585, zx0),
  (585, .iadd, 586, zx0),
  (586, .iaload, 587, zx0),
  (587, .aload_n ⟨0, zfin0⟩, 588, zx0),
  (588, .iload_n ⟨3, zfin3⟩, 589, zx0),
  (589, .iconst 4, 590, zx0),
  (590, .iadd, 591, zx0),
  (591, .iaload, 592, zx0),
  (592, .aload_n ⟨0, zfin0⟩, 593, zx0),
  (593, .iload_n ⟨3, zfin3⟩, 594, zx0),
  (594, .iconst 5, 595, zx0),
  (595, .iadd, 596, zx0),
  (596, .iaload, 597, zx0),
  (597, .invokevirtual 50, 600, (202, 6, 0, [12])),
  (600, .pop, 601, zx0),
  (601, .goto (1557), 604, (2158, 0, 0, []))]
set_option maxRecDepth 100000 in
theorem sh_7 : zSeg zk_L_law sg_7 := zSeg_of 279 57 541 (by decide +kernel) rfl (by decide +kernel)
set_option maxRecDepth 100000 in
theorem qL_7 (hY : qY M) (hn : n ≤ 4096) (hi : 0 ≤ i ∧ i + 8 ≤ n) (K : ∀ M', qY M' → zG n (114, 4080270) 300 311 (2158, [zR 0, zR 8, zR 97, .inl i], []) M' qLQ) : zG n (114, 4080270) 300 311 (541, [zR 0, zR 8, zR 97, .inl i], []) M qLQ := by
  have hz := zp_311
  have hg := sh_7
  have hJ := hY.1
  have hX := hY.2.1
  have hU := hY.2.2
  refine zG_blk (c' := (546, [zR 0, zR 8, zR 97, .inl i], [.inl (i + 1), zR 0, zR 8])) 5 (by decide) hz (zsteps_seg hg (by rw [show (.inl (i + 1) : zV) = .inl (w32 (i + 1)) from by rw [w32_id (by omega)]]; rfl)) ?_
  refine zG_iald (by decide) hz (hg _ _ rfl) rfl (.inr rfl) (by omega) ?_
  obtain ⟨x1, hx1⟩ : ∃ x : Int, x = M 0 (i + 1).toNat := ⟨_, rfl⟩
  rw [← hx1]
  have hr1 : qin x1 := by rw [hx1]; exact hJ.1.rng 0 _ (by decide) (by decide)
  show zG n (114, 4080270) 300 311 (547, [zR 0, zR 8, zR 97, .inl i], [.inl x1, zR 8]) M _
  refine zG_blk (c' := (551, [zR 0, zR 8, zR 97, .inl i], [.inl (i + 2), zR 0, .inl x1, zR 8])) 4 (by decide) hz (zsteps_seg hg (by rw [show (.inl (i + 2) : zV) = .inl (w32 (i + 2)) from by rw [w32_id (by omega)]]; rfl)) ?_
  refine zG_iald (by decide) hz (hg _ _ rfl) rfl (.inr rfl) (by omega) ?_
  obtain ⟨x2, hx2⟩ : ∃ x : Int, x = M 0 (i + 2).toNat := ⟨_, rfl⟩
  rw [← hx2]
  have hr2 : qin x2 := by rw [hx2]; exact hJ.1.rng 0 _ (by decide) (by decide)
  show zG n (114, 4080270) 300 311 (552, [zR 0, zR 8, zR 97, .inl i], [.inl x2, .inl x1, zR 8]) M _
  refine zG_blk (c' := (556, [zR 0, zR 8, zR 97, .inl i], [.inl (i + 3), zR 0, .inl x2, .inl x1, zR 8])) 4 (by decide) hz (zsteps_seg hg (by rw [show (.inl (i + 3) : zV) = .inl (w32 (i + 3)) from by rw [w32_id (by omega)]]; rfl)) ?_
  refine zG_iald (by decide) hz (hg _ _ rfl) rfl (.inr rfl) (by omega) ?_
  obtain ⟨x3, hx3⟩ : ∃ x : Int, x = M 0 (i + 3).toNat := ⟨_, rfl⟩
  rw [← hx3]
  have hr3 : qin x3 := by rw [hx3]; exact hJ.1.rng 0 _ (by decide) (by decide)
  show zG n (114, 4080270) 300 311 (557, [zR 0, zR 8, zR 97, .inl i], [.inl x3, .inl x2, .inl x1, zR 8]) M _
  refine zG_blk (c' := (561, [zR 0, zR 8, zR 97, .inl i], [.inl (i + 4), zR 0, .inl x3, .inl x2, .inl x1, zR 8])) 4 (by decide) hz (zsteps_seg hg (by rw [show (.inl (i + 4) : zV) = .inl (w32 (i + 4)) from by rw [w32_id (by omega)]]; rfl)) ?_
  refine zG_iald (by decide) hz (hg _ _ rfl) rfl (.inr rfl) (by omega) ?_
  obtain ⟨x4, hx4⟩ : ∃ x : Int, x = M 0 (i + 4).toNat := ⟨_, rfl⟩
  rw [← hx4]
  have hr4 : qin x4 := by rw [hx4]; exact hJ.1.rng 0 _ (by decide) (by decide)
  show zG n (114, 4080270) 300 311 (562, [zR 0, zR 8, zR 97, .inl i], [.inl x4, .inl x3, .inl x2, .inl x1, zR 8]) M _
  refine zG_blk (c' := (566, [zR 0, zR 8, zR 97, .inl i], [.inl (i + 5), zR 0, .inl x4, .inl x3, .inl x2, .inl x1, zR 8])) 4 (by decide) hz (zsteps_seg hg (by rw [show (.inl (i + 5) : zV) = .inl (w32 (i + 5)) from by rw [w32_id (by omega)]]; rfl)) ?_
  refine zG_iald (by decide) hz (hg _ _ rfl) rfl (.inr rfl) (by omega) ?_
  obtain ⟨x5, hx5⟩ : ∃ x : Int, x = M 0 (i + 5).toNat := ⟨_, rfl⟩
  rw [← hx5]
  have hr5 : qin x5 := by rw [hx5]; exact hJ.1.rng 0 _ (by decide) (by decide)
  show zG n (114, 4080270) 300 311 (567, [zR 0, zR 8, zR 97, .inl i], [.inl x5, .inl x4, .inl x3, .inl x2, .inl x1, zR 8]) M _
  refine zG_call (by decide) hz zp_130 (hg _ _ rfl) rfl (Nat.le_of_ble_eq_true rfl) ⟨Nat.le_of_ble_eq_true rfl, Nat.le_of_ble_eq_true rfl⟩ (zG.andH (qm_130_8 (by decide) hJ.1 x1 (by omega) x2 (by omega) x3 (by omega) x4 (by omega) x5 (by omega)) (fh_130_8 x1 x2 x3 x4 x5)) (fun vr M1 hr => ?_)
  obtain ⟨⟨⟨hC1, hF1⟩, -⟩, rfl, hM1⟩ := hr
  have hi := hF1.hi rfl
  have hI := hJ.2.1.same hi
  have hc0 : ∀ j, M1 0 j = M 0 j := fun j => hF1 0 j (by decide)
  have hX1 : qX M1 := hX.cls hF1 rfl; have hU1 : qU M1 := hU.cg (hF1.hi rfl)
  show zG n (114, 4080270) 300 311 (570, [zR 0, zR 8, zR 97, .inl i], [.inl (hf_130_8 M x1 x2 x3 x4 x5).1]) M1 _
  refine zG_blk (c' := (576, [zR 0, zR 8, zR 97, .inl i], [.inl (i + 1), zR 0, zR 97])) 6 (by decide) hz (zsteps_seg hg (by rw [show (.inl (i + 1) : zV) = .inl (w32 (i + 1)) from by rw [w32_id (by omega)]]; rfl)) ?_
  refine zG_iald (by decide) hz (hg _ _ rfl) rfl (.inr rfl) (by omega) ?_
  rw [show M1 0 (i + 1).toNat = x1 from (hc0 _).trans hx1.symm]
  show zG n (114, 4080270) 300 311 (577, [zR 0, zR 8, zR 97, .inl i], [.inl x1, zR 97]) M1 _
  refine zG_blk (c' := (581, [zR 0, zR 8, zR 97, .inl i], [.inl (i + 2), zR 0, .inl x1, zR 97])) 4 (by decide) hz (zsteps_seg hg (by rw [show (.inl (i + 2) : zV) = .inl (w32 (i + 2)) from by rw [w32_id (by omega)]]; rfl)) ?_
  refine zG_iald (by decide) hz (hg _ _ rfl) rfl (.inr rfl) (by omega) ?_
  rw [show M1 0 (i + 2).toNat = x2 from (hc0 _).trans hx2.symm]
  show zG n (114, 4080270) 300 311 (582, [zR 0, zR 8, zR 97, .inl i], [.inl x2, .inl x1, zR 97]) M1 _
  refine zG_blk (c' := (586, [zR 0, zR 8, zR 97, .inl i], [.inl (i + 3), zR 0, .inl x2, .inl x1, zR 97])) 4 (by decide) hz (zsteps_seg hg (by rw [show (.inl (i + 3) : zV) = .inl (w32 (i + 3)) from by rw [w32_id (by omega)]]; rfl)) ?_
  refine zG_iald (by decide) hz (hg _ _ rfl) rfl (.inr rfl) (by omega) ?_
  rw [show M1 0 (i + 3).toNat = x3 from (hc0 _).trans hx3.symm]
  show zG n (114, 4080270) 300 311 (587, [zR 0, zR 8, zR 97, .inl i], [.inl x3, .inl x2, .inl x1, zR 97]) M1 _
  refine zG_blk (c' := (591, [zR 0, zR 8, zR 97, .inl i], [.inl (i + 4), zR 0, .inl x3, .inl x2, .inl x1, zR 97])) 4 (by decide) hz (zsteps_seg hg (by rw [show (.inl (i + 4) : zV) = .inl (w32 (i + 4)) from by rw [w32_id (by omega)]]; rfl)) ?_
  refine zG_iald (by decide) hz (hg _ _ rfl) rfl (.inr rfl) (by omega) ?_
  rw [show M1 0 (i + 4).toNat = x4 from (hc0 _).trans hx4.symm]
  show zG n (114, 4080270) 300 311 (592, [zR 0, zR 8, zR 97, .inl i], [.inl x4, .inl x3, .inl x2, .inl x1, zR 97]) M1 _
  refine zG_blk (c' := (596, [zR 0, zR 8, zR 97, .inl i], [.inl (i + 5), zR 0, .inl x4, .inl x3, .inl x2, .inl x1, zR 97])) 4 (by decide) hz (zsteps_seg hg (by rw [show (.inl (i + 5) : zV) = .inl (w32 (i + 5)) from by rw [w32_id (by omega)]]; rfl)) ?_
  refine zG_iald (by decide) hz (hg _ _ rfl) rfl (.inr rfl) (by omega) ?_
  rw [show M1 0 (i + 5).toNat = x5 from (hc0 _).trans hx5.symm]
  show zG n (114, 4080270) 300 311 (597, [zR 0, zR 8, zR 97, .inl i], [.inl x5, .inl x4, .inl x3, .inl x2, .inl x1, zR 97]) M1 _
  refine zG_call (by decide) hz zp_202 (hg _ _ rfl) rfl (Nat.le_of_ble_eq_true rfl) ⟨Nat.le_of_ble_eq_true rfl, Nat.le_of_ble_eq_true rfl⟩ (zG.andH (qm_202_97 (by decide) hI x1 (by omega) x2 (by omega) x3 (by omega) x4 (by omega) x5 (by omega)) (fh_202_97 x1 x2 x3 x4 x5)) (fun vr M2 hr => ?_)
  obtain ⟨⟨⟨hC2, hF2⟩, -⟩, rfl, hM2⟩ := hr
  have hm := hm_130 hJ.2.2.1 hJ.1.tb hJ.2.1.bd (a1 := x1) (a2 := x2) (a3 := x3) (a4 := x4) (a5 := x5)
  rw [← hM1] at hm
  rw [← hM2] at hm
  have hJ2 : qJ M2 := hJ.mut hC1 hF1 rfl rfl hC2 hF2 rfl (by decide) hm.2
  have hX2 : qX M2 := hX1.mdl hF2 rfl
  have hU2 : qU M2 := hU1.f9 (wSm.mut hJ.2.2.1 hJ2.2.2.1 hJ.2.1.cnt0 hF1 rfl (hF2.lo rfl)) hF2 rfl
  show zG n (114, 4080270) 300 311 (600, [zR 0, zR 8, zR 97, .inl i], [.inl (hf_202_97 M1 x1 x2 x3 x4 x5).1]) M2 _
  refine zG_blk (c' := (2158, [zR 0, zR 8, zR 97, .inl i], [])) 2 (by decide) hz (zsteps_seg hg rfl) ?_
  exact K M2 ⟨hJ2, hX2, hU2⟩
noncomputable def sg_8 : List zE := [(604, .aload_n ⟨1, zfin1⟩, 605, zx0),
  (605, .aload_n ⟨0, zfin0⟩, 606, zx0),
  (606, .iload_n ⟨3, zfin3⟩, 607, zx0),
  (607, .iconst 1, 608, zx0),
  (608, .iadd, 609, zx0),
  (609, .iaload, 610, zx0),
  (610, .aload_n ⟨0, zfin0⟩, 611, zx0),
  (611, .iload_n ⟨3, zfin3⟩, 612, zx0),
  (612, .iconst 2, 613, zx0),
  (613, .iadd, 614, zx0),
  (614, .iaload, 615, zx0),
  (615, .aload_n ⟨0, zfin0⟩, 616, zx0),
  (616, .iload_n ⟨3, zfin3⟩, 617, zx0),
  (617, .iconst 3, 618, zx0),
  (618, .iadd, 619, zx0),
  (619, .iaload, 620, zx0),
  (620, .aload_n ⟨0, zfin0⟩, 621, zx0),
  (621, .iload_n ⟨3, zfin3⟩, 622, zx0),
  (622, .iconst 4, 623, zx0),
  (623, .iadd, 624, zx0),
  (624, .iaload, 625, zx0),
  (625, .invokevirtual 51, 628, (131, 5, 0, [11])),
  (628, .pop, 629, zx0),
  (629, .aload_n ⟨2, zfin2⟩, 630, zx0),
  (630, .aload_n ⟨0, zfin0⟩, 631, zx0),
  (631, .iload_n ⟨3, zfin3⟩, 632, zx0),
  (632, .iconst 1, 633, zx0),
  (633, .iadd, 634, zx0),
  (634, .iaload, 635, zx0),
  (635, .aload_n ⟨0, zfin0⟩, 636, zx0),
  (636, .iload_n ⟨3, zfin3⟩, 637, zx0),
  (637, .iconst 2, 638, zx0),
  (638, .iadd, 639, zx0),
  (639, .iaload, 640, zx0),
  (640, .aload_n ⟨0, zfin0⟩, 641, zx0),
  (641, .iload_n ⟨3, zfin3⟩, 642, zx0),
  (642, .iconst 3, 643, zx0),
  (643, .iadd, 644, zx0),
  (644, .iaload, 645, zx0),
  (645, .aload_n ⟨0, zfin0⟩, 646, zx0),
  (646, .iload_n ⟨3, zfin3⟩, 647, zx0),
  (647, .iconst 4, 648, zx0),
  (648, .iadd, 649, zx0),
  (649, .iaload, 650, zx0),
  (650, .invokevirtual 54, 653, (203, 5, 0, [12])),
  (653, .pop, 654, zx0),
  (654, .goto (1504), 657, (2158, 0, 0, []))]
set_option maxRecDepth 100000 in
theorem sh_8 : zSeg zk_L_law sg_8 := zSeg_of 336 47 604 (by decide +kernel) rfl (by decide +kernel)
set_option maxRecDepth 100000 in
theorem qL_8 (hY : qY M) (hn : n ≤ 4096) (hi : 0 ≤ i ∧ i + 8 ≤ n) (K : ∀ M', qY M' → zG n (114, 4080270) 300 311 (2158, [zR 0, zR 8, zR 97, .inl i], []) M' qLQ) : zG n (114, 4080270) 300 311 (604, [zR 0, zR 8, zR 97, .inl i], []) M qLQ := by
  have hz := zp_311
  have hg := sh_8
  have hJ := hY.1
  have hX := hY.2.1
  have hU := hY.2.2
  refine zG_blk (c' := (609, [zR 0, zR 8, zR 97, .inl i], [.inl (i + 1), zR 0, zR 8])) 5 (by decide) hz (zsteps_seg hg (by rw [show (.inl (i + 1) : zV) = .inl (w32 (i + 1)) from by rw [w32_id (by omega)]]; rfl)) ?_
  refine zG_iald (by decide) hz (hg _ _ rfl) rfl (.inr rfl) (by omega) ?_
  obtain ⟨x1, hx1⟩ : ∃ x : Int, x = M 0 (i + 1).toNat := ⟨_, rfl⟩
  rw [← hx1]
  have hr1 : qin x1 := by rw [hx1]; exact hJ.1.rng 0 _ (by decide) (by decide)
  show zG n (114, 4080270) 300 311 (610, [zR 0, zR 8, zR 97, .inl i], [.inl x1, zR 8]) M _
  refine zG_blk (c' := (614, [zR 0, zR 8, zR 97, .inl i], [.inl (i + 2), zR 0, .inl x1, zR 8])) 4 (by decide) hz (zsteps_seg hg (by rw [show (.inl (i + 2) : zV) = .inl (w32 (i + 2)) from by rw [w32_id (by omega)]]; rfl)) ?_
  refine zG_iald (by decide) hz (hg _ _ rfl) rfl (.inr rfl) (by omega) ?_
  obtain ⟨x2, hx2⟩ : ∃ x : Int, x = M 0 (i + 2).toNat := ⟨_, rfl⟩
  rw [← hx2]
  have hr2 : qin x2 := by rw [hx2]; exact hJ.1.rng 0 _ (by decide) (by decide)
  show zG n (114, 4080270) 300 311 (615, [zR 0, zR 8, zR 97, .inl i], [.inl x2, .inl x1, zR 8]) M _
  refine zG_blk (c' := (619, [zR 0, zR 8, zR 97, .inl i], [.inl (i + 3), zR 0, .inl x2, .inl x1, zR 8])) 4 (by decide) hz (zsteps_seg hg (by rw [show (.inl (i + 3) : zV) = .inl (w32 (i + 3)) from by rw [w32_id (by omega)]]; rfl)) ?_
  refine zG_iald (by decide) hz (hg _ _ rfl) rfl (.inr rfl) (by omega) ?_
  obtain ⟨x3, hx3⟩ : ∃ x : Int, x = M 0 (i + 3).toNat := ⟨_, rfl⟩
  rw [← hx3]
  have hr3 : qin x3 := by rw [hx3]; exact hJ.1.rng 0 _ (by decide) (by decide)
  show zG n (114, 4080270) 300 311 (620, [zR 0, zR 8, zR 97, .inl i], [.inl x3, .inl x2, .inl x1, zR 8]) M _
  refine zG_blk (c' := (624, [zR 0, zR 8, zR 97, .inl i], [.inl (i + 4), zR 0, .inl x3, .inl x2, .inl x1, zR 8])) 4 (by decide) hz (zsteps_seg hg (by rw [show (.inl (i + 4) : zV) = .inl (w32 (i + 4)) from by rw [w32_id (by omega)]]; rfl)) ?_
  refine zG_iald (by decide) hz (hg _ _ rfl) rfl (.inr rfl) (by omega) ?_
  obtain ⟨x4, hx4⟩ : ∃ x : Int, x = M 0 (i + 4).toNat := ⟨_, rfl⟩
  rw [← hx4]
  have hr4 : qin x4 := by rw [hx4]; exact hJ.1.rng 0 _ (by decide) (by decide)
  show zG n (114, 4080270) 300 311 (625, [zR 0, zR 8, zR 97, .inl i], [.inl x4, .inl x3, .inl x2, .inl x1, zR 8]) M _
  refine zG_call (by decide) hz zp_131 (hg _ _ rfl) rfl (Nat.le_of_ble_eq_true rfl) ⟨Nat.le_of_ble_eq_true rfl, Nat.le_of_ble_eq_true rfl⟩ (zG.andH (qm_131_8 (by decide) hJ.1 x1 (by omega) x2 (by omega) x3 (by omega) x4 (by omega)) (fh_131_8 x1 x2 x3 x4)) (fun vr M1 hr => ?_)
  obtain ⟨⟨⟨hC1, hF1⟩, -⟩, rfl, hM1⟩ := hr
  have hi := hF1.hi rfl
  have hI := hJ.2.1.same hi
  have hc0 : ∀ j, M1 0 j = M 0 j := fun j => hF1 0 j (by decide)
  have hX1 : qX M1 := hX.cls hF1 rfl; have hU1 : qU M1 := hU.cg (hF1.hi rfl)
  show zG n (114, 4080270) 300 311 (628, [zR 0, zR 8, zR 97, .inl i], [.inl (hf_131_8 M x1 x2 x3 x4).1]) M1 _
  refine zG_blk (c' := (634, [zR 0, zR 8, zR 97, .inl i], [.inl (i + 1), zR 0, zR 97])) 6 (by decide) hz (zsteps_seg hg (by rw [show (.inl (i + 1) : zV) = .inl (w32 (i + 1)) from by rw [w32_id (by omega)]]; rfl)) ?_
  refine zG_iald (by decide) hz (hg _ _ rfl) rfl (.inr rfl) (by omega) ?_
  rw [show M1 0 (i + 1).toNat = x1 from (hc0 _).trans hx1.symm]
  show zG n (114, 4080270) 300 311 (635, [zR 0, zR 8, zR 97, .inl i], [.inl x1, zR 97]) M1 _
  refine zG_blk (c' := (639, [zR 0, zR 8, zR 97, .inl i], [.inl (i + 2), zR 0, .inl x1, zR 97])) 4 (by decide) hz (zsteps_seg hg (by rw [show (.inl (i + 2) : zV) = .inl (w32 (i + 2)) from by rw [w32_id (by omega)]]; rfl)) ?_
  refine zG_iald (by decide) hz (hg _ _ rfl) rfl (.inr rfl) (by omega) ?_
  rw [show M1 0 (i + 2).toNat = x2 from (hc0 _).trans hx2.symm]
  show zG n (114, 4080270) 300 311 (640, [zR 0, zR 8, zR 97, .inl i], [.inl x2, .inl x1, zR 97]) M1 _
  refine zG_blk (c' := (644, [zR 0, zR 8, zR 97, .inl i], [.inl (i + 3), zR 0, .inl x2, .inl x1, zR 97])) 4 (by decide) hz (zsteps_seg hg (by rw [show (.inl (i + 3) : zV) = .inl (w32 (i + 3)) from by rw [w32_id (by omega)]]; rfl)) ?_
  refine zG_iald (by decide) hz (hg _ _ rfl) rfl (.inr rfl) (by omega) ?_
  rw [show M1 0 (i + 3).toNat = x3 from (hc0 _).trans hx3.symm]
  show zG n (114, 4080270) 300 311 (645, [zR 0, zR 8, zR 97, .inl i], [.inl x3, .inl x2, .inl x1, zR 97]) M1 _
  refine zG_blk (c' := (649, [zR 0, zR 8, zR 97, .inl i], [.inl (i + 4), zR 0, .inl x3, .inl x2, .inl x1, zR 97])) 4 (by decide) hz (zsteps_seg hg (by rw [show (.inl (i + 4) : zV) = .inl (w32 (i + 4)) from by rw [w32_id (by omega)]]; rfl)) ?_
  refine zG_iald (by decide) hz (hg _ _ rfl) rfl (.inr rfl) (by omega) ?_
  rw [show M1 0 (i + 4).toNat = x4 from (hc0 _).trans hx4.symm]
  show zG n (114, 4080270) 300 311 (650, [zR 0, zR 8, zR 97, .inl i], [.inl x4, .inl x3, .inl x2, .inl x1, zR 97]) M1 _
  refine zG_call (by decide) hz zp_203 (hg _ _ rfl) rfl (Nat.le_of_ble_eq_true rfl) ⟨Nat.le_of_ble_eq_true rfl, Nat.le_of_ble_eq_true rfl⟩ (zG.andH (qm_203_97 (by decide) hI x1 (by omega) x2 (by omega) x3 (by omega) x4 (by omega)) (fh_203_97 x1 x2 x3 x4)) (fun vr M2 hr => ?_)
  obtain ⟨⟨⟨hC2, hF2⟩, -⟩, rfl, hM2⟩ := hr
  have hm := hm_131 hJ.2.2.1 hJ.1.tb hJ.2.1.bd (a1 := x1) (a2 := x2) (a3 := x3) (a4 := x4)
  rw [← hM1] at hm
  rw [← hM2] at hm
  have hJ2 : qJ M2 := hJ.mut hC1 hF1 rfl rfl hC2 hF2 rfl (by decide) hm.2
  have hX2 : qX M2 := hX1.mdl hF2 rfl
  have hU2 : qU M2 := hU1.f9 (wSm.mut hJ.2.2.1 hJ2.2.2.1 hJ.2.1.cnt0 hF1 rfl (hF2.lo rfl)) hF2 rfl
  show zG n (114, 4080270) 300 311 (653, [zR 0, zR 8, zR 97, .inl i], [.inl (hf_203_97 M1 x1 x2 x3 x4).1]) M2 _
  refine zG_blk (c' := (2158, [zR 0, zR 8, zR 97, .inl i], [])) 2 (by decide) hz (zsteps_seg hg rfl) ?_
  exact K M2 ⟨hJ2, hX2, hU2⟩
noncomputable def sg_9 : List zE := [(657, .aload_n ⟨1, zfin1⟩, 658, zx0),
  (658, .aload_n ⟨0, zfin0⟩, 659, zx0),
  (659, .iload_n ⟨3, zfin3⟩, 660, zx0),
  (660, .iconst 1, 661, zx0),
  (661, .iadd, 662, zx0),
  (662, .iaload, 663, zx0),
  (663, .aload_n ⟨0, zfin0⟩, 664, zx0),
  (664, .iload_n ⟨3, zfin3⟩, 665, zx0),
  (665, .iconst 2, 666, zx0),
  (666, .iadd, 667, zx0),
  (667, .iaload, 668, zx0),
  (668, .aload_n ⟨0, zfin0⟩, 669, zx0),
  (669, .iload_n ⟨3, zfin3⟩, 670, zx0),
  (670, .iconst 3, 671, zx0),
  (671, .iadd, 672, zx0),
  (672, .iaload, 673, zx0),
  (673, .aload_n ⟨0, zfin0⟩, 674, zx0),
  (674, .iload_n ⟨3, zfin3⟩, 675, zx0),
  (675, .iconst 4, 676, zx0),
  (676, .iadd, 677, zx0),
  (677, .iaload, 678, zx0),
  (678, .aload_n ⟨0, zfin0⟩, 679, zx0),
  (679, .iload_n ⟨3, zfin3⟩, 680, zx0),
  (680, .iconst 5, 681, zx0),
  (681, .iadd, 682, zx0),
  (682, .iaload, 683, zx0),
  (683, .aload_n ⟨0, zfin0⟩, 684, zx0),
  (684, .iload_n ⟨3, zfin3⟩, 685, zx0),
  (685, .bipush (6), 687, zx0),
  (687, .iadd, 688, zx0),
  (688, .iaload, 689, zx0),
  (689, .invokevirtual 55, 692, (132, 7, 0, [11])),
  (692, .pop, 693, zx0),
  (693, .aload_n ⟨2, zfin2⟩, 694, zx0),
  (694, .aload_n ⟨0, zfin0⟩, 695, zx0),
  (695, .iload_n ⟨3, zfin3⟩, 696, zx0),
  (696, .iconst 1, 697, zx0),
  (697, .iadd, 698, zx0),
  (698, .iaload, 699, zx0),
  (699, .aload_n ⟨0, zfin0⟩, 700, zx0),
  (700, .iload_n ⟨3, zfin3⟩, 701, zx0),
  (701, .iconst 2, 702, zx0),
  (702, .iadd, 703, zx0),
  (703, .iaload, 704, zx0),
  (704, .aload_n ⟨0, zfin0⟩, 705, zx0),
  (705, .iload_n ⟨3, zfin3⟩, 706, zx0),
  (706, .iconst 3, 707, zx0),
  (707, .iadd, 708, zx0),
  (708, .iaload, 709, zx0),
  (709, .aload_n ⟨0, zfin0⟩, 710, zx0),
  (710, .iload_n ⟨3, zfin3⟩, 711, zx0),
  (711, .iconst 4, 712, zx0),
  (712, .iadd, 713, zx0),
  (713, .iaload, 714, zx0),
  (714, .aload_n ⟨0, zfin0⟩, 715, zx0),
  (715, .iload_n ⟨3, zfin3⟩, 716, zx0),
  (716, .iconst 5, 717, zx0),
  (717, .iadd, 718, zx0),
  (718, .iaload, 719, zx0),
  (719, .aload_n ⟨0, zfin0⟩, 720, zx0),
  (720, .iload_n ⟨3, zfin3⟩, 721, zx0),
  (721, .bipush (6), 723, zx0),
  (723, .iadd, 724, zx0),
  (724, .iaload, 725, zx0),
  (725, .invokevirtual 58, 728, (204, 7, 0, [12])),
  (728, .pop, 729, zx0),
  (729, .goto (1429), 732, (2158, 0, 0, []))]
set_option maxRecDepth 100000 in
theorem sh_9 : zSeg zk_L_law sg_9 := zSeg_of 383 67 657 (by decide +kernel) rfl (by decide +kernel)
set_option maxRecDepth 100000 in
theorem qL_9 (hY : qY M) (hn : n ≤ 4096) (hi : 0 ≤ i ∧ i + 8 ≤ n) (K : ∀ M', qY M' → zG n (114, 4080270) 300 311 (2158, [zR 0, zR 8, zR 97, .inl i], []) M' qLQ) : zG n (114, 4080270) 300 311 (657, [zR 0, zR 8, zR 97, .inl i], []) M qLQ := by
  have hz := zp_311
  have hg := sh_9
  have hJ := hY.1
  have hX := hY.2.1
  have hU := hY.2.2
  refine zG_blk (c' := (662, [zR 0, zR 8, zR 97, .inl i], [.inl (i + 1), zR 0, zR 8])) 5 (by decide) hz (zsteps_seg hg (by rw [show (.inl (i + 1) : zV) = .inl (w32 (i + 1)) from by rw [w32_id (by omega)]]; rfl)) ?_
  refine zG_iald (by decide) hz (hg _ _ rfl) rfl (.inr rfl) (by omega) ?_
  obtain ⟨x1, hx1⟩ : ∃ x : Int, x = M 0 (i + 1).toNat := ⟨_, rfl⟩
  rw [← hx1]
  have hr1 : qin x1 := by rw [hx1]; exact hJ.1.rng 0 _ (by decide) (by decide)
  show zG n (114, 4080270) 300 311 (663, [zR 0, zR 8, zR 97, .inl i], [.inl x1, zR 8]) M _
  refine zG_blk (c' := (667, [zR 0, zR 8, zR 97, .inl i], [.inl (i + 2), zR 0, .inl x1, zR 8])) 4 (by decide) hz (zsteps_seg hg (by rw [show (.inl (i + 2) : zV) = .inl (w32 (i + 2)) from by rw [w32_id (by omega)]]; rfl)) ?_
  refine zG_iald (by decide) hz (hg _ _ rfl) rfl (.inr rfl) (by omega) ?_
  obtain ⟨x2, hx2⟩ : ∃ x : Int, x = M 0 (i + 2).toNat := ⟨_, rfl⟩
  rw [← hx2]
  have hr2 : qin x2 := by rw [hx2]; exact hJ.1.rng 0 _ (by decide) (by decide)
  show zG n (114, 4080270) 300 311 (668, [zR 0, zR 8, zR 97, .inl i], [.inl x2, .inl x1, zR 8]) M _
  refine zG_blk (c' := (672, [zR 0, zR 8, zR 97, .inl i], [.inl (i + 3), zR 0, .inl x2, .inl x1, zR 8])) 4 (by decide) hz (zsteps_seg hg (by rw [show (.inl (i + 3) : zV) = .inl (w32 (i + 3)) from by rw [w32_id (by omega)]]; rfl)) ?_
  refine zG_iald (by decide) hz (hg _ _ rfl) rfl (.inr rfl) (by omega) ?_
  obtain ⟨x3, hx3⟩ : ∃ x : Int, x = M 0 (i + 3).toNat := ⟨_, rfl⟩
  rw [← hx3]
  have hr3 : qin x3 := by rw [hx3]; exact hJ.1.rng 0 _ (by decide) (by decide)
  show zG n (114, 4080270) 300 311 (673, [zR 0, zR 8, zR 97, .inl i], [.inl x3, .inl x2, .inl x1, zR 8]) M _
  refine zG_blk (c' := (677, [zR 0, zR 8, zR 97, .inl i], [.inl (i + 4), zR 0, .inl x3, .inl x2, .inl x1, zR 8])) 4 (by decide) hz (zsteps_seg hg (by rw [show (.inl (i + 4) : zV) = .inl (w32 (i + 4)) from by rw [w32_id (by omega)]]; rfl)) ?_
  refine zG_iald (by decide) hz (hg _ _ rfl) rfl (.inr rfl) (by omega) ?_
  obtain ⟨x4, hx4⟩ : ∃ x : Int, x = M 0 (i + 4).toNat := ⟨_, rfl⟩
  rw [← hx4]
  have hr4 : qin x4 := by rw [hx4]; exact hJ.1.rng 0 _ (by decide) (by decide)
  show zG n (114, 4080270) 300 311 (678, [zR 0, zR 8, zR 97, .inl i], [.inl x4, .inl x3, .inl x2, .inl x1, zR 8]) M _
  refine zG_blk (c' := (682, [zR 0, zR 8, zR 97, .inl i], [.inl (i + 5), zR 0, .inl x4, .inl x3, .inl x2, .inl x1, zR 8])) 4 (by decide) hz (zsteps_seg hg (by rw [show (.inl (i + 5) : zV) = .inl (w32 (i + 5)) from by rw [w32_id (by omega)]]; rfl)) ?_
  refine zG_iald (by decide) hz (hg _ _ rfl) rfl (.inr rfl) (by omega) ?_
  obtain ⟨x5, hx5⟩ : ∃ x : Int, x = M 0 (i + 5).toNat := ⟨_, rfl⟩
  rw [← hx5]
  have hr5 : qin x5 := by rw [hx5]; exact hJ.1.rng 0 _ (by decide) (by decide)
  show zG n (114, 4080270) 300 311 (683, [zR 0, zR 8, zR 97, .inl i], [.inl x5, .inl x4, .inl x3, .inl x2, .inl x1, zR 8]) M _
  refine zG_blk (c' := (688, [zR 0, zR 8, zR 97, .inl i], [.inl (i + 6), zR 0, .inl x5, .inl x4, .inl x3, .inl x2, .inl x1, zR 8])) 4 (by decide) hz (zsteps_seg hg (by rw [show (.inl (i + 6) : zV) = .inl (w32 (i + 6)) from by rw [w32_id (by omega)]]; rfl)) ?_
  refine zG_iald (by decide) hz (hg _ _ rfl) rfl (.inr rfl) (by omega) ?_
  obtain ⟨x6, hx6⟩ : ∃ x : Int, x = M 0 (i + 6).toNat := ⟨_, rfl⟩
  rw [← hx6]
  have hr6 : qin x6 := by rw [hx6]; exact hJ.1.rng 0 _ (by decide) (by decide)
  show zG n (114, 4080270) 300 311 (689, [zR 0, zR 8, zR 97, .inl i], [.inl x6, .inl x5, .inl x4, .inl x3, .inl x2, .inl x1, zR 8]) M _
  refine zG_call (by decide) hz zp_132 (hg _ _ rfl) rfl (Nat.le_of_ble_eq_true rfl) ⟨Nat.le_of_ble_eq_true rfl, Nat.le_of_ble_eq_true rfl⟩ (zG.andH (qm_132_8 (by decide) hJ.1 x1 (by omega) x2 (by omega) x3 (by omega) x4 (by omega) x5 (by omega) x6 (by omega)) (fh_132_8 x1 x2 x3 x4 x5 x6)) (fun vr M1 hr => ?_)
  obtain ⟨⟨⟨hC1, hF1⟩, -⟩, rfl, hM1⟩ := hr
  have hi := hF1.hi rfl
  have hI := hJ.2.1.same hi
  have hc0 : ∀ j, M1 0 j = M 0 j := fun j => hF1 0 j (by decide)
  have hX1 : qX M1 := hX.cls hF1 rfl; have hU1 : qU M1 := hU.cg (hF1.hi rfl)
  show zG n (114, 4080270) 300 311 (692, [zR 0, zR 8, zR 97, .inl i], [.inl (hf_132_8 M x1 x2 x3 x4 x5 x6).1]) M1 _
  refine zG_blk (c' := (698, [zR 0, zR 8, zR 97, .inl i], [.inl (i + 1), zR 0, zR 97])) 6 (by decide) hz (zsteps_seg hg (by rw [show (.inl (i + 1) : zV) = .inl (w32 (i + 1)) from by rw [w32_id (by omega)]]; rfl)) ?_
  refine zG_iald (by decide) hz (hg _ _ rfl) rfl (.inr rfl) (by omega) ?_
  rw [show M1 0 (i + 1).toNat = x1 from (hc0 _).trans hx1.symm]
  show zG n (114, 4080270) 300 311 (699, [zR 0, zR 8, zR 97, .inl i], [.inl x1, zR 97]) M1 _
  refine zG_blk (c' := (703, [zR 0, zR 8, zR 97, .inl i], [.inl (i + 2), zR 0, .inl x1, zR 97])) 4 (by decide) hz (zsteps_seg hg (by rw [show (.inl (i + 2) : zV) = .inl (w32 (i + 2)) from by rw [w32_id (by omega)]]; rfl)) ?_
  refine zG_iald (by decide) hz (hg _ _ rfl) rfl (.inr rfl) (by omega) ?_
  rw [show M1 0 (i + 2).toNat = x2 from (hc0 _).trans hx2.symm]
  show zG n (114, 4080270) 300 311 (704, [zR 0, zR 8, zR 97, .inl i], [.inl x2, .inl x1, zR 97]) M1 _
  refine zG_blk (c' := (708, [zR 0, zR 8, zR 97, .inl i], [.inl (i + 3), zR 0, .inl x2, .inl x1, zR 97])) 4 (by decide) hz (zsteps_seg hg (by rw [show (.inl (i + 3) : zV) = .inl (w32 (i + 3)) from by rw [w32_id (by omega)]]; rfl)) ?_
  refine zG_iald (by decide) hz (hg _ _ rfl) rfl (.inr rfl) (by omega) ?_
  rw [show M1 0 (i + 3).toNat = x3 from (hc0 _).trans hx3.symm]
  show zG n (114, 4080270) 300 311 (709, [zR 0, zR 8, zR 97, .inl i], [.inl x3, .inl x2, .inl x1, zR 97]) M1 _
  refine zG_blk (c' := (713, [zR 0, zR 8, zR 97, .inl i], [.inl (i + 4), zR 0, .inl x3, .inl x2, .inl x1, zR 97])) 4 (by decide) hz (zsteps_seg hg (by rw [show (.inl (i + 4) : zV) = .inl (w32 (i + 4)) from by rw [w32_id (by omega)]]; rfl)) ?_
  refine zG_iald (by decide) hz (hg _ _ rfl) rfl (.inr rfl) (by omega) ?_
  rw [show M1 0 (i + 4).toNat = x4 from (hc0 _).trans hx4.symm]
  show zG n (114, 4080270) 300 311 (714, [zR 0, zR 8, zR 97, .inl i], [.inl x4, .inl x3, .inl x2, .inl x1, zR 97]) M1 _
  refine zG_blk (c' := (718, [zR 0, zR 8, zR 97, .inl i], [.inl (i + 5), zR 0, .inl x4, .inl x3, .inl x2, .inl x1, zR 97])) 4 (by decide) hz (zsteps_seg hg (by rw [show (.inl (i + 5) : zV) = .inl (w32 (i + 5)) from by rw [w32_id (by omega)]]; rfl)) ?_
  refine zG_iald (by decide) hz (hg _ _ rfl) rfl (.inr rfl) (by omega) ?_
  rw [show M1 0 (i + 5).toNat = x5 from (hc0 _).trans hx5.symm]
  show zG n (114, 4080270) 300 311 (719, [zR 0, zR 8, zR 97, .inl i], [.inl x5, .inl x4, .inl x3, .inl x2, .inl x1, zR 97]) M1 _
  refine zG_blk (c' := (724, [zR 0, zR 8, zR 97, .inl i], [.inl (i + 6), zR 0, .inl x5, .inl x4, .inl x3, .inl x2, .inl x1, zR 97])) 4 (by decide) hz (zsteps_seg hg (by rw [show (.inl (i + 6) : zV) = .inl (w32 (i + 6)) from by rw [w32_id (by omega)]]; rfl)) ?_
  refine zG_iald (by decide) hz (hg _ _ rfl) rfl (.inr rfl) (by omega) ?_
  rw [show M1 0 (i + 6).toNat = x6 from (hc0 _).trans hx6.symm]
  show zG n (114, 4080270) 300 311 (725, [zR 0, zR 8, zR 97, .inl i], [.inl x6, .inl x5, .inl x4, .inl x3, .inl x2, .inl x1, zR 97]) M1 _
  refine zG_call (by decide) hz zp_204 (hg _ _ rfl) rfl (Nat.le_of_ble_eq_true rfl) ⟨Nat.le_of_ble_eq_true rfl, Nat.le_of_ble_eq_true rfl⟩ (zG.andH (qm_204_97 (by decide) hI x1 (by omega) x2 (by omega) x3 (by omega) x4 (by omega) x5 (by omega) x6 (by omega)) (fh_204_97 x1 x2 x3 x4 x5 x6)) (fun vr M2 hr => ?_)
  obtain ⟨⟨⟨hC2, hF2⟩, -⟩, rfl, hM2⟩ := hr
  have hm := hm_132 hJ.2.2.1 hJ.1.tb hJ.2.1.bd (a1 := x1) (a2 := x2) (a3 := x3) (a4 := x4) (a5 := x5) (a6 := x6)
  rw [← hM1] at hm
  rw [← hM2] at hm
  have hJ2 : qJ M2 := hJ.mut hC1 hF1 rfl rfl hC2 hF2 rfl (by decide) hm.2
  have hX2 : qX M2 := hX1.mdl hF2 rfl
  have hU2 : qU M2 := hU1.f9 (wSm.mut hJ.2.2.1 hJ2.2.2.1 hJ.2.1.cnt0 hF1 rfl (hF2.lo rfl)) hF2 rfl
  show zG n (114, 4080270) 300 311 (728, [zR 0, zR 8, zR 97, .inl i], [.inl (hf_204_97 M1 x1 x2 x3 x4 x5 x6).1]) M2 _
  refine zG_blk (c' := (2158, [zR 0, zR 8, zR 97, .inl i], [])) 2 (by decide) hz (zsteps_seg hg rfl) ?_
  exact K M2 ⟨hJ2, hX2, hU2⟩
noncomputable def sg_10 : List zE := [(732, .aload_n ⟨1, zfin1⟩, 733, zx0),
  (733, .aload_n ⟨0, zfin0⟩, 734, zx0),
  (734, .iload_n ⟨3, zfin3⟩, 735, zx0),
  (735, .iconst 1, 736, zx0),
  (736, .iadd, 737, zx0),
  (737, .iaload, 738, zx0),
  (738, .aload_n ⟨0, zfin0⟩, 739, zx0),
  (739, .iload_n ⟨3, zfin3⟩, 740, zx0),
  (740, .iconst 2, 741, zx0),
  (741, .iadd, 742, zx0),
  (742, .iaload, 743, zx0),
  (743, .aload_n ⟨0, zfin0⟩, 744, zx0),
  (744, .iload_n ⟨3, zfin3⟩, 745, zx0),
  (745, .iconst 3, 746, zx0),
  (746, .iadd, 747, zx0),
  (747, .iaload, 748, zx0),
  (748, .aload_n ⟨0, zfin0⟩, 749, zx0),
  (749, .iload_n ⟨3, zfin3⟩, 750, zx0),
  (750, .iconst 4, 751, zx0),
  (751, .iadd, 752, zx0),
  (752, .iaload, 753, zx0),
  (753, .invokevirtual 59, 756, (133, 5, 0, [11])),
  (756, .pop, 757, zx0),
  (757, .aload_n ⟨2, zfin2⟩, 758, zx0),
  (758, .aload_n ⟨0, zfin0⟩, 759, zx0),
  (759, .iload_n ⟨3, zfin3⟩, 760, zx0),
  (760, .iconst 1, 761, zx0),
  (761, .iadd, 762, zx0),
  (762, .iaload, 763, zx0),
  (763, .aload_n ⟨0, zfin0⟩, 764, zx0),
  (764, .iload_n ⟨3, zfin3⟩, 765, zx0),
  (765, .iconst 2, 766, zx0),
  (766, .iadd, 767, zx0),
  (767, .iaload, 768, zx0),
  (768, .aload_n ⟨0, zfin0⟩, 769, zx0),
  (769, .iload_n ⟨3, zfin3⟩, 770, zx0),
  (770, .iconst 3, 771, zx0),
  (771, .iadd, 772, zx0),
  (772, .iaload, 773, zx0),
  (773, .aload_n ⟨0, zfin0⟩, 774, zx0),
  (774, .iload_n ⟨3, zfin3⟩, 775, zx0),
  (775, .iconst 4, 776, zx0),
  (776, .iadd, 777, zx0),
  (777, .iaload, 778, zx0),
  (778, .invokevirtual 62, 781, (205, 5, 0, [12])),
  (781, .pop, 782, zx0),
  (782, .goto (1376), 785, (2158, 0, 0, []))]
set_option maxRecDepth 100000 in
theorem sh_10 : zSeg zk_L_law sg_10 := zSeg_of 450 47 732 (by decide +kernel) rfl (by decide +kernel)
set_option maxRecDepth 100000 in
theorem qL_10 (hY : qY M) (hn : n ≤ 4096) (hi : 0 ≤ i ∧ i + 8 ≤ n) (K : ∀ M', qY M' → zG n (114, 4080270) 300 311 (2158, [zR 0, zR 8, zR 97, .inl i], []) M' qLQ) : zG n (114, 4080270) 300 311 (732, [zR 0, zR 8, zR 97, .inl i], []) M qLQ := by
  have hz := zp_311
  have hg := sh_10
  have hJ := hY.1
  have hX := hY.2.1
  have hU := hY.2.2
  refine zG_blk (c' := (737, [zR 0, zR 8, zR 97, .inl i], [.inl (i + 1), zR 0, zR 8])) 5 (by decide) hz (zsteps_seg hg (by rw [show (.inl (i + 1) : zV) = .inl (w32 (i + 1)) from by rw [w32_id (by omega)]]; rfl)) ?_
  refine zG_iald (by decide) hz (hg _ _ rfl) rfl (.inr rfl) (by omega) ?_
  obtain ⟨x1, hx1⟩ : ∃ x : Int, x = M 0 (i + 1).toNat := ⟨_, rfl⟩
  rw [← hx1]
  have hr1 : qin x1 := by rw [hx1]; exact hJ.1.rng 0 _ (by decide) (by decide)
  show zG n (114, 4080270) 300 311 (738, [zR 0, zR 8, zR 97, .inl i], [.inl x1, zR 8]) M _
  refine zG_blk (c' := (742, [zR 0, zR 8, zR 97, .inl i], [.inl (i + 2), zR 0, .inl x1, zR 8])) 4 (by decide) hz (zsteps_seg hg (by rw [show (.inl (i + 2) : zV) = .inl (w32 (i + 2)) from by rw [w32_id (by omega)]]; rfl)) ?_
  refine zG_iald (by decide) hz (hg _ _ rfl) rfl (.inr rfl) (by omega) ?_
  obtain ⟨x2, hx2⟩ : ∃ x : Int, x = M 0 (i + 2).toNat := ⟨_, rfl⟩
  rw [← hx2]
  have hr2 : qin x2 := by rw [hx2]; exact hJ.1.rng 0 _ (by decide) (by decide)
  show zG n (114, 4080270) 300 311 (743, [zR 0, zR 8, zR 97, .inl i], [.inl x2, .inl x1, zR 8]) M _
  refine zG_blk (c' := (747, [zR 0, zR 8, zR 97, .inl i], [.inl (i + 3), zR 0, .inl x2, .inl x1, zR 8])) 4 (by decide) hz (zsteps_seg hg (by rw [show (.inl (i + 3) : zV) = .inl (w32 (i + 3)) from by rw [w32_id (by omega)]]; rfl)) ?_
  refine zG_iald (by decide) hz (hg _ _ rfl) rfl (.inr rfl) (by omega) ?_
  obtain ⟨x3, hx3⟩ : ∃ x : Int, x = M 0 (i + 3).toNat := ⟨_, rfl⟩
  rw [← hx3]
  have hr3 : qin x3 := by rw [hx3]; exact hJ.1.rng 0 _ (by decide) (by decide)
  show zG n (114, 4080270) 300 311 (748, [zR 0, zR 8, zR 97, .inl i], [.inl x3, .inl x2, .inl x1, zR 8]) M _
  refine zG_blk (c' := (752, [zR 0, zR 8, zR 97, .inl i], [.inl (i + 4), zR 0, .inl x3, .inl x2, .inl x1, zR 8])) 4 (by decide) hz (zsteps_seg hg (by rw [show (.inl (i + 4) : zV) = .inl (w32 (i + 4)) from by rw [w32_id (by omega)]]; rfl)) ?_
  refine zG_iald (by decide) hz (hg _ _ rfl) rfl (.inr rfl) (by omega) ?_
  obtain ⟨x4, hx4⟩ : ∃ x : Int, x = M 0 (i + 4).toNat := ⟨_, rfl⟩
  rw [← hx4]
  have hr4 : qin x4 := by rw [hx4]; exact hJ.1.rng 0 _ (by decide) (by decide)
  show zG n (114, 4080270) 300 311 (753, [zR 0, zR 8, zR 97, .inl i], [.inl x4, .inl x3, .inl x2, .inl x1, zR 8]) M _
  refine zG_call (by decide) hz zp_133 (hg _ _ rfl) rfl (Nat.le_of_ble_eq_true rfl) ⟨Nat.le_of_ble_eq_true rfl, Nat.le_of_ble_eq_true rfl⟩ (zG.andH (qm_133_8 (by decide) hJ.1 x1 (by omega) x2 (by omega) x3 (by omega) x4 (by omega)) (fh_133_8 x1 x2 x3 x4)) (fun vr M1 hr => ?_)
  obtain ⟨⟨⟨hC1, hF1⟩, -⟩, rfl, hM1⟩ := hr
  have hi := hF1.hi rfl
  have hI := hJ.2.1.same hi
  have hc0 : ∀ j, M1 0 j = M 0 j := fun j => hF1 0 j (by decide)
  have hX1 : qX M1 := hX.cls hF1 rfl; have hU1 : qU M1 := hU.cg (hF1.hi rfl)
  show zG n (114, 4080270) 300 311 (756, [zR 0, zR 8, zR 97, .inl i], [.inl (hf_133_8 M x1 x2 x3 x4).1]) M1 _
  refine zG_blk (c' := (762, [zR 0, zR 8, zR 97, .inl i], [.inl (i + 1), zR 0, zR 97])) 6 (by decide) hz (zsteps_seg hg (by rw [show (.inl (i + 1) : zV) = .inl (w32 (i + 1)) from by rw [w32_id (by omega)]]; rfl)) ?_
  refine zG_iald (by decide) hz (hg _ _ rfl) rfl (.inr rfl) (by omega) ?_
  rw [show M1 0 (i + 1).toNat = x1 from (hc0 _).trans hx1.symm]
  show zG n (114, 4080270) 300 311 (763, [zR 0, zR 8, zR 97, .inl i], [.inl x1, zR 97]) M1 _
  refine zG_blk (c' := (767, [zR 0, zR 8, zR 97, .inl i], [.inl (i + 2), zR 0, .inl x1, zR 97])) 4 (by decide) hz (zsteps_seg hg (by rw [show (.inl (i + 2) : zV) = .inl (w32 (i + 2)) from by rw [w32_id (by omega)]]; rfl)) ?_
  refine zG_iald (by decide) hz (hg _ _ rfl) rfl (.inr rfl) (by omega) ?_
  rw [show M1 0 (i + 2).toNat = x2 from (hc0 _).trans hx2.symm]
  show zG n (114, 4080270) 300 311 (768, [zR 0, zR 8, zR 97, .inl i], [.inl x2, .inl x1, zR 97]) M1 _
  refine zG_blk (c' := (772, [zR 0, zR 8, zR 97, .inl i], [.inl (i + 3), zR 0, .inl x2, .inl x1, zR 97])) 4 (by decide) hz (zsteps_seg hg (by rw [show (.inl (i + 3) : zV) = .inl (w32 (i + 3)) from by rw [w32_id (by omega)]]; rfl)) ?_
  refine zG_iald (by decide) hz (hg _ _ rfl) rfl (.inr rfl) (by omega) ?_
  rw [show M1 0 (i + 3).toNat = x3 from (hc0 _).trans hx3.symm]
  show zG n (114, 4080270) 300 311 (773, [zR 0, zR 8, zR 97, .inl i], [.inl x3, .inl x2, .inl x1, zR 97]) M1 _
  refine zG_blk (c' := (777, [zR 0, zR 8, zR 97, .inl i], [.inl (i + 4), zR 0, .inl x3, .inl x2, .inl x1, zR 97])) 4 (by decide) hz (zsteps_seg hg (by rw [show (.inl (i + 4) : zV) = .inl (w32 (i + 4)) from by rw [w32_id (by omega)]]; rfl)) ?_
  refine zG_iald (by decide) hz (hg _ _ rfl) rfl (.inr rfl) (by omega) ?_
  rw [show M1 0 (i + 4).toNat = x4 from (hc0 _).trans hx4.symm]
  show zG n (114, 4080270) 300 311 (778, [zR 0, zR 8, zR 97, .inl i], [.inl x4, .inl x3, .inl x2, .inl x1, zR 97]) M1 _
  refine zG_call (by decide) hz zp_205 (hg _ _ rfl) rfl (Nat.le_of_ble_eq_true rfl) ⟨Nat.le_of_ble_eq_true rfl, Nat.le_of_ble_eq_true rfl⟩ (zG.andH (qm_205_97 (by decide) hI x1 (by omega) x2 (by omega) x3 (by omega) x4 (by omega)) (fh_205_97 x1 x2 x3 x4)) (fun vr M2 hr => ?_)
  obtain ⟨⟨⟨hC2, hF2⟩, -⟩, rfl, hM2⟩ := hr
  have hm := hm_133 hJ.2.2.1 hJ.1.tb hJ.2.1.bd (a1 := x1) (a2 := x2) (a3 := x3) (a4 := x4)
  rw [← hM1] at hm
  rw [← hM2] at hm
  have hJ2 : qJ M2 := hJ.mut hC1 hF1 rfl rfl hC2 hF2 rfl (by decide) hm.2
  have hX2 : qX M2 := hX1.mdl hF2 rfl
  have hU2 : qU M2 := hU1.f9 (wSm.mut hJ.2.2.1 hJ2.2.2.1 hJ.2.1.cnt0 hF1 rfl (hF2.lo rfl)) hF2 rfl
  show zG n (114, 4080270) 300 311 (781, [zR 0, zR 8, zR 97, .inl i], [.inl (hf_205_97 M1 x1 x2 x3 x4).1]) M2 _
  refine zG_blk (c' := (2158, [zR 0, zR 8, zR 97, .inl i], [])) 2 (by decide) hz (zsteps_seg hg rfl) ?_
  exact K M2 ⟨hJ2, hX2, hU2⟩
noncomputable def sg_11 : List zE := [(785, .aload_n ⟨1, zfin1⟩, 786, zx0),
  (786, .aload_n ⟨0, zfin0⟩, 787, zx0),
  (787, .iload_n ⟨3, zfin3⟩, 788, zx0),
  (788, .iconst 1, 789, zx0),
  (789, .iadd, 790, zx0),
  (790, .iaload, 791, zx0),
  (791, .aload_n ⟨0, zfin0⟩, 792, zx0),
  (792, .iload_n ⟨3, zfin3⟩, 793, zx0),
  (793, .iconst 2, 794, zx0),
  (794, .iadd, 795, zx0),
  (795, .iaload, 796, zx0),
  (796, .aload_n ⟨0, zfin0⟩, 797, zx0),
  (797, .iload_n ⟨3, zfin3⟩, 798, zx0),
  (798, .iconst 3, 799, zx0),
  (799, .iadd, 800, zx0),
  (800, .iaload, 801, zx0),
  (801, .invokevirtual 63, 804, (134, 4, 0, [11])),
  (804, .pop, 805, zx0),
  (805, .aload_n ⟨2, zfin2⟩, 806, zx0),
  (806, .aload_n ⟨0, zfin0⟩, 807, zx0),
  (807, .iload_n ⟨3, zfin3⟩, 808, zx0),
  (808, .iconst 1, 809, zx0),
  (809, .iadd, 810, zx0),
  (810, .iaload, 811, zx0),
  (811, .aload_n ⟨0, zfin0⟩, 812, zx0),
  (812, .iload_n ⟨3, zfin3⟩, 813, zx0),
  (813, .iconst 2, 814, zx0),
  (814, .iadd, 815, zx0),
  (815, .iaload, 816, zx0),
  (816, .aload_n ⟨0, zfin0⟩, 817, zx0),
  (817, .iload_n ⟨3, zfin3⟩, 818, zx0),
  (818, .iconst 3, 819, zx0),
  (819, .iadd, 820, zx0),
  (820, .iaload, 821, zx0),
  (821, .invokevirtual 67, 824, (206, 4, 0, [12])),
  (824, .pop, 825, zx0),
  (825, .goto (1333), 828, (2158, 0, 0, []))]
set_option maxRecDepth 100000 in
theorem sh_11 : zSeg zk_L_law sg_11 := zSeg_of 497 37 785 (by decide +kernel) rfl (by decide +kernel)
set_option maxRecDepth 100000 in
theorem qL_11 (hY : qY M) (hn : n ≤ 4096) (hi : 0 ≤ i ∧ i + 8 ≤ n) (K : ∀ M', qY M' → zG n (114, 4080270) 300 311 (2158, [zR 0, zR 8, zR 97, .inl i], []) M' qLQ) : zG n (114, 4080270) 300 311 (785, [zR 0, zR 8, zR 97, .inl i], []) M qLQ := by
  have hz := zp_311
  have hg := sh_11
  have hJ := hY.1
  have hX := hY.2.1
  have hU := hY.2.2
  refine zG_blk (c' := (790, [zR 0, zR 8, zR 97, .inl i], [.inl (i + 1), zR 0, zR 8])) 5 (by decide) hz (zsteps_seg hg (by rw [show (.inl (i + 1) : zV) = .inl (w32 (i + 1)) from by rw [w32_id (by omega)]]; rfl)) ?_
  refine zG_iald (by decide) hz (hg _ _ rfl) rfl (.inr rfl) (by omega) ?_
  obtain ⟨x1, hx1⟩ : ∃ x : Int, x = M 0 (i + 1).toNat := ⟨_, rfl⟩
  rw [← hx1]
  have hr1 : qin x1 := by rw [hx1]; exact hJ.1.rng 0 _ (by decide) (by decide)
  show zG n (114, 4080270) 300 311 (791, [zR 0, zR 8, zR 97, .inl i], [.inl x1, zR 8]) M _
  refine zG_blk (c' := (795, [zR 0, zR 8, zR 97, .inl i], [.inl (i + 2), zR 0, .inl x1, zR 8])) 4 (by decide) hz (zsteps_seg hg (by rw [show (.inl (i + 2) : zV) = .inl (w32 (i + 2)) from by rw [w32_id (by omega)]]; rfl)) ?_
  refine zG_iald (by decide) hz (hg _ _ rfl) rfl (.inr rfl) (by omega) ?_
  obtain ⟨x2, hx2⟩ : ∃ x : Int, x = M 0 (i + 2).toNat := ⟨_, rfl⟩
  rw [← hx2]
  have hr2 : qin x2 := by rw [hx2]; exact hJ.1.rng 0 _ (by decide) (by decide)
  show zG n (114, 4080270) 300 311 (796, [zR 0, zR 8, zR 97, .inl i], [.inl x2, .inl x1, zR 8]) M _
  refine zG_blk (c' := (800, [zR 0, zR 8, zR 97, .inl i], [.inl (i + 3), zR 0, .inl x2, .inl x1, zR 8])) 4 (by decide) hz (zsteps_seg hg (by rw [show (.inl (i + 3) : zV) = .inl (w32 (i + 3)) from by rw [w32_id (by omega)]]; rfl)) ?_
  refine zG_iald (by decide) hz (hg _ _ rfl) rfl (.inr rfl) (by omega) ?_
  obtain ⟨x3, hx3⟩ : ∃ x : Int, x = M 0 (i + 3).toNat := ⟨_, rfl⟩
  rw [← hx3]
  have hr3 : qin x3 := by rw [hx3]; exact hJ.1.rng 0 _ (by decide) (by decide)
  show zG n (114, 4080270) 300 311 (801, [zR 0, zR 8, zR 97, .inl i], [.inl x3, .inl x2, .inl x1, zR 8]) M _
  refine zG_call (by decide) hz zp_134 (hg _ _ rfl) rfl (Nat.le_of_ble_eq_true rfl) ⟨Nat.le_of_ble_eq_true rfl, Nat.le_of_ble_eq_true rfl⟩ (zG.andH (qm_134_8 (by decide) hJ.1 x1 (by omega) x2 (by omega) x3 (by omega)) (fh_134_8 x1 x2 x3)) (fun vr M1 hr => ?_)
  obtain ⟨⟨⟨hC1, hF1⟩, -⟩, rfl, hM1⟩ := hr
  have hi := hF1.hi rfl
  have hI := hJ.2.1.same hi
  have hc0 : ∀ j, M1 0 j = M 0 j := fun j => hF1 0 j (by decide)
  have hX1 : qX M1 := hX.cls hF1 rfl; have hU1 : qU M1 := hU.cg (hF1.hi rfl)
  show zG n (114, 4080270) 300 311 (804, [zR 0, zR 8, zR 97, .inl i], [.inl (hf_134_8 M x1 x2 x3).1]) M1 _
  refine zG_blk (c' := (810, [zR 0, zR 8, zR 97, .inl i], [.inl (i + 1), zR 0, zR 97])) 6 (by decide) hz (zsteps_seg hg (by rw [show (.inl (i + 1) : zV) = .inl (w32 (i + 1)) from by rw [w32_id (by omega)]]; rfl)) ?_
  refine zG_iald (by decide) hz (hg _ _ rfl) rfl (.inr rfl) (by omega) ?_
  rw [show M1 0 (i + 1).toNat = x1 from (hc0 _).trans hx1.symm]
  show zG n (114, 4080270) 300 311 (811, [zR 0, zR 8, zR 97, .inl i], [.inl x1, zR 97]) M1 _
  refine zG_blk (c' := (815, [zR 0, zR 8, zR 97, .inl i], [.inl (i + 2), zR 0, .inl x1, zR 97])) 4 (by decide) hz (zsteps_seg hg (by rw [show (.inl (i + 2) : zV) = .inl (w32 (i + 2)) from by rw [w32_id (by omega)]]; rfl)) ?_
  refine zG_iald (by decide) hz (hg _ _ rfl) rfl (.inr rfl) (by omega) ?_
  rw [show M1 0 (i + 2).toNat = x2 from (hc0 _).trans hx2.symm]
  show zG n (114, 4080270) 300 311 (816, [zR 0, zR 8, zR 97, .inl i], [.inl x2, .inl x1, zR 97]) M1 _
  refine zG_blk (c' := (820, [zR 0, zR 8, zR 97, .inl i], [.inl (i + 3), zR 0, .inl x2, .inl x1, zR 97])) 4 (by decide) hz (zsteps_seg hg (by rw [show (.inl (i + 3) : zV) = .inl (w32 (i + 3)) from by rw [w32_id (by omega)]]; rfl)) ?_
  refine zG_iald (by decide) hz (hg _ _ rfl) rfl (.inr rfl) (by omega) ?_
  rw [show M1 0 (i + 3).toNat = x3 from (hc0 _).trans hx3.symm]
  show zG n (114, 4080270) 300 311 (821, [zR 0, zR 8, zR 97, .inl i], [.inl x3, .inl x2, .inl x1, zR 97]) M1 _
  refine zG_call (by decide) hz zp_206 (hg _ _ rfl) rfl (Nat.le_of_ble_eq_true rfl) ⟨Nat.le_of_ble_eq_true rfl, Nat.le_of_ble_eq_true rfl⟩ (zG.andH (qm_206_97 (by decide) hI x1 (by omega) x2 (by omega) x3 (by omega)) (fh_206_97 x1 x2 x3)) (fun vr M2 hr => ?_)
  obtain ⟨⟨⟨hC2, hF2⟩, -⟩, rfl, hM2⟩ := hr
  have hm := hm_134 hJ.2.2.1 hJ.1.tb hJ.2.1.bd (a1 := x1) (a2 := x2) (a3 := x3)
  rw [← hM1] at hm
  rw [← hM2] at hm
  have hJ2 : qJ M2 := hJ.mut hC1 hF1 rfl rfl hC2 hF2 rfl (by decide) hm.2
  have hX2 : qX M2 := hX1.mdl hF2 rfl
  have hU2 : qU M2 := hU1.f9 (wSm.mut hJ.2.2.1 hJ2.2.2.1 hJ.2.1.cnt0 hF1 rfl (hF2.lo rfl)) hF2 rfl
  show zG n (114, 4080270) 300 311 (824, [zR 0, zR 8, zR 97, .inl i], [.inl (hf_206_97 M1 x1 x2 x3).1]) M2 _
  refine zG_blk (c' := (2158, [zR 0, zR 8, zR 97, .inl i], [])) 2 (by decide) hz (zsteps_seg hg rfl) ?_
  exact K M2 ⟨hJ2, hX2, hU2⟩
noncomputable def sg_12 : List zE := [(828, .aload_n ⟨1, zfin1⟩, 829, zx0),
  (829, .aload_n ⟨0, zfin0⟩, 830, zx0),
  (830, .iload_n ⟨3, zfin3⟩, 831, zx0),
  (831, .iconst 1, 832, zx0),
  (832, .iadd, 833, zx0),
  (833, .iaload, 834, zx0),
  (834, .aload_n ⟨0, zfin0⟩, 835, zx0),
  (835, .iload_n ⟨3, zfin3⟩, 836, zx0),
  (836, .iconst 2, 837, zx0),
  (837, .iadd, 838, zx0),
  (838, .iaload, 839, zx0),
  (839, .aload_n ⟨0, zfin0⟩, 840, zx0),
  (840, .iload_n ⟨3, zfin3⟩, 841, zx0),
  (841, .iconst 3, 842, zx0),
  (842, .iadd, 843, zx0),
  (843, .iaload, 844, zx0),
  (844, .invokevirtual 68, 847, (135, 4, 0, [11])),
  (847, .pop, 848, zx0),
  (848, .aload_n ⟨2, zfin2⟩, 849, zx0),
  (849, .aload_n ⟨0, zfin0⟩, 850, zx0),
  (850, .iload_n ⟨3, zfin3⟩, 851, zx0),
  (851, .iconst 1, 852, zx0),
  (852, .iadd, 853, zx0),
  (853, .iaload, 854, zx0),
  (854, .aload_n ⟨0, zfin0⟩, 855, zx0),
  (855, .iload_n ⟨3, zfin3⟩, 856, zx0),
  (856, .iconst 2, 857, zx0),
  (857, .iadd, 858, zx0),
  (858, .iaload, 859, zx0),
  (859, .aload_n ⟨0, zfin0⟩, 860, zx0),
  (860, .iload_n ⟨3, zfin3⟩, 861, zx0),
  (861, .iconst 3, 862, zx0),
  (862, .iadd, 863, zx0),
  (863, .iaload, 864, zx0),
  (864, .invokevirtual 71, 867, (207, 4, 0, [12])),
  (867, .pop, 868, zx0),
  (868, .goto (1290), 871, (2158, 0, 0, []))]
set_option maxRecDepth 100000 in
theorem sh_12 : zSeg zk_L_law sg_12 := zSeg_of 534 37 828 (by decide +kernel) rfl (by decide +kernel)
set_option maxRecDepth 100000 in
theorem qL_12 (hY : qY M) (hn : n ≤ 4096) (hi : 0 ≤ i ∧ i + 8 ≤ n) (K : ∀ M', qY M' → zG n (114, 4080270) 300 311 (2158, [zR 0, zR 8, zR 97, .inl i], []) M' qLQ) : zG n (114, 4080270) 300 311 (828, [zR 0, zR 8, zR 97, .inl i], []) M qLQ := by
  have hz := zp_311
  have hg := sh_12
  have hJ := hY.1
  have hX := hY.2.1
  have hU := hY.2.2
  refine zG_blk (c' := (833, [zR 0, zR 8, zR 97, .inl i], [.inl (i + 1), zR 0, zR 8])) 5 (by decide) hz (zsteps_seg hg (by rw [show (.inl (i + 1) : zV) = .inl (w32 (i + 1)) from by rw [w32_id (by omega)]]; rfl)) ?_
  refine zG_iald (by decide) hz (hg _ _ rfl) rfl (.inr rfl) (by omega) ?_
  obtain ⟨x1, hx1⟩ : ∃ x : Int, x = M 0 (i + 1).toNat := ⟨_, rfl⟩
  rw [← hx1]
  have hr1 : qin x1 := by rw [hx1]; exact hJ.1.rng 0 _ (by decide) (by decide)
  show zG n (114, 4080270) 300 311 (834, [zR 0, zR 8, zR 97, .inl i], [.inl x1, zR 8]) M _
  refine zG_blk (c' := (838, [zR 0, zR 8, zR 97, .inl i], [.inl (i + 2), zR 0, .inl x1, zR 8])) 4 (by decide) hz (zsteps_seg hg (by rw [show (.inl (i + 2) : zV) = .inl (w32 (i + 2)) from by rw [w32_id (by omega)]]; rfl)) ?_
  refine zG_iald (by decide) hz (hg _ _ rfl) rfl (.inr rfl) (by omega) ?_
  obtain ⟨x2, hx2⟩ : ∃ x : Int, x = M 0 (i + 2).toNat := ⟨_, rfl⟩
  rw [← hx2]
  have hr2 : qin x2 := by rw [hx2]; exact hJ.1.rng 0 _ (by decide) (by decide)
  show zG n (114, 4080270) 300 311 (839, [zR 0, zR 8, zR 97, .inl i], [.inl x2, .inl x1, zR 8]) M _
  refine zG_blk (c' := (843, [zR 0, zR 8, zR 97, .inl i], [.inl (i + 3), zR 0, .inl x2, .inl x1, zR 8])) 4 (by decide) hz (zsteps_seg hg (by rw [show (.inl (i + 3) : zV) = .inl (w32 (i + 3)) from by rw [w32_id (by omega)]]; rfl)) ?_
  refine zG_iald (by decide) hz (hg _ _ rfl) rfl (.inr rfl) (by omega) ?_
  obtain ⟨x3, hx3⟩ : ∃ x : Int, x = M 0 (i + 3).toNat := ⟨_, rfl⟩
  rw [← hx3]
  have hr3 : qin x3 := by rw [hx3]; exact hJ.1.rng 0 _ (by decide) (by decide)
  show zG n (114, 4080270) 300 311 (844, [zR 0, zR 8, zR 97, .inl i], [.inl x3, .inl x2, .inl x1, zR 8]) M _
  refine zG_call (by decide) hz zp_135 (hg _ _ rfl) rfl (Nat.le_of_ble_eq_true rfl) ⟨Nat.le_of_ble_eq_true rfl, Nat.le_of_ble_eq_true rfl⟩ (zG.andH (qm_135_8 (by decide) hJ.1 x1 (by omega) x2 (by omega) x3 (by omega)) (fh_135_8 x1 x2 x3)) (fun vr M1 hr => ?_)
  obtain ⟨⟨⟨hC1, hF1⟩, -⟩, rfl, hM1⟩ := hr
  have hi := hF1.hi rfl
  have hI := hJ.2.1.same hi
  have hc0 : ∀ j, M1 0 j = M 0 j := fun j => hF1 0 j (by decide)
  have hX1 : qX M1 := hX.cls hF1 rfl; have hU1 : qU M1 := hU.cg (hF1.hi rfl)
  show zG n (114, 4080270) 300 311 (847, [zR 0, zR 8, zR 97, .inl i], [.inl (hf_135_8 M x1 x2 x3).1]) M1 _
  refine zG_blk (c' := (853, [zR 0, zR 8, zR 97, .inl i], [.inl (i + 1), zR 0, zR 97])) 6 (by decide) hz (zsteps_seg hg (by rw [show (.inl (i + 1) : zV) = .inl (w32 (i + 1)) from by rw [w32_id (by omega)]]; rfl)) ?_
  refine zG_iald (by decide) hz (hg _ _ rfl) rfl (.inr rfl) (by omega) ?_
  rw [show M1 0 (i + 1).toNat = x1 from (hc0 _).trans hx1.symm]
  show zG n (114, 4080270) 300 311 (854, [zR 0, zR 8, zR 97, .inl i], [.inl x1, zR 97]) M1 _
  refine zG_blk (c' := (858, [zR 0, zR 8, zR 97, .inl i], [.inl (i + 2), zR 0, .inl x1, zR 97])) 4 (by decide) hz (zsteps_seg hg (by rw [show (.inl (i + 2) : zV) = .inl (w32 (i + 2)) from by rw [w32_id (by omega)]]; rfl)) ?_
  refine zG_iald (by decide) hz (hg _ _ rfl) rfl (.inr rfl) (by omega) ?_
  rw [show M1 0 (i + 2).toNat = x2 from (hc0 _).trans hx2.symm]
  show zG n (114, 4080270) 300 311 (859, [zR 0, zR 8, zR 97, .inl i], [.inl x2, .inl x1, zR 97]) M1 _
  refine zG_blk (c' := (863, [zR 0, zR 8, zR 97, .inl i], [.inl (i + 3), zR 0, .inl x2, .inl x1, zR 97])) 4 (by decide) hz (zsteps_seg hg (by rw [show (.inl (i + 3) : zV) = .inl (w32 (i + 3)) from by rw [w32_id (by omega)]]; rfl)) ?_
  refine zG_iald (by decide) hz (hg _ _ rfl) rfl (.inr rfl) (by omega) ?_
  rw [show M1 0 (i + 3).toNat = x3 from (hc0 _).trans hx3.symm]
  show zG n (114, 4080270) 300 311 (864, [zR 0, zR 8, zR 97, .inl i], [.inl x3, .inl x2, .inl x1, zR 97]) M1 _
  refine zG_call (by decide) hz zp_207 (hg _ _ rfl) rfl (Nat.le_of_ble_eq_true rfl) ⟨Nat.le_of_ble_eq_true rfl, Nat.le_of_ble_eq_true rfl⟩ (zG.andH (qm_207_97 (by decide) hI x1 (by omega) x2 (by omega) x3 (by omega)) (fh_207_97 x1 x2 x3)) (fun vr M2 hr => ?_)
  obtain ⟨⟨⟨hC2, hF2⟩, -⟩, rfl, hM2⟩ := hr
  have hm := hm_135 hJ.2.2.1 hJ.1.tb hJ.2.1.bd (a1 := x1) (a2 := x2) (a3 := x3)
  rw [← hM1] at hm
  rw [← hM2] at hm
  have hJ2 : qJ M2 := hJ.mut hC1 hF1 rfl rfl hC2 hF2 rfl (by decide) hm.2
  have hX2 : qX M2 := hX1.mdl hF2 rfl
  have hU2 : qU M2 := hU1.f9 (wSm.mut hJ.2.2.1 hJ2.2.2.1 hJ.2.1.cnt0 hF1 rfl (hF2.lo rfl)) hF2 rfl
  show zG n (114, 4080270) 300 311 (867, [zR 0, zR 8, zR 97, .inl i], [.inl (hf_207_97 M1 x1 x2 x3).1]) M2 _
  refine zG_blk (c' := (2158, [zR 0, zR 8, zR 97, .inl i], [])) 2 (by decide) hz (zsteps_seg hg rfl) ?_
  exact K M2 ⟨hJ2, hX2, hU2⟩
noncomputable def sg_13 : List zE := [(871, .aload_n ⟨1, zfin1⟩, 872, zx0),
  (872, .aload_n ⟨0, zfin0⟩, 873, zx0),
  (873, .iload_n ⟨3, zfin3⟩, 874, zx0),
  (874, .iconst 1, 875, zx0),
  (875, .iadd, 876, zx0),
  (876, .iaload, 877, zx0),
  (877, .aload_n ⟨0, zfin0⟩, 878, zx0),
  (878, .iload_n ⟨3, zfin3⟩, 879, zx0),
  (879, .iconst 2, 880, zx0),
  (880, .iadd, 881, zx0),
  (881, .iaload, 882, zx0),
  (882, .invokevirtual 72, 885, (136, 3, 0, [11])),
  (885, .pop, 886, zx0),
  (886, .aload_n ⟨2, zfin2⟩, 887, zx0),
  (887, .aload_n ⟨0, zfin0⟩, 888, zx0),
  (888, .iload_n ⟨3, zfin3⟩, 889, zx0),
  (889, .iconst 1, 890, zx0),
  (890, .iadd, 891, zx0),
  (891, .iaload, 892, zx0),
  (892, .aload_n ⟨0, zfin0⟩, 893, zx0),
  (893, .iload_n ⟨3, zfin3⟩, 894, zx0),
  (894, .iconst 2, 895, zx0),
  (895, .iadd, 896, zx0),
  (896, .iaload, 897, zx0),
  (897, .invokevirtual 75, 900, (208, 3, 0, [12])),
  (900, .pop, 901, zx0),
  (901, .goto (1257), 904, (2158, 0, 0, []))]
set_option maxRecDepth 100000 in
theorem sh_13 : zSeg zk_L_law sg_13 := zSeg_of 571 27 871 (by decide +kernel) rfl (by decide +kernel)
set_option maxRecDepth 100000 in
theorem qL_13 (hY : qY M) (hn : n ≤ 4096) (hi : 0 ≤ i ∧ i + 8 ≤ n) (K : ∀ M', qY M' → zG n (114, 4080270) 300 311 (2158, [zR 0, zR 8, zR 97, .inl i], []) M' qLQ) : zG n (114, 4080270) 300 311 (871, [zR 0, zR 8, zR 97, .inl i], []) M qLQ := by
  have hz := zp_311
  have hg := sh_13
  have hJ := hY.1
  have hX := hY.2.1
  have hU := hY.2.2
  refine zG_blk (c' := (876, [zR 0, zR 8, zR 97, .inl i], [.inl (i + 1), zR 0, zR 8])) 5 (by decide) hz (zsteps_seg hg (by rw [show (.inl (i + 1) : zV) = .inl (w32 (i + 1)) from by rw [w32_id (by omega)]]; rfl)) ?_
  refine zG_iald (by decide) hz (hg _ _ rfl) rfl (.inr rfl) (by omega) ?_
  obtain ⟨x1, hx1⟩ : ∃ x : Int, x = M 0 (i + 1).toNat := ⟨_, rfl⟩
  rw [← hx1]
  have hr1 : qin x1 := by rw [hx1]; exact hJ.1.rng 0 _ (by decide) (by decide)
  show zG n (114, 4080270) 300 311 (877, [zR 0, zR 8, zR 97, .inl i], [.inl x1, zR 8]) M _
  refine zG_blk (c' := (881, [zR 0, zR 8, zR 97, .inl i], [.inl (i + 2), zR 0, .inl x1, zR 8])) 4 (by decide) hz (zsteps_seg hg (by rw [show (.inl (i + 2) : zV) = .inl (w32 (i + 2)) from by rw [w32_id (by omega)]]; rfl)) ?_
  refine zG_iald (by decide) hz (hg _ _ rfl) rfl (.inr rfl) (by omega) ?_
  obtain ⟨x2, hx2⟩ : ∃ x : Int, x = M 0 (i + 2).toNat := ⟨_, rfl⟩
  rw [← hx2]
  have hr2 : qin x2 := by rw [hx2]; exact hJ.1.rng 0 _ (by decide) (by decide)
  show zG n (114, 4080270) 300 311 (882, [zR 0, zR 8, zR 97, .inl i], [.inl x2, .inl x1, zR 8]) M _
  refine zG_call (by decide) hz zp_136 (hg _ _ rfl) rfl (Nat.le_of_ble_eq_true rfl) ⟨Nat.le_of_ble_eq_true rfl, Nat.le_of_ble_eq_true rfl⟩ (zG.andH (qm_136_8 (by decide) hJ.1 x1 (by omega) x2 (by omega)) (fh_136_8 x1 x2)) (fun vr M1 hr => ?_)
  obtain ⟨⟨⟨hC1, hF1⟩, -⟩, rfl, hM1⟩ := hr
  have hi := hF1.hi rfl
  have hI := hJ.2.1.same hi
  have hc0 : ∀ j, M1 0 j = M 0 j := fun j => hF1 0 j (by decide)
  have hX1 : qX M1 := hX.cls hF1 rfl; have hU1 : qU M1 := hU.cg (hF1.hi rfl)
  show zG n (114, 4080270) 300 311 (885, [zR 0, zR 8, zR 97, .inl i], [.inl (hf_136_8 M x1 x2).1]) M1 _
  refine zG_blk (c' := (891, [zR 0, zR 8, zR 97, .inl i], [.inl (i + 1), zR 0, zR 97])) 6 (by decide) hz (zsteps_seg hg (by rw [show (.inl (i + 1) : zV) = .inl (w32 (i + 1)) from by rw [w32_id (by omega)]]; rfl)) ?_
  refine zG_iald (by decide) hz (hg _ _ rfl) rfl (.inr rfl) (by omega) ?_
  rw [show M1 0 (i + 1).toNat = x1 from (hc0 _).trans hx1.symm]
  show zG n (114, 4080270) 300 311 (892, [zR 0, zR 8, zR 97, .inl i], [.inl x1, zR 97]) M1 _
  refine zG_blk (c' := (896, [zR 0, zR 8, zR 97, .inl i], [.inl (i + 2), zR 0, .inl x1, zR 97])) 4 (by decide) hz (zsteps_seg hg (by rw [show (.inl (i + 2) : zV) = .inl (w32 (i + 2)) from by rw [w32_id (by omega)]]; rfl)) ?_
  refine zG_iald (by decide) hz (hg _ _ rfl) rfl (.inr rfl) (by omega) ?_
  rw [show M1 0 (i + 2).toNat = x2 from (hc0 _).trans hx2.symm]
  show zG n (114, 4080270) 300 311 (897, [zR 0, zR 8, zR 97, .inl i], [.inl x2, .inl x1, zR 97]) M1 _
  refine zG_call (by decide) hz zp_208 (hg _ _ rfl) rfl (Nat.le_of_ble_eq_true rfl) ⟨Nat.le_of_ble_eq_true rfl, Nat.le_of_ble_eq_true rfl⟩ (zG.andH (qm_208_97 (by decide) hI x1 (by omega) x2 (by omega)) (fh_208_97 x1 x2)) (fun vr M2 hr => ?_)
  obtain ⟨⟨⟨hC2, hF2⟩, -⟩, rfl, hM2⟩ := hr
  have hm := hm_136 hJ.2.2.1 hJ.1.tb hJ.2.1.bd (a1 := x1) (a2 := x2)
  rw [← hM1] at hm
  rw [← hM2] at hm
  have hJ2 : qJ M2 := hJ.mut hC1 hF1 rfl rfl hC2 hF2 rfl (by decide) hm.2
  have hX2 : qX M2 := hX1.mdl hF2 rfl
  have hU2 : qU M2 := hU1.f9 (wSm.mut hJ.2.2.1 hJ2.2.2.1 hJ.2.1.cnt0 hF1 rfl (hF2.lo rfl)) hF2 rfl
  show zG n (114, 4080270) 300 311 (900, [zR 0, zR 8, zR 97, .inl i], [.inl (hf_208_97 M1 x1 x2).1]) M2 _
  refine zG_blk (c' := (2158, [zR 0, zR 8, zR 97, .inl i], [])) 2 (by decide) hz (zsteps_seg hg rfl) ?_
  exact K M2 ⟨hJ2, hX2, hU2⟩
noncomputable def sg_14 : List zE := [(904, .aload_n ⟨1, zfin1⟩, 905, zx0),
  (905, .aload_n ⟨0, zfin0⟩, 906, zx0),
  (906, .iload_n ⟨3, zfin3⟩, 907, zx0),
  (907, .iconst 1, 908, zx0),
  (908, .iadd, 909, zx0),
  (909, .iaload, 910, zx0),
  (910, .invokevirtual 76, 913, (137, 2, 0, [11])),
  (913, .pop, 914, zx0),
  (914, .aload_n ⟨2, zfin2⟩, 915, zx0),
  (915, .aload_n ⟨0, zfin0⟩, 916, zx0),
  (916, .iload_n ⟨3, zfin3⟩, 917, zx0),
  (917, .iconst 1, 918, zx0),
  (918, .iadd, 919, zx0),
  (919, .iaload, 920, zx0),
  (920, .invokevirtual 79, 923, (209, 2, 0, [12])),
  (923, .pop, 924, zx0),
  (924, .goto (1234), 927, (2158, 0, 0, []))]
set_option maxRecDepth 100000 in
theorem sh_14 : zSeg zk_L_law sg_14 := zSeg_of 598 17 904 (by decide +kernel) rfl (by decide +kernel)
set_option maxRecDepth 100000 in
theorem qL_14 (hY : qY M) (hn : n ≤ 4096) (hi : 0 ≤ i ∧ i + 8 ≤ n) (K : ∀ M', qY M' → zG n (114, 4080270) 300 311 (2158, [zR 0, zR 8, zR 97, .inl i], []) M' qLQ) : zG n (114, 4080270) 300 311 (904, [zR 0, zR 8, zR 97, .inl i], []) M qLQ := by
  have hz := zp_311
  have hg := sh_14
  have hJ := hY.1
  have hX := hY.2.1
  have hU := hY.2.2
  refine zG_blk (c' := (909, [zR 0, zR 8, zR 97, .inl i], [.inl (i + 1), zR 0, zR 8])) 5 (by decide) hz (zsteps_seg hg (by rw [show (.inl (i + 1) : zV) = .inl (w32 (i + 1)) from by rw [w32_id (by omega)]]; rfl)) ?_
  refine zG_iald (by decide) hz (hg _ _ rfl) rfl (.inr rfl) (by omega) ?_
  obtain ⟨x1, hx1⟩ : ∃ x : Int, x = M 0 (i + 1).toNat := ⟨_, rfl⟩
  rw [← hx1]
  have hr1 : qin x1 := by rw [hx1]; exact hJ.1.rng 0 _ (by decide) (by decide)
  show zG n (114, 4080270) 300 311 (910, [zR 0, zR 8, zR 97, .inl i], [.inl x1, zR 8]) M _
  refine zG_call (by decide) hz zp_137 (hg _ _ rfl) rfl (Nat.le_of_ble_eq_true rfl) ⟨Nat.le_of_ble_eq_true rfl, Nat.le_of_ble_eq_true rfl⟩ (zG.andH (qm_137_8 (by decide) hJ.1 x1 (by omega)) (fh_137_8 x1)) (fun vr M1 hr => ?_)
  obtain ⟨⟨⟨hC1, hF1⟩, -⟩, rfl, hM1⟩ := hr
  have hi := hF1.hi rfl
  have hI := hJ.2.1.same hi
  have hc0 : ∀ j, M1 0 j = M 0 j := fun j => hF1 0 j (by decide)
  have hX1 : qX M1 := hX.cls hF1 rfl; have hU1 : qU M1 := hU.cg (hF1.hi rfl)
  show zG n (114, 4080270) 300 311 (913, [zR 0, zR 8, zR 97, .inl i], [.inl (hf_137_8 M x1).1]) M1 _
  refine zG_blk (c' := (919, [zR 0, zR 8, zR 97, .inl i], [.inl (i + 1), zR 0, zR 97])) 6 (by decide) hz (zsteps_seg hg (by rw [show (.inl (i + 1) : zV) = .inl (w32 (i + 1)) from by rw [w32_id (by omega)]]; rfl)) ?_
  refine zG_iald (by decide) hz (hg _ _ rfl) rfl (.inr rfl) (by omega) ?_
  rw [show M1 0 (i + 1).toNat = x1 from (hc0 _).trans hx1.symm]
  show zG n (114, 4080270) 300 311 (920, [zR 0, zR 8, zR 97, .inl i], [.inl x1, zR 97]) M1 _
  refine zG_call (by decide) hz zp_209 (hg _ _ rfl) rfl (Nat.le_of_ble_eq_true rfl) ⟨Nat.le_of_ble_eq_true rfl, Nat.le_of_ble_eq_true rfl⟩ (zG.andH (qm_209_97 (by decide) hI x1 (by omega)) (fh_209_97 x1)) (fun vr M2 hr => ?_)
  obtain ⟨⟨⟨hC2, hF2⟩, -⟩, rfl, hM2⟩ := hr
  have hm := hm_137 hJ.2.2.1 hJ.1.tb hJ.2.1.bd (a1 := x1)
  rw [← hM1] at hm
  rw [← hM2] at hm
  have hJ2 : qJ M2 := hJ.mut hC1 hF1 rfl rfl hC2 hF2 rfl (by decide) hm.2
  have hX2 : qX M2 := hX1.mdl hF2 rfl
  have hU2 : qU M2 := hU1.f9 (wSm.mut hJ.2.2.1 hJ2.2.2.1 hJ.2.1.cnt0 hF1 rfl (hF2.lo rfl)) hF2 rfl
  show zG n (114, 4080270) 300 311 (923, [zR 0, zR 8, zR 97, .inl i], [.inl (hf_209_97 M1 x1).1]) M2 _
  refine zG_blk (c' := (2158, [zR 0, zR 8, zR 97, .inl i], [])) 2 (by decide) hz (zsteps_seg hg rfl) ?_
  exact K M2 ⟨hJ2, hX2, hU2⟩
noncomputable def sg_15 : List zE := [(927, .aload_n ⟨1, zfin1⟩, 928, zx0),
  (928, .aload_n ⟨0, zfin0⟩, 929, zx0),
  (929, .iload_n ⟨3, zfin3⟩, 930, zx0),
  (930, .iconst 1, 931, zx0),
  (931, .iadd, 932, zx0),
  (932, .iaload, 933, zx0),
  (933, .aload_n ⟨0, zfin0⟩, 934, zx0),
  (934, .iload_n ⟨3, zfin3⟩, 935, zx0),
  (935, .iconst 2, 936, zx0),
  (936, .iadd, 937, zx0),
  (937, .iaload, 938, zx0),
  (938, .invokevirtual 80, 941, (138, 3, 0, [11])),
  (941, .pop, 942, zx0),
  (942, .aload_n ⟨2, zfin2⟩, 943, zx0),
  (943, .aload_n ⟨0, zfin0⟩, 944, zx0),
  (944, .iload_n ⟨3, zfin3⟩, 945, zx0),
  (945, .iconst 1, 946, zx0),
  (946, .iadd, 947, zx0),
  (947, .iaload, 948, zx0),
  (948, .aload_n ⟨0, zfin0⟩, 949, zx0),
  (949, .iload_n ⟨3, zfin3⟩, 950, zx0),
  (950, .iconst 2, 951, zx0),
  (951, .iadd, 952, zx0),
  (952, .iaload, 953, zx0),
  (953, .invokevirtual 83, 956, (210, 3, 0, [12])),
  (956, .pop, 957, zx0),
  (957, .goto (1201), 960, (2158, 0, 0, []))]
set_option maxRecDepth 100000 in
theorem sh_15 : zSeg zk_L_law sg_15 := zSeg_of 615 27 927 (by decide +kernel) rfl (by decide +kernel)
set_option maxRecDepth 100000 in
theorem qL_15 (hY : qY M) (hn : n ≤ 4096) (hi : 0 ≤ i ∧ i + 8 ≤ n) (K : ∀ M', qY M' → zG n (114, 4080270) 300 311 (2158, [zR 0, zR 8, zR 97, .inl i], []) M' qLQ) : zG n (114, 4080270) 300 311 (927, [zR 0, zR 8, zR 97, .inl i], []) M qLQ := by
  have hz := zp_311
  have hg := sh_15
  have hJ := hY.1
  have hX := hY.2.1
  have hU := hY.2.2
  refine zG_blk (c' := (932, [zR 0, zR 8, zR 97, .inl i], [.inl (i + 1), zR 0, zR 8])) 5 (by decide) hz (zsteps_seg hg (by rw [show (.inl (i + 1) : zV) = .inl (w32 (i + 1)) from by rw [w32_id (by omega)]]; rfl)) ?_
  refine zG_iald (by decide) hz (hg _ _ rfl) rfl (.inr rfl) (by omega) ?_
  obtain ⟨x1, hx1⟩ : ∃ x : Int, x = M 0 (i + 1).toNat := ⟨_, rfl⟩
  rw [← hx1]
  have hr1 : qin x1 := by rw [hx1]; exact hJ.1.rng 0 _ (by decide) (by decide)
  show zG n (114, 4080270) 300 311 (933, [zR 0, zR 8, zR 97, .inl i], [.inl x1, zR 8]) M _
  refine zG_blk (c' := (937, [zR 0, zR 8, zR 97, .inl i], [.inl (i + 2), zR 0, .inl x1, zR 8])) 4 (by decide) hz (zsteps_seg hg (by rw [show (.inl (i + 2) : zV) = .inl (w32 (i + 2)) from by rw [w32_id (by omega)]]; rfl)) ?_
  refine zG_iald (by decide) hz (hg _ _ rfl) rfl (.inr rfl) (by omega) ?_
  obtain ⟨x2, hx2⟩ : ∃ x : Int, x = M 0 (i + 2).toNat := ⟨_, rfl⟩
  rw [← hx2]
  have hr2 : qin x2 := by rw [hx2]; exact hJ.1.rng 0 _ (by decide) (by decide)
  show zG n (114, 4080270) 300 311 (938, [zR 0, zR 8, zR 97, .inl i], [.inl x2, .inl x1, zR 8]) M _
  refine zG_call (by decide) hz zp_138 (hg _ _ rfl) rfl (Nat.le_of_ble_eq_true rfl) ⟨Nat.le_of_ble_eq_true rfl, Nat.le_of_ble_eq_true rfl⟩ (zG.andH (qm_138_8 (by decide) hJ.1 x1 (by omega) x2 (by omega)) (fh_138_8 x1 x2)) (fun vr M1 hr => ?_)
  obtain ⟨⟨hq, -⟩, rfl, -⟩ := hr
  replace hq := hq.symm; subst hq
  have hc0 : ∀ j, M 0 j = M 0 j := fun _ => rfl
  show zG n (114, 4080270) 300 311 (941, [zR 0, zR 8, zR 97, .inl i], [.inl (hf_138_8 M x1 x2)]) M _
  refine zG_blk (c' := (947, [zR 0, zR 8, zR 97, .inl i], [.inl (i + 1), zR 0, zR 97])) 6 (by decide) hz (zsteps_seg hg (by rw [show (.inl (i + 1) : zV) = .inl (w32 (i + 1)) from by rw [w32_id (by omega)]]; rfl)) ?_
  refine zG_iald (by decide) hz (hg _ _ rfl) rfl (.inr rfl) (by omega) ?_
  rw [show M 0 (i + 1).toNat = x1 from hx1.symm]
  show zG n (114, 4080270) 300 311 (948, [zR 0, zR 8, zR 97, .inl i], [.inl x1, zR 97]) M _
  refine zG_blk (c' := (952, [zR 0, zR 8, zR 97, .inl i], [.inl (i + 2), zR 0, .inl x1, zR 97])) 4 (by decide) hz (zsteps_seg hg (by rw [show (.inl (i + 2) : zV) = .inl (w32 (i + 2)) from by rw [w32_id (by omega)]]; rfl)) ?_
  refine zG_iald (by decide) hz (hg _ _ rfl) rfl (.inr rfl) (by omega) ?_
  rw [show M 0 (i + 2).toNat = x2 from hx2.symm]
  show zG n (114, 4080270) 300 311 (953, [zR 0, zR 8, zR 97, .inl i], [.inl x2, .inl x1, zR 97]) M _
  refine zG_call (by decide) hz zp_210 (hg _ _ rfl) rfl (Nat.le_of_ble_eq_true rfl) ⟨Nat.le_of_ble_eq_true rfl, Nat.le_of_ble_eq_true rfl⟩ (zG.andH (qm_210_97 (by decide) hJ.2.1 x1 (by omega) x2 (by omega)) (fh_210_97 x1 x2)) (fun vr M2 hr => ?_)
  obtain ⟨⟨hq, -⟩, rfl, -⟩ := hr
  replace hq := hq.symm; subst hq
  show zG n (114, 4080270) 300 311 (956, [zR 0, zR 8, zR 97, .inl i], [.inl (hf_210_97 M x1 x2)]) M _
  refine zG_blk (c' := (2158, [zR 0, zR 8, zR 97, .inl i], [])) 2 (by decide) hz (zsteps_seg hg rfl) ?_
  exact K M ⟨hJ, hX, hU⟩
noncomputable def sg_16 : List zE := [(960, .aload_n ⟨1, zfin1⟩, 961, zx0),
  (961, .aload_n ⟨0, zfin0⟩, 962, zx0),
  (962, .iload_n ⟨3, zfin3⟩, 963, zx0),
  (963, .iconst 1, 964, zx0),
  (964, .iadd, 965, zx0),
  (965, .iaload, 966, zx0),
  (966, .aload_n ⟨0, zfin0⟩, 967, zx0),
  (967, .iload_n ⟨3, zfin3⟩, 968, zx0),
  (968, .iconst 2, 969, zx0),
  (969, .iadd, 970, zx0),
  (970, .iaload, 971, zx0),
  (971, .invokevirtual 84, 974, (139, 3, 0, [11])),
  (974, .pop, 975, zx0),
  (975, .aload_n ⟨2, zfin2⟩, 976, zx0),
  (976, .aload_n ⟨0, zfin0⟩, 977, zx0),
  (977, .iload_n ⟨3, zfin3⟩, 978, zx0),
  (978, .iconst 1, 979, zx0),
  (979, .iadd, 980, zx0),
  (980, .iaload, 981, zx0),
  (981, .aload_n ⟨0, zfin0⟩, 982, zx0),
  (982, .iload_n ⟨3, zfin3⟩, 983, zx0),
  (983, .iconst 2, 984, zx0),
  (984, .iadd, 985, zx0),
  (985, .iaload, 986, zx0),
  (986, .invokevirtual 87, 989, (212, 3, 0, [12])),
  (989, .pop, 990, zx0),
  (990, .goto (1168), 993, (2158, 0, 0, []))]
set_option maxRecDepth 100000 in
theorem sh_16 : zSeg zk_L_law sg_16 := zSeg_of 642 27 960 (by decide +kernel) rfl (by decide +kernel)
set_option maxRecDepth 100000 in
theorem qL_16 (hY : qY M) (hn : n ≤ 4096) (hi : 0 ≤ i ∧ i + 8 ≤ n) (K : ∀ M', qY M' → zG n (114, 4080270) 300 311 (2158, [zR 0, zR 8, zR 97, .inl i], []) M' qLQ) : zG n (114, 4080270) 300 311 (960, [zR 0, zR 8, zR 97, .inl i], []) M qLQ := by
  have hz := zp_311
  have hg := sh_16
  have hJ := hY.1
  have hX := hY.2.1
  have hU := hY.2.2
  refine zG_blk (c' := (965, [zR 0, zR 8, zR 97, .inl i], [.inl (i + 1), zR 0, zR 8])) 5 (by decide) hz (zsteps_seg hg (by rw [show (.inl (i + 1) : zV) = .inl (w32 (i + 1)) from by rw [w32_id (by omega)]]; rfl)) ?_
  refine zG_iald (by decide) hz (hg _ _ rfl) rfl (.inr rfl) (by omega) ?_
  obtain ⟨x1, hx1⟩ : ∃ x : Int, x = M 0 (i + 1).toNat := ⟨_, rfl⟩
  rw [← hx1]
  have hr1 : qin x1 := by rw [hx1]; exact hJ.1.rng 0 _ (by decide) (by decide)
  show zG n (114, 4080270) 300 311 (966, [zR 0, zR 8, zR 97, .inl i], [.inl x1, zR 8]) M _
  refine zG_blk (c' := (970, [zR 0, zR 8, zR 97, .inl i], [.inl (i + 2), zR 0, .inl x1, zR 8])) 4 (by decide) hz (zsteps_seg hg (by rw [show (.inl (i + 2) : zV) = .inl (w32 (i + 2)) from by rw [w32_id (by omega)]]; rfl)) ?_
  refine zG_iald (by decide) hz (hg _ _ rfl) rfl (.inr rfl) (by omega) ?_
  obtain ⟨x2, hx2⟩ : ∃ x : Int, x = M 0 (i + 2).toNat := ⟨_, rfl⟩
  rw [← hx2]
  have hr2 : qin x2 := by rw [hx2]; exact hJ.1.rng 0 _ (by decide) (by decide)
  show zG n (114, 4080270) 300 311 (971, [zR 0, zR 8, zR 97, .inl i], [.inl x2, .inl x1, zR 8]) M _
  refine zG_call (by decide) hz zp_139 (hg _ _ rfl) rfl (Nat.le_of_ble_eq_true rfl) ⟨Nat.le_of_ble_eq_true rfl, Nat.le_of_ble_eq_true rfl⟩ (qm_139_8 (by decide) hJ.1 x1 (by omega) x2 (by omega)) (fun vr M1 hr => ?_)
  obtain ⟨⟨hCM1, hFM1⟩, hr⟩ := hr
  have hJM1 : qJ M1 := hJ.cls hCM1 hFM1 rfl rfl
  have hXM1 : qX M1 := hX.cls hFM1 rfl; have hUM1 : qU M1 := hU.cg (hFM1.hi rfl)
  have hc0 : ∀ j, M1 0 j = M 0 j := fun j => hFM1 0 j (by decide)
  obtain ⟨r1, rfl, -⟩ := hr
  show zG n (114, 4080270) 300 311 (974, [zR 0, zR 8, zR 97, .inl i], [.inl r1]) M1 _
  refine zG_blk (c' := (980, [zR 0, zR 8, zR 97, .inl i], [.inl (i + 1), zR 0, zR 97])) 6 (by decide) hz (zsteps_seg hg (by rw [show (.inl (i + 1) : zV) = .inl (w32 (i + 1)) from by rw [w32_id (by omega)]]; rfl)) ?_
  refine zG_iald (by decide) hz (hg _ _ rfl) rfl (.inr rfl) (by omega) ?_
  rw [show M1 0 (i + 1).toNat = x1 from (hc0 _).trans hx1.symm]
  show zG n (114, 4080270) 300 311 (981, [zR 0, zR 8, zR 97, .inl i], [.inl x1, zR 97]) M1 _
  refine zG_blk (c' := (985, [zR 0, zR 8, zR 97, .inl i], [.inl (i + 2), zR 0, .inl x1, zR 97])) 4 (by decide) hz (zsteps_seg hg (by rw [show (.inl (i + 2) : zV) = .inl (w32 (i + 2)) from by rw [w32_id (by omega)]]; rfl)) ?_
  refine zG_iald (by decide) hz (hg _ _ rfl) rfl (.inr rfl) (by omega) ?_
  rw [show M1 0 (i + 2).toNat = x2 from (hc0 _).trans hx2.symm]
  show zG n (114, 4080270) 300 311 (986, [zR 0, zR 8, zR 97, .inl i], [.inl x2, .inl x1, zR 97]) M1 _
  refine zG_call (by decide) hz zp_212 (hg _ _ rfl) rfl (Nat.le_of_ble_eq_true rfl) ⟨Nat.le_of_ble_eq_true rfl, Nat.le_of_ble_eq_true rfl⟩ (qm_212_97 (by decide) hJM1.2.1 x1 (by omega) x2 (by omega)) (fun vr M2 hr => ?_)
  obtain ⟨⟨hCM2, hFM2⟩, hr⟩ := hr
  have hJM2 : qJ M2 := hJM1.mdl hCM2 hFM2 rfl (by decide) (fun j _ => hFM2.ar 98 j (by decide) (by decide))
  have hXM2 : qX M2 := hXM1.mdl hFM2 rfl
  have hUM2 : qU M2 := hUM1.fr hJM1.2.1.cnt0 hFM2 rfl
  obtain ⟨r2, hv9⟩ := hr
  first | (obtain ⟨rfl, -⟩ := hv9) | (obtain rfl := hv9)
  show zG n (114, 4080270) 300 311 (989, [zR 0, zR 8, zR 97, .inl i], [.inl r2]) M2 _
  refine zG_blk (c' := (2158, [zR 0, zR 8, zR 97, .inl i], [])) 2 (by decide) hz (zsteps_seg hg rfl) ?_
  exact K M2 ⟨hJM2, hXM2, hUM2⟩
noncomputable def sg_17 : List zE := [(993, .aload_n ⟨1, zfin1⟩, 994, zx0),
  (994, .aload_n ⟨0, zfin0⟩, 995, zx0),
  (995, .iload_n ⟨3, zfin3⟩, 996, zx0),
  (996, .iconst 1, 997, zx0),
  (997, .iadd, 998, zx0),
  (998, .iaload, 999, zx0),
  (999, .aload_n ⟨0, zfin0⟩, 1000, zx0),
  (1000, .iload_n ⟨3, zfin3⟩, 1001, zx0),
  (1001, .iconst 2, 1002, zx0),
  (1002, .iadd, 1003, zx0),
  (1003, .iaload, 1004, zx0),
  (1004, .aload_n ⟨0, zfin0⟩, 1005, zx0),
  (1005, .iload_n ⟨3, zfin3⟩, 1006, zx0),
  (1006, .iconst 3, 1007, zx0),
  (1007, .iadd, 1008, zx0),
  (1008, .iaload, 1009, zx0),
  (1009, .invokevirtual 88, 1012, (140, 4, 0, [11])),
  (1012, .pop, 1013, zx0),
  (1013, .aload_n ⟨2, zfin2⟩, 1014, zx0),
  (1014, .aload_n ⟨0, zfin0⟩, 1015, zx0),
  (1015, .iload_n ⟨3, zfin3⟩, 1016, zx0),
  (1016, .iconst 1, 1017, zx0),
  (1017, .iadd, 1018, zx0),
  (1018, .iaload, 1019, zx0),
  (1019, .aload_n ⟨0, zfin0⟩, 1020, zx0),
  (1020, .iload_n ⟨3, zfin3⟩, 1021, zx0),
  (1021, .iconst 2, 1022, zx0),
  (1022, .iadd, 1023, zx0),
  (1023, .iaload, 1024, zx0),
  (1024, .aload_n ⟨0, zfin0⟩, 1025, zx0),
  (1025, .iload_n ⟨3, zfin3⟩, 1026, zx0),
  (1026, .iconst 3, 1027, zx0),
  (1027, .iadd, 1028, zx0),
  (1028, .iaload, 1029, zx0),
  (1029, .invokevirtual 91, 1032, (217, 4, 0, [12])),
  (1032, .pop, 1033, zx0),
  (1033, .goto (1125), 1036, (2158, 0, 0, []))]
set_option maxRecDepth 100000 in
theorem sh_17 : zSeg zk_L_law sg_17 := zSeg_of 669 37 993 (by decide +kernel) rfl (by decide +kernel)
set_option maxRecDepth 100000 in
theorem qL_17 (hY : qY M) (hn : n ≤ 4096) (hi : 0 ≤ i ∧ i + 8 ≤ n) (K : ∀ M', qY M' → zG n (114, 4080270) 300 311 (2158, [zR 0, zR 8, zR 97, .inl i], []) M' qLQ) : zG n (114, 4080270) 300 311 (993, [zR 0, zR 8, zR 97, .inl i], []) M qLQ := by
  have hz := zp_311
  have hg := sh_17
  have hJ := hY.1
  have hX := hY.2.1
  have hU := hY.2.2
  refine zG_blk (c' := (998, [zR 0, zR 8, zR 97, .inl i], [.inl (i + 1), zR 0, zR 8])) 5 (by decide) hz (zsteps_seg hg (by rw [show (.inl (i + 1) : zV) = .inl (w32 (i + 1)) from by rw [w32_id (by omega)]]; rfl)) ?_
  refine zG_iald (by decide) hz (hg _ _ rfl) rfl (.inr rfl) (by omega) ?_
  obtain ⟨x1, hx1⟩ : ∃ x : Int, x = M 0 (i + 1).toNat := ⟨_, rfl⟩
  rw [← hx1]
  have hr1 : qin x1 := by rw [hx1]; exact hJ.1.rng 0 _ (by decide) (by decide)
  show zG n (114, 4080270) 300 311 (999, [zR 0, zR 8, zR 97, .inl i], [.inl x1, zR 8]) M _
  refine zG_blk (c' := (1003, [zR 0, zR 8, zR 97, .inl i], [.inl (i + 2), zR 0, .inl x1, zR 8])) 4 (by decide) hz (zsteps_seg hg (by rw [show (.inl (i + 2) : zV) = .inl (w32 (i + 2)) from by rw [w32_id (by omega)]]; rfl)) ?_
  refine zG_iald (by decide) hz (hg _ _ rfl) rfl (.inr rfl) (by omega) ?_
  obtain ⟨x2, hx2⟩ : ∃ x : Int, x = M 0 (i + 2).toNat := ⟨_, rfl⟩
  rw [← hx2]
  have hr2 : qin x2 := by rw [hx2]; exact hJ.1.rng 0 _ (by decide) (by decide)
  show zG n (114, 4080270) 300 311 (1004, [zR 0, zR 8, zR 97, .inl i], [.inl x2, .inl x1, zR 8]) M _
  refine zG_blk (c' := (1008, [zR 0, zR 8, zR 97, .inl i], [.inl (i + 3), zR 0, .inl x2, .inl x1, zR 8])) 4 (by decide) hz (zsteps_seg hg (by rw [show (.inl (i + 3) : zV) = .inl (w32 (i + 3)) from by rw [w32_id (by omega)]]; rfl)) ?_
  refine zG_iald (by decide) hz (hg _ _ rfl) rfl (.inr rfl) (by omega) ?_
  obtain ⟨x3, hx3⟩ : ∃ x : Int, x = M 0 (i + 3).toNat := ⟨_, rfl⟩
  rw [← hx3]
  have hr3 : qin x3 := by rw [hx3]; exact hJ.1.rng 0 _ (by decide) (by decide)
  show zG n (114, 4080270) 300 311 (1009, [zR 0, zR 8, zR 97, .inl i], [.inl x3, .inl x2, .inl x1, zR 8]) M _
  refine zG_call (by decide) hz zp_140 (hg _ _ rfl) rfl (Nat.le_of_ble_eq_true rfl) ⟨Nat.le_of_ble_eq_true rfl, Nat.le_of_ble_eq_true rfl⟩ (qm_140_8 (by decide) hJ.1 x1 (by omega) x2 (by omega) x3 (by omega)) (fun vr M1 hr => ?_)
  obtain ⟨⟨hCM1, hFM1⟩, hr⟩ := hr
  have hJM1 : qJ M1 := hJ.cls hCM1 hFM1 rfl rfl
  have hXM1 : qX M1 := hX.cls hFM1 rfl; have hUM1 : qU M1 := hU.cg (hFM1.hi rfl)
  have hc0 : ∀ j, M1 0 j = M 0 j := fun j => hFM1 0 j (by decide)
  obtain ⟨r1, rfl, -⟩ := hr
  show zG n (114, 4080270) 300 311 (1012, [zR 0, zR 8, zR 97, .inl i], [.inl r1]) M1 _
  refine zG_blk (c' := (1018, [zR 0, zR 8, zR 97, .inl i], [.inl (i + 1), zR 0, zR 97])) 6 (by decide) hz (zsteps_seg hg (by rw [show (.inl (i + 1) : zV) = .inl (w32 (i + 1)) from by rw [w32_id (by omega)]]; rfl)) ?_
  refine zG_iald (by decide) hz (hg _ _ rfl) rfl (.inr rfl) (by omega) ?_
  rw [show M1 0 (i + 1).toNat = x1 from (hc0 _).trans hx1.symm]
  show zG n (114, 4080270) 300 311 (1019, [zR 0, zR 8, zR 97, .inl i], [.inl x1, zR 97]) M1 _
  refine zG_blk (c' := (1023, [zR 0, zR 8, zR 97, .inl i], [.inl (i + 2), zR 0, .inl x1, zR 97])) 4 (by decide) hz (zsteps_seg hg (by rw [show (.inl (i + 2) : zV) = .inl (w32 (i + 2)) from by rw [w32_id (by omega)]]; rfl)) ?_
  refine zG_iald (by decide) hz (hg _ _ rfl) rfl (.inr rfl) (by omega) ?_
  rw [show M1 0 (i + 2).toNat = x2 from (hc0 _).trans hx2.symm]
  show zG n (114, 4080270) 300 311 (1024, [zR 0, zR 8, zR 97, .inl i], [.inl x2, .inl x1, zR 97]) M1 _
  refine zG_blk (c' := (1028, [zR 0, zR 8, zR 97, .inl i], [.inl (i + 3), zR 0, .inl x2, .inl x1, zR 97])) 4 (by decide) hz (zsteps_seg hg (by rw [show (.inl (i + 3) : zV) = .inl (w32 (i + 3)) from by rw [w32_id (by omega)]]; rfl)) ?_
  refine zG_iald (by decide) hz (hg _ _ rfl) rfl (.inr rfl) (by omega) ?_
  rw [show M1 0 (i + 3).toNat = x3 from (hc0 _).trans hx3.symm]
  show zG n (114, 4080270) 300 311 (1029, [zR 0, zR 8, zR 97, .inl i], [.inl x3, .inl x2, .inl x1, zR 97]) M1 _
  refine zG_call (by decide) hz zp_217 (hg _ _ rfl) rfl (Nat.le_of_ble_eq_true rfl) ⟨Nat.le_of_ble_eq_true rfl, Nat.le_of_ble_eq_true rfl⟩ (qm_217_97 (by decide) hJM1.2.1 x1 (by omega) x2 (by omega) x3 (by omega)) (fun vr M2 hr => ?_)
  obtain ⟨⟨hCM2, hFM2⟩, hr⟩ := hr
  have hJM2 : qJ M2 := hJM1.mdl hCM2 hFM2 rfl (by decide) (fun j _ => hFM2.ar 98 j (by decide) (by decide))
  have hXM2 : qX M2 := hXM1.mdl hFM2 rfl
  have hUM2 : qU M2 := hUM1.fr hJM1.2.1.cnt0 hFM2 rfl
  obtain ⟨r2, hv9⟩ := hr
  first | (obtain ⟨rfl, -⟩ := hv9) | (obtain rfl := hv9)
  show zG n (114, 4080270) 300 311 (1032, [zR 0, zR 8, zR 97, .inl i], [.inl r2]) M2 _
  refine zG_blk (c' := (2158, [zR 0, zR 8, zR 97, .inl i], [])) 2 (by decide) hz (zsteps_seg hg rfl) ?_
  exact K M2 ⟨hJM2, hXM2, hUM2⟩
noncomputable def sg_18 : List zE := [(1036, .aload_n ⟨1, zfin1⟩, 1037, zx0),
  (1037, .aload_n ⟨0, zfin0⟩, 1038, zx0),
  (1038, .iload_n ⟨3, zfin3⟩, 1039, zx0),
  (1039, .iconst 1, 1040, zx0),
  (1040, .iadd, 1041, zx0),
  (1041, .iaload, 1042, zx0),
  (1042, .aload_n ⟨0, zfin0⟩, 1043, zx0),
  (1043, .iload_n ⟨3, zfin3⟩, 1044, zx0),
  (1044, .iconst 2, 1045, zx0),
  (1045, .iadd, 1046, zx0),
  (1046, .iaload, 1047, zx0),
  (1047, .aload_n ⟨0, zfin0⟩, 1048, zx0),
  (1048, .iload_n ⟨3, zfin3⟩, 1049, zx0),
  (1049, .iconst 3, 1050, zx0),
  (1050, .iadd, 1051, zx0),
  (1051, .iaload, 1052, zx0),
  (1052, .aload_n ⟨0, zfin0⟩, 1053, zx0),
  (1053, .iload_n ⟨3, zfin3⟩, 1054, zx0),
  (1054, .iconst 4, 1055, zx0),
  (1055, .iadd, 1056, zx0),
  (1056, .iaload, 1057, zx0),
  (1057, .invokevirtual 92, 1060, (141, 5, 0, [11])),
  (1060, .pop, 1061, zx0),
  (1061, .aload_n ⟨2, zfin2⟩, 1062, zx0),
  (1062, .aload_n ⟨0, zfin0⟩, 1063, zx0),
  (1063, .iload_n ⟨3, zfin3⟩, 1064, zx0),
  (1064, .iconst 1, 1065, zx0),
  (1065, .iadd, 1066, zx0),
  (1066, .iaload, 1067, zx0),
  (1067, .aload_n ⟨0, zfin0⟩, 1068, zx0),
  (1068, .iload_n ⟨3, zfin3⟩, 1069, zx0),
  (1069, .iconst 2, 1070, zx0),
  (1070, .iadd, 1071, zx0),
  (1071, .iaload, 1072, zx0),
  (1072, .aload_n ⟨0, zfin0⟩, 1073, zx0),
  (1073, .iload_n ⟨3, zfin3⟩, 1074, zx0),
  (1074, .iconst 3, 1075, zx0),
  (1075, .iadd, 1076, zx0),
  (1076, .iaload, 1077, zx0),
  (1077, .aload_n ⟨0, zfin0⟩, 1078, zx0),
  (1078, .iload_n ⟨3, zfin3⟩, 1079, zx0),
  (1079, .iconst 4, 1080, zx0),
  (1080, .iadd, 1081, zx0),
  (1081, .iaload, 1082, zx0),
  (1082, .invokevirtual 95, 1085, (219, 5, 0, [12])),
  (1085, .pop, 1086, zx0),
  (1086, .goto (1072), 1089, (2158, 0, 0, []))]
set_option maxRecDepth 100000 in
theorem sh_18 : zSeg zk_L_law sg_18 := zSeg_of 706 47 1036 (by decide +kernel) rfl (by decide +kernel)
set_option maxRecDepth 100000 in
theorem qL_18 (hY : qY M) (hn : n ≤ 4096) (hi : 0 ≤ i ∧ i + 8 ≤ n) (K : ∀ M', qY M' → zG n (114, 4080270) 300 311 (2158, [zR 0, zR 8, zR 97, .inl i], []) M' qLQ) : zG n (114, 4080270) 300 311 (1036, [zR 0, zR 8, zR 97, .inl i], []) M qLQ := by
  have hz := zp_311
  have hg := sh_18
  have hJ := hY.1
  have hX := hY.2.1
  have hU := hY.2.2
  refine zG_blk (c' := (1041, [zR 0, zR 8, zR 97, .inl i], [.inl (i + 1), zR 0, zR 8])) 5 (by decide) hz (zsteps_seg hg (by rw [show (.inl (i + 1) : zV) = .inl (w32 (i + 1)) from by rw [w32_id (by omega)]]; rfl)) ?_
  refine zG_iald (by decide) hz (hg _ _ rfl) rfl (.inr rfl) (by omega) ?_
  obtain ⟨x1, hx1⟩ : ∃ x : Int, x = M 0 (i + 1).toNat := ⟨_, rfl⟩
  rw [← hx1]
  have hr1 : qin x1 := by rw [hx1]; exact hJ.1.rng 0 _ (by decide) (by decide)
  show zG n (114, 4080270) 300 311 (1042, [zR 0, zR 8, zR 97, .inl i], [.inl x1, zR 8]) M _
  refine zG_blk (c' := (1046, [zR 0, zR 8, zR 97, .inl i], [.inl (i + 2), zR 0, .inl x1, zR 8])) 4 (by decide) hz (zsteps_seg hg (by rw [show (.inl (i + 2) : zV) = .inl (w32 (i + 2)) from by rw [w32_id (by omega)]]; rfl)) ?_
  refine zG_iald (by decide) hz (hg _ _ rfl) rfl (.inr rfl) (by omega) ?_
  obtain ⟨x2, hx2⟩ : ∃ x : Int, x = M 0 (i + 2).toNat := ⟨_, rfl⟩
  rw [← hx2]
  have hr2 : qin x2 := by rw [hx2]; exact hJ.1.rng 0 _ (by decide) (by decide)
  show zG n (114, 4080270) 300 311 (1047, [zR 0, zR 8, zR 97, .inl i], [.inl x2, .inl x1, zR 8]) M _
  refine zG_blk (c' := (1051, [zR 0, zR 8, zR 97, .inl i], [.inl (i + 3), zR 0, .inl x2, .inl x1, zR 8])) 4 (by decide) hz (zsteps_seg hg (by rw [show (.inl (i + 3) : zV) = .inl (w32 (i + 3)) from by rw [w32_id (by omega)]]; rfl)) ?_
  refine zG_iald (by decide) hz (hg _ _ rfl) rfl (.inr rfl) (by omega) ?_
  obtain ⟨x3, hx3⟩ : ∃ x : Int, x = M 0 (i + 3).toNat := ⟨_, rfl⟩
  rw [← hx3]
  have hr3 : qin x3 := by rw [hx3]; exact hJ.1.rng 0 _ (by decide) (by decide)
  show zG n (114, 4080270) 300 311 (1052, [zR 0, zR 8, zR 97, .inl i], [.inl x3, .inl x2, .inl x1, zR 8]) M _
  refine zG_blk (c' := (1056, [zR 0, zR 8, zR 97, .inl i], [.inl (i + 4), zR 0, .inl x3, .inl x2, .inl x1, zR 8])) 4 (by decide) hz (zsteps_seg hg (by rw [show (.inl (i + 4) : zV) = .inl (w32 (i + 4)) from by rw [w32_id (by omega)]]; rfl)) ?_
  refine zG_iald (by decide) hz (hg _ _ rfl) rfl (.inr rfl) (by omega) ?_
  obtain ⟨x4, hx4⟩ : ∃ x : Int, x = M 0 (i + 4).toNat := ⟨_, rfl⟩
  rw [← hx4]
  have hr4 : qin x4 := by rw [hx4]; exact hJ.1.rng 0 _ (by decide) (by decide)
  show zG n (114, 4080270) 300 311 (1057, [zR 0, zR 8, zR 97, .inl i], [.inl x4, .inl x3, .inl x2, .inl x1, zR 8]) M _
  refine zG_call (by decide) hz zp_141 (hg _ _ rfl) rfl (Nat.le_of_ble_eq_true rfl) ⟨Nat.le_of_ble_eq_true rfl, Nat.le_of_ble_eq_true rfl⟩ (qm_141_8 (by decide) hJ.1 x1 (by omega) x2 (by omega) x3 (by omega) x4 (by omega)) (fun vr M1 hr => ?_)
  obtain ⟨⟨hCM1, hFM1⟩, hr⟩ := hr
  have hJM1 : qJ M1 := hJ.cls hCM1 hFM1 rfl rfl
  have hXM1 : qX M1 := hX.cls hFM1 rfl; have hUM1 : qU M1 := hU.cg (hFM1.hi rfl)
  have hc0 : ∀ j, M1 0 j = M 0 j := fun j => hFM1 0 j (by decide)
  obtain ⟨r1, rfl, -⟩ := hr
  show zG n (114, 4080270) 300 311 (1060, [zR 0, zR 8, zR 97, .inl i], [.inl r1]) M1 _
  refine zG_blk (c' := (1066, [zR 0, zR 8, zR 97, .inl i], [.inl (i + 1), zR 0, zR 97])) 6 (by decide) hz (zsteps_seg hg (by rw [show (.inl (i + 1) : zV) = .inl (w32 (i + 1)) from by rw [w32_id (by omega)]]; rfl)) ?_
  refine zG_iald (by decide) hz (hg _ _ rfl) rfl (.inr rfl) (by omega) ?_
  rw [show M1 0 (i + 1).toNat = x1 from (hc0 _).trans hx1.symm]
  show zG n (114, 4080270) 300 311 (1067, [zR 0, zR 8, zR 97, .inl i], [.inl x1, zR 97]) M1 _
  refine zG_blk (c' := (1071, [zR 0, zR 8, zR 97, .inl i], [.inl (i + 2), zR 0, .inl x1, zR 97])) 4 (by decide) hz (zsteps_seg hg (by rw [show (.inl (i + 2) : zV) = .inl (w32 (i + 2)) from by rw [w32_id (by omega)]]; rfl)) ?_
  refine zG_iald (by decide) hz (hg _ _ rfl) rfl (.inr rfl) (by omega) ?_
  rw [show M1 0 (i + 2).toNat = x2 from (hc0 _).trans hx2.symm]
  show zG n (114, 4080270) 300 311 (1072, [zR 0, zR 8, zR 97, .inl i], [.inl x2, .inl x1, zR 97]) M1 _
  refine zG_blk (c' := (1076, [zR 0, zR 8, zR 97, .inl i], [.inl (i + 3), zR 0, .inl x2, .inl x1, zR 97])) 4 (by decide) hz (zsteps_seg hg (by rw [show (.inl (i + 3) : zV) = .inl (w32 (i + 3)) from by rw [w32_id (by omega)]]; rfl)) ?_
  refine zG_iald (by decide) hz (hg _ _ rfl) rfl (.inr rfl) (by omega) ?_
  rw [show M1 0 (i + 3).toNat = x3 from (hc0 _).trans hx3.symm]
  show zG n (114, 4080270) 300 311 (1077, [zR 0, zR 8, zR 97, .inl i], [.inl x3, .inl x2, .inl x1, zR 97]) M1 _
  refine zG_blk (c' := (1081, [zR 0, zR 8, zR 97, .inl i], [.inl (i + 4), zR 0, .inl x3, .inl x2, .inl x1, zR 97])) 4 (by decide) hz (zsteps_seg hg (by rw [show (.inl (i + 4) : zV) = .inl (w32 (i + 4)) from by rw [w32_id (by omega)]]; rfl)) ?_
  refine zG_iald (by decide) hz (hg _ _ rfl) rfl (.inr rfl) (by omega) ?_
  rw [show M1 0 (i + 4).toNat = x4 from (hc0 _).trans hx4.symm]
  show zG n (114, 4080270) 300 311 (1082, [zR 0, zR 8, zR 97, .inl i], [.inl x4, .inl x3, .inl x2, .inl x1, zR 97]) M1 _
  refine zG_call (by decide) hz zp_219 (hg _ _ rfl) rfl (Nat.le_of_ble_eq_true rfl) ⟨Nat.le_of_ble_eq_true rfl, Nat.le_of_ble_eq_true rfl⟩ (qm_219_97 (by decide) hJM1.2.1 x1 (by omega) x2 (by omega) x3 (by omega) x4 (by omega)) (fun vr M2 hr => ?_)
  obtain ⟨⟨hCM2, hFM2⟩, hr⟩ := hr
  have hJM2 : qJ M2 := hJM1.mdl hCM2 hFM2 rfl (by decide) (fun j _ => hFM2.ar 98 j (by decide) (by decide))
  have hXM2 : qX M2 := hXM1.mdl hFM2 rfl
  have hUM2 : qU M2 := hUM1.fr hJM1.2.1.cnt0 hFM2 rfl
  obtain ⟨r2, hv9⟩ := hr
  first | (obtain ⟨rfl, -⟩ := hv9) | (obtain rfl := hv9)
  show zG n (114, 4080270) 300 311 (1085, [zR 0, zR 8, zR 97, .inl i], [.inl r2]) M2 _
  refine zG_blk (c' := (2158, [zR 0, zR 8, zR 97, .inl i], [])) 2 (by decide) hz (zsteps_seg hg rfl) ?_
  exact K M2 ⟨hJM2, hXM2, hUM2⟩
noncomputable def sg_19 : List zE := [(1089, .aload_n ⟨1, zfin1⟩, 1090, zx0),
  (1090, .aload_n ⟨0, zfin0⟩, 1091, zx0),
  (1091, .iload_n ⟨3, zfin3⟩, 1092, zx0),
  (1092, .iconst 1, 1093, zx0),
  (1093, .iadd, 1094, zx0),
  (1094, .iaload, 1095, zx0),
  (1095, .aload_n ⟨0, zfin0⟩, 1096, zx0),
  (1096, .iload_n ⟨3, zfin3⟩, 1097, zx0),
  (1097, .iconst 2, 1098, zx0),
  (1098, .iadd, 1099, zx0),
  (1099, .iaload, 1100, zx0),
  (1100, .aload_n ⟨0, zfin0⟩, 1101, zx0),
  (1101, .iload_n ⟨3, zfin3⟩, 1102, zx0),
  (1102, .iconst 3, 1103, zx0),
  (1103, .iadd, 1104, zx0),
  (1104, .iaload, 1105, zx0),
  (1105, .invokevirtual 96, 1108, (142, 4, 0, [11])),
  (1108, .pop, 1109, zx0),
  (1109, .aload_n ⟨2, zfin2⟩, 1110, zx0),
  (1110, .aload_n ⟨0, zfin0⟩, 1111, zx0),
  (1111, .iload_n ⟨3, zfin3⟩, 1112, zx0),
  (1112, .iconst 1, 1113, zx0),
  (1113, .iadd, 1114, zx0),
  (1114, .iaload, 1115, zx0),
  (1115, .aload_n ⟨0, zfin0⟩, 1116, zx0),
  (1116, .iload_n ⟨3, zfin3⟩, 1117, zx0),
  (1117, .iconst 2, 1118, zx0),
  (1118, .iadd, 1119, zx0),
  (1119, .iaload, 1120, zx0),
  (1120, .aload_n ⟨0, zfin0⟩, 1121, zx0),
  (1121, .iload_n ⟨3, zfin3⟩, 1122, zx0),
  (1122, .iconst 3, 1123, zx0),
  (1123, .iadd, 1124, zx0),
  (1124, .iaload, 1125, zx0),
  (1125, .invokevirtual 99, 1128, (246, 4, 0, [12])),
  (1128, .pop, 1129, zx0),
  (1129, .goto (1029), 1132, (2158, 0, 0, []))]
set_option maxRecDepth 100000 in
theorem sh_19 : zSeg zk_L_law sg_19 := zSeg_of 753 37 1089 (by decide +kernel) rfl (by decide +kernel)
set_option maxRecDepth 100000 in
theorem qL_19 (hY : qY M) (hn : n ≤ 4096) (hi : 0 ≤ i ∧ i + 8 ≤ n) (K : ∀ M', qY M' → zG n (114, 4080270) 300 311 (2158, [zR 0, zR 8, zR 97, .inl i], []) M' qLQ) : zG n (114, 4080270) 300 311 (1089, [zR 0, zR 8, zR 97, .inl i], []) M qLQ := by
  have hz := zp_311
  have hg := sh_19
  have hJ := hY.1
  have hX := hY.2.1
  have hU := hY.2.2
  refine zG_blk (c' := (1094, [zR 0, zR 8, zR 97, .inl i], [.inl (i + 1), zR 0, zR 8])) 5 (by decide) hz (zsteps_seg hg (by rw [show (.inl (i + 1) : zV) = .inl (w32 (i + 1)) from by rw [w32_id (by omega)]]; rfl)) ?_
  refine zG_iald (by decide) hz (hg _ _ rfl) rfl (.inr rfl) (by omega) ?_
  obtain ⟨x1, hx1⟩ : ∃ x : Int, x = M 0 (i + 1).toNat := ⟨_, rfl⟩
  rw [← hx1]
  have hr1 : qin x1 := by rw [hx1]; exact hJ.1.rng 0 _ (by decide) (by decide)
  show zG n (114, 4080270) 300 311 (1095, [zR 0, zR 8, zR 97, .inl i], [.inl x1, zR 8]) M _
  refine zG_blk (c' := (1099, [zR 0, zR 8, zR 97, .inl i], [.inl (i + 2), zR 0, .inl x1, zR 8])) 4 (by decide) hz (zsteps_seg hg (by rw [show (.inl (i + 2) : zV) = .inl (w32 (i + 2)) from by rw [w32_id (by omega)]]; rfl)) ?_
  refine zG_iald (by decide) hz (hg _ _ rfl) rfl (.inr rfl) (by omega) ?_
  obtain ⟨x2, hx2⟩ : ∃ x : Int, x = M 0 (i + 2).toNat := ⟨_, rfl⟩
  rw [← hx2]
  have hr2 : qin x2 := by rw [hx2]; exact hJ.1.rng 0 _ (by decide) (by decide)
  show zG n (114, 4080270) 300 311 (1100, [zR 0, zR 8, zR 97, .inl i], [.inl x2, .inl x1, zR 8]) M _
  refine zG_blk (c' := (1104, [zR 0, zR 8, zR 97, .inl i], [.inl (i + 3), zR 0, .inl x2, .inl x1, zR 8])) 4 (by decide) hz (zsteps_seg hg (by rw [show (.inl (i + 3) : zV) = .inl (w32 (i + 3)) from by rw [w32_id (by omega)]]; rfl)) ?_
  refine zG_iald (by decide) hz (hg _ _ rfl) rfl (.inr rfl) (by omega) ?_
  obtain ⟨x3, hx3⟩ : ∃ x : Int, x = M 0 (i + 3).toNat := ⟨_, rfl⟩
  rw [← hx3]
  have hr3 : qin x3 := by rw [hx3]; exact hJ.1.rng 0 _ (by decide) (by decide)
  show zG n (114, 4080270) 300 311 (1105, [zR 0, zR 8, zR 97, .inl i], [.inl x3, .inl x2, .inl x1, zR 8]) M _
  refine zG_call (by decide) hz zp_142 (hg _ _ rfl) rfl (Nat.le_of_ble_eq_true rfl) ⟨Nat.le_of_ble_eq_true rfl, Nat.le_of_ble_eq_true rfl⟩ (qm_142_8 (by decide) hJ.1 x1 (by omega) x2 (by omega) x3 (by omega)) (fun vr M1 hr => ?_)
  obtain ⟨⟨hCM1, hFM1⟩, hr⟩ := hr
  have hJM1 : qJ M1 := hJ.cls hCM1 hFM1 rfl rfl
  have hXM1 : qX M1 := hX.cls hFM1 rfl; have hUM1 : qU M1 := hU.cg (hFM1.hi rfl)
  have hc0 : ∀ j, M1 0 j = M 0 j := fun j => hFM1 0 j (by decide)
  obtain ⟨r1, rfl, -⟩ := hr
  show zG n (114, 4080270) 300 311 (1108, [zR 0, zR 8, zR 97, .inl i], [.inl r1]) M1 _
  refine zG_blk (c' := (1114, [zR 0, zR 8, zR 97, .inl i], [.inl (i + 1), zR 0, zR 97])) 6 (by decide) hz (zsteps_seg hg (by rw [show (.inl (i + 1) : zV) = .inl (w32 (i + 1)) from by rw [w32_id (by omega)]]; rfl)) ?_
  refine zG_iald (by decide) hz (hg _ _ rfl) rfl (.inr rfl) (by omega) ?_
  rw [show M1 0 (i + 1).toNat = x1 from (hc0 _).trans hx1.symm]
  show zG n (114, 4080270) 300 311 (1115, [zR 0, zR 8, zR 97, .inl i], [.inl x1, zR 97]) M1 _
  refine zG_blk (c' := (1119, [zR 0, zR 8, zR 97, .inl i], [.inl (i + 2), zR 0, .inl x1, zR 97])) 4 (by decide) hz (zsteps_seg hg (by rw [show (.inl (i + 2) : zV) = .inl (w32 (i + 2)) from by rw [w32_id (by omega)]]; rfl)) ?_
  refine zG_iald (by decide) hz (hg _ _ rfl) rfl (.inr rfl) (by omega) ?_
  rw [show M1 0 (i + 2).toNat = x2 from (hc0 _).trans hx2.symm]
  show zG n (114, 4080270) 300 311 (1120, [zR 0, zR 8, zR 97, .inl i], [.inl x2, .inl x1, zR 97]) M1 _
  refine zG_blk (c' := (1124, [zR 0, zR 8, zR 97, .inl i], [.inl (i + 3), zR 0, .inl x2, .inl x1, zR 97])) 4 (by decide) hz (zsteps_seg hg (by rw [show (.inl (i + 3) : zV) = .inl (w32 (i + 3)) from by rw [w32_id (by omega)]]; rfl)) ?_
  refine zG_iald (by decide) hz (hg _ _ rfl) rfl (.inr rfl) (by omega) ?_
  rw [show M1 0 (i + 3).toNat = x3 from (hc0 _).trans hx3.symm]
  show zG n (114, 4080270) 300 311 (1125, [zR 0, zR 8, zR 97, .inl i], [.inl x3, .inl x2, .inl x1, zR 97]) M1 _
  refine zG_call (by decide) hz zp_246 (hg _ _ rfl) rfl (Nat.le_of_ble_eq_true rfl) ⟨Nat.le_of_ble_eq_true rfl, Nat.le_of_ble_eq_true rfl⟩ (qm_246_97 (by decide) hJM1.2.1 x1 (by omega) x2 (by omega) x3 (by omega)) (fun vr M2 hr => ?_)
  obtain ⟨⟨hCM2, hFM2⟩, hr⟩ := hr
  have hJM2 : qJ M2 := hJM1.mdl hCM2 hFM2 rfl (by decide) (fun j _ => hFM2.ar 98 j (by decide) (by decide))
  have hXM2 : qX M2 := hXM1.mdl hFM2 rfl
  have hUM2 : qU M2 := hUM1.fr hJM1.2.1.cnt0 hFM2 rfl
  obtain ⟨r2, hv9⟩ := hr
  first | (obtain ⟨rfl, -⟩ := hv9) | (obtain rfl := hv9)
  show zG n (114, 4080270) 300 311 (1128, [zR 0, zR 8, zR 97, .inl i], [.inl r2]) M2 _
  refine zG_blk (c' := (2158, [zR 0, zR 8, zR 97, .inl i], [])) 2 (by decide) hz (zsteps_seg hg rfl) ?_
  exact K M2 ⟨hJM2, hXM2, hUM2⟩
noncomputable def sg_20 : List zE := [(1132, .aload_n ⟨1, zfin1⟩, 1133, zx0),
  (1133, .aload_n ⟨0, zfin0⟩, 1134, zx0),
  (1134, .iload_n ⟨3, zfin3⟩, 1135, zx0),
  (1135, .iconst 1, 1136, zx0),
  (1136, .iadd, 1137, zx0),
  (1137, .iaload, 1138, zx0),
  (1138, .aload_n ⟨0, zfin0⟩, 1139, zx0),
  (1139, .iload_n ⟨3, zfin3⟩, 1140, zx0),
  (1140, .iconst 2, 1141, zx0),
  (1141, .iadd, 1142, zx0),
  (1142, .iaload, 1143, zx0),
  (1143, .aload_n ⟨0, zfin0⟩, 1144, zx0),
  (1144, .iload_n ⟨3, zfin3⟩, 1145, zx0),
  (1145, .iconst 3, 1146, zx0),
  (1146, .iadd, 1147, zx0),
  (1147, .iaload, 1148, zx0),
  (1148, .invokevirtual 100, 1151, (143, 4, 0, [11])),
  (1151, .pop, 1152, zx0),
  (1152, .aload_n ⟨2, zfin2⟩, 1153, zx0),
  (1153, .aload_n ⟨0, zfin0⟩, 1154, zx0),
  (1154, .iload_n ⟨3, zfin3⟩, 1155, zx0),
  (1155, .iconst 1, 1156, zx0),
  (1156, .iadd, 1157, zx0),
  (1157, .iaload, 1158, zx0),
  (1158, .aload_n ⟨0, zfin0⟩, 1159, zx0),
  (1159, .iload_n ⟨3, zfin3⟩, 1160, zx0),
  (1160, .iconst 2, 1161, zx0),
  (1161, .iadd, 1162, zx0),
  (1162, .iaload, 1163, zx0),
  (1163, .aload_n ⟨0, zfin0⟩, 1164, zx0),
  (1164, .iload_n ⟨3, zfin3⟩, 1165, zx0),
  (1165, .iconst 3, 1166, zx0),
  (1166, .iadd, 1167, zx0),
  (1167, .iaload, 1168, zx0),
  (1168, .invokevirtual 103, 1171, (247, 4, 0, [12])),
  (1171, .pop, 1172, zx0),
  (1172, .goto (986), 1175, (2158, 0, 0, []))]
set_option maxRecDepth 100000 in
theorem sh_20 : zSeg zk_L_law sg_20 := zSeg_of 790 37 1132 (by decide +kernel) rfl (by decide +kernel)
set_option maxRecDepth 100000 in
theorem qL_20 (hY : qY M) (hn : n ≤ 4096) (hi : 0 ≤ i ∧ i + 8 ≤ n) (K : ∀ M', qY M' → zG n (114, 4080270) 300 311 (2158, [zR 0, zR 8, zR 97, .inl i], []) M' qLQ) : zG n (114, 4080270) 300 311 (1132, [zR 0, zR 8, zR 97, .inl i], []) M qLQ := by
  have hz := zp_311
  have hg := sh_20
  have hJ := hY.1
  have hX := hY.2.1
  have hU := hY.2.2
  refine zG_blk (c' := (1137, [zR 0, zR 8, zR 97, .inl i], [.inl (i + 1), zR 0, zR 8])) 5 (by decide) hz (zsteps_seg hg (by rw [show (.inl (i + 1) : zV) = .inl (w32 (i + 1)) from by rw [w32_id (by omega)]]; rfl)) ?_
  refine zG_iald (by decide) hz (hg _ _ rfl) rfl (.inr rfl) (by omega) ?_
  obtain ⟨x1, hx1⟩ : ∃ x : Int, x = M 0 (i + 1).toNat := ⟨_, rfl⟩
  rw [← hx1]
  have hr1 : qin x1 := by rw [hx1]; exact hJ.1.rng 0 _ (by decide) (by decide)
  show zG n (114, 4080270) 300 311 (1138, [zR 0, zR 8, zR 97, .inl i], [.inl x1, zR 8]) M _
  refine zG_blk (c' := (1142, [zR 0, zR 8, zR 97, .inl i], [.inl (i + 2), zR 0, .inl x1, zR 8])) 4 (by decide) hz (zsteps_seg hg (by rw [show (.inl (i + 2) : zV) = .inl (w32 (i + 2)) from by rw [w32_id (by omega)]]; rfl)) ?_
  refine zG_iald (by decide) hz (hg _ _ rfl) rfl (.inr rfl) (by omega) ?_
  obtain ⟨x2, hx2⟩ : ∃ x : Int, x = M 0 (i + 2).toNat := ⟨_, rfl⟩
  rw [← hx2]
  have hr2 : qin x2 := by rw [hx2]; exact hJ.1.rng 0 _ (by decide) (by decide)
  show zG n (114, 4080270) 300 311 (1143, [zR 0, zR 8, zR 97, .inl i], [.inl x2, .inl x1, zR 8]) M _
  refine zG_blk (c' := (1147, [zR 0, zR 8, zR 97, .inl i], [.inl (i + 3), zR 0, .inl x2, .inl x1, zR 8])) 4 (by decide) hz (zsteps_seg hg (by rw [show (.inl (i + 3) : zV) = .inl (w32 (i + 3)) from by rw [w32_id (by omega)]]; rfl)) ?_
  refine zG_iald (by decide) hz (hg _ _ rfl) rfl (.inr rfl) (by omega) ?_
  obtain ⟨x3, hx3⟩ : ∃ x : Int, x = M 0 (i + 3).toNat := ⟨_, rfl⟩
  rw [← hx3]
  have hr3 : qin x3 := by rw [hx3]; exact hJ.1.rng 0 _ (by decide) (by decide)
  show zG n (114, 4080270) 300 311 (1148, [zR 0, zR 8, zR 97, .inl i], [.inl x3, .inl x2, .inl x1, zR 8]) M _
  refine zG_call (by decide) hz zp_143 (hg _ _ rfl) rfl (Nat.le_of_ble_eq_true rfl) ⟨Nat.le_of_ble_eq_true rfl, Nat.le_of_ble_eq_true rfl⟩ (qm_143_8 (by decide) hJ.1 x1 (by omega) x2 (by omega) x3 (by omega)) (fun vr M1 hr => ?_)
  obtain ⟨⟨hCM1, hFM1⟩, hr⟩ := hr
  have hJM1 : qJ M1 := hJ.cls hCM1 hFM1 rfl rfl
  have hXM1 : qX M1 := hX.cls hFM1 rfl; have hUM1 : qU M1 := hU.cg (hFM1.hi rfl)
  have hc0 : ∀ j, M1 0 j = M 0 j := fun j => hFM1 0 j (by decide)
  obtain ⟨r1, rfl, -⟩ := hr
  show zG n (114, 4080270) 300 311 (1151, [zR 0, zR 8, zR 97, .inl i], [.inl r1]) M1 _
  refine zG_blk (c' := (1157, [zR 0, zR 8, zR 97, .inl i], [.inl (i + 1), zR 0, zR 97])) 6 (by decide) hz (zsteps_seg hg (by rw [show (.inl (i + 1) : zV) = .inl (w32 (i + 1)) from by rw [w32_id (by omega)]]; rfl)) ?_
  refine zG_iald (by decide) hz (hg _ _ rfl) rfl (.inr rfl) (by omega) ?_
  rw [show M1 0 (i + 1).toNat = x1 from (hc0 _).trans hx1.symm]
  show zG n (114, 4080270) 300 311 (1158, [zR 0, zR 8, zR 97, .inl i], [.inl x1, zR 97]) M1 _
  refine zG_blk (c' := (1162, [zR 0, zR 8, zR 97, .inl i], [.inl (i + 2), zR 0, .inl x1, zR 97])) 4 (by decide) hz (zsteps_seg hg (by rw [show (.inl (i + 2) : zV) = .inl (w32 (i + 2)) from by rw [w32_id (by omega)]]; rfl)) ?_
  refine zG_iald (by decide) hz (hg _ _ rfl) rfl (.inr rfl) (by omega) ?_
  rw [show M1 0 (i + 2).toNat = x2 from (hc0 _).trans hx2.symm]
  show zG n (114, 4080270) 300 311 (1163, [zR 0, zR 8, zR 97, .inl i], [.inl x2, .inl x1, zR 97]) M1 _
  refine zG_blk (c' := (1167, [zR 0, zR 8, zR 97, .inl i], [.inl (i + 3), zR 0, .inl x2, .inl x1, zR 97])) 4 (by decide) hz (zsteps_seg hg (by rw [show (.inl (i + 3) : zV) = .inl (w32 (i + 3)) from by rw [w32_id (by omega)]]; rfl)) ?_
  refine zG_iald (by decide) hz (hg _ _ rfl) rfl (.inr rfl) (by omega) ?_
  rw [show M1 0 (i + 3).toNat = x3 from (hc0 _).trans hx3.symm]
  show zG n (114, 4080270) 300 311 (1168, [zR 0, zR 8, zR 97, .inl i], [.inl x3, .inl x2, .inl x1, zR 97]) M1 _
  refine zG_call (by decide) hz zp_247 (hg _ _ rfl) rfl (Nat.le_of_ble_eq_true rfl) ⟨Nat.le_of_ble_eq_true rfl, Nat.le_of_ble_eq_true rfl⟩ (qm_247_97 (by decide) hJM1.2.1 x1 (by omega) x2 (by omega) x3 (by omega)) (fun vr M2 hr => ?_)
  obtain ⟨⟨hCM2, hFM2⟩, hr⟩ := hr
  have hJM2 : qJ M2 := hJM1.mdl hCM2 hFM2 rfl (by decide) (fun j _ => hFM2.ar 98 j (by decide) (by decide))
  have hXM2 : qX M2 := hXM1.mdl hFM2 rfl
  have hUM2 : qU M2 := hUM1.fr hJM1.2.1.cnt0 hFM2 rfl
  obtain ⟨r2, hv9⟩ := hr
  first | (obtain ⟨rfl, -⟩ := hv9) | (obtain rfl := hv9)
  show zG n (114, 4080270) 300 311 (1171, [zR 0, zR 8, zR 97, .inl i], [.inl r2]) M2 _
  refine zG_blk (c' := (2158, [zR 0, zR 8, zR 97, .inl i], [])) 2 (by decide) hz (zsteps_seg hg rfl) ?_
  exact K M2 ⟨hJM2, hXM2, hUM2⟩
noncomputable def sg_21 : List zE := [(1175, .aload_n ⟨1, zfin1⟩, 1176, zx0),
  (1176, .aload_n ⟨0, zfin0⟩, 1177, zx0),
  (1177, .iload_n ⟨3, zfin3⟩, 1178, zx0),
  (1178, .iconst 1, 1179, zx0),
  (1179, .iadd, 1180, zx0),
  (1180, .iaload, 1181, zx0),
  (1181, .aload_n ⟨0, zfin0⟩, 1182, zx0),
  (1182, .iload_n ⟨3, zfin3⟩, 1183, zx0),
  (1183, .iconst 2, 1184, zx0),
  (1184, .iadd, 1185, zx0),
  (1185, .iaload, 1186, zx0),
  (1186, .aload_n ⟨0, zfin0⟩, 1187, zx0),
  (1187, .iload_n ⟨3, zfin3⟩, 1188, zx0),
  (1188, .iconst 3, 1189, zx0),
  (1189, .iadd, 1190, zx0),
  (1190, .iaload, 1191, zx0),
  (1191, .aload_n ⟨0, zfin0⟩, 1192, zx0),
  (1192, .iload_n ⟨3, zfin3⟩, 1193, zx0),
  (1193, .iconst 4, 1194, zx0),
  (1194, .iadd, 1195, zx0),
  (1195, .iaload, 1196, zx0),
  (1196, .invokevirtual 104, 1199, (144, 5, 0, [11])),
  (1199, .pop2, 1200, zx0),
  (1200, .aload_n ⟨2, zfin2⟩, 1201, zx0),
  (1201, .aload_n ⟨0, zfin0⟩, 1202, zx0),
  (1202, .iload_n ⟨3, zfin3⟩, 1203, zx0),
  (1203, .iconst 1, 1204, zx0),
  (1204, .iadd, 1205, zx0),
  (1205, .iaload, 1206, zx0),
  (1206, .aload_n ⟨0, zfin0⟩, 1207, zx0),
  (1207, .iload_n ⟨3, zfin3⟩, 1208, zx0),
  (1208, .iconst 2, 1209, zx0),
  (1209, .iadd, 1210, zx0),
  (1210, .iaload, 1211, zx0),
  (1211, .aload_n ⟨0, zfin0⟩, 1212, zx0),
  (1212, .iload_n ⟨3, zfin3⟩, 1213, zx0),
  (1213, .iconst 3, 1214, zx0),
  (1214, .iadd, 1215, zx0),
  (1215, .iaload, 1216, zx0),
  (1216, .aload_n ⟨0, zfin0⟩, 1217, zx0),
  (1217, .iload_n ⟨3, zfin3⟩, 1218, zx0),
  (1218, .iconst 4, 1219, zx0),
  (1219, .iadd, 1220, zx0),
  (1220, .iaload, 1221, zx0),
  (1221, .invokevirtual 108, 1224, (248, 5, 0, [12])),
  (1224, .pop2, 1225, zx0),
  (1225, .goto (933), 1228, (2158, 0, 0, []))]
set_option maxRecDepth 100000 in
theorem sh_21 : zSeg zk_L_law sg_21 := zSeg_of 827 47 1175 (by decide +kernel) rfl (by decide +kernel)
set_option maxRecDepth 100000 in
theorem qL_21 (hY : qY M) (hn : n ≤ 4096) (hi : 0 ≤ i ∧ i + 8 ≤ n) (K : ∀ M', qY M' → zG n (114, 4080270) 300 311 (2158, [zR 0, zR 8, zR 97, .inl i], []) M' qLQ) : zG n (114, 4080270) 300 311 (1175, [zR 0, zR 8, zR 97, .inl i], []) M qLQ := by
  have hz := zp_311
  have hg := sh_21
  have hJ := hY.1
  have hX := hY.2.1
  have hU := hY.2.2
  refine zG_blk (c' := (1180, [zR 0, zR 8, zR 97, .inl i], [.inl (i + 1), zR 0, zR 8])) 5 (by decide) hz (zsteps_seg hg (by rw [show (.inl (i + 1) : zV) = .inl (w32 (i + 1)) from by rw [w32_id (by omega)]]; rfl)) ?_
  refine zG_iald (by decide) hz (hg _ _ rfl) rfl (.inr rfl) (by omega) ?_
  obtain ⟨x1, hx1⟩ : ∃ x : Int, x = M 0 (i + 1).toNat := ⟨_, rfl⟩
  rw [← hx1]
  have hr1 : qin x1 := by rw [hx1]; exact hJ.1.rng 0 _ (by decide) (by decide)
  show zG n (114, 4080270) 300 311 (1181, [zR 0, zR 8, zR 97, .inl i], [.inl x1, zR 8]) M _
  refine zG_blk (c' := (1185, [zR 0, zR 8, zR 97, .inl i], [.inl (i + 2), zR 0, .inl x1, zR 8])) 4 (by decide) hz (zsteps_seg hg (by rw [show (.inl (i + 2) : zV) = .inl (w32 (i + 2)) from by rw [w32_id (by omega)]]; rfl)) ?_
  refine zG_iald (by decide) hz (hg _ _ rfl) rfl (.inr rfl) (by omega) ?_
  obtain ⟨x2, hx2⟩ : ∃ x : Int, x = M 0 (i + 2).toNat := ⟨_, rfl⟩
  rw [← hx2]
  have hr2 : qin x2 := by rw [hx2]; exact hJ.1.rng 0 _ (by decide) (by decide)
  show zG n (114, 4080270) 300 311 (1186, [zR 0, zR 8, zR 97, .inl i], [.inl x2, .inl x1, zR 8]) M _
  refine zG_blk (c' := (1190, [zR 0, zR 8, zR 97, .inl i], [.inl (i + 3), zR 0, .inl x2, .inl x1, zR 8])) 4 (by decide) hz (zsteps_seg hg (by rw [show (.inl (i + 3) : zV) = .inl (w32 (i + 3)) from by rw [w32_id (by omega)]]; rfl)) ?_
  refine zG_iald (by decide) hz (hg _ _ rfl) rfl (.inr rfl) (by omega) ?_
  obtain ⟨x3, hx3⟩ : ∃ x : Int, x = M 0 (i + 3).toNat := ⟨_, rfl⟩
  rw [← hx3]
  have hr3 : qin x3 := by rw [hx3]; exact hJ.1.rng 0 _ (by decide) (by decide)
  show zG n (114, 4080270) 300 311 (1191, [zR 0, zR 8, zR 97, .inl i], [.inl x3, .inl x2, .inl x1, zR 8]) M _
  refine zG_blk (c' := (1195, [zR 0, zR 8, zR 97, .inl i], [.inl (i + 4), zR 0, .inl x3, .inl x2, .inl x1, zR 8])) 4 (by decide) hz (zsteps_seg hg (by rw [show (.inl (i + 4) : zV) = .inl (w32 (i + 4)) from by rw [w32_id (by omega)]]; rfl)) ?_
  refine zG_iald (by decide) hz (hg _ _ rfl) rfl (.inr rfl) (by omega) ?_
  obtain ⟨x4, hx4⟩ : ∃ x : Int, x = M 0 (i + 4).toNat := ⟨_, rfl⟩
  rw [← hx4]
  have hr4 : qin x4 := by rw [hx4]; exact hJ.1.rng 0 _ (by decide) (by decide)
  show zG n (114, 4080270) 300 311 (1196, [zR 0, zR 8, zR 97, .inl i], [.inl x4, .inl x3, .inl x2, .inl x1, zR 8]) M _
  refine zG_call (by decide) hz zp_144 (hg _ _ rfl) rfl (Nat.le_of_ble_eq_true rfl) ⟨Nat.le_of_ble_eq_true rfl, Nat.le_of_ble_eq_true rfl⟩ (qm_144_8 (by decide) hJ.1 x1 (by omega) x2 (by omega) x3 (by omega) x4 (by omega)) (fun vr M1 hr => ?_)
  obtain ⟨⟨hCM1, hFM1⟩, hr⟩ := hr
  have hJM1 : qJ M1 := hJ.cls hCM1 hFM1 rfl rfl
  have hXM1 : qX M1 := hX.cls hFM1 rfl; have hUM1 : qU M1 := hU.cg (hFM1.hi rfl)
  have hc0 : ∀ j, M1 0 j = M 0 j := fun j => hFM1 0 j (by decide)
  obtain ⟨r1, rfl⟩ := hr
  show zG n (114, 4080270) 300 311 (1199, [zR 0, zR 8, zR 97, .inl i], [(.inr (.inl r1))]) M1 _
  refine zG_blk (c' := (1205, [zR 0, zR 8, zR 97, .inl i], [.inl (i + 1), zR 0, zR 97])) 6 (by decide) hz (zsteps_seg hg (by rw [show (.inl (i + 1) : zV) = .inl (w32 (i + 1)) from by rw [w32_id (by omega)]]; rfl)) ?_
  refine zG_iald (by decide) hz (hg _ _ rfl) rfl (.inr rfl) (by omega) ?_
  rw [show M1 0 (i + 1).toNat = x1 from (hc0 _).trans hx1.symm]
  show zG n (114, 4080270) 300 311 (1206, [zR 0, zR 8, zR 97, .inl i], [.inl x1, zR 97]) M1 _
  refine zG_blk (c' := (1210, [zR 0, zR 8, zR 97, .inl i], [.inl (i + 2), zR 0, .inl x1, zR 97])) 4 (by decide) hz (zsteps_seg hg (by rw [show (.inl (i + 2) : zV) = .inl (w32 (i + 2)) from by rw [w32_id (by omega)]]; rfl)) ?_
  refine zG_iald (by decide) hz (hg _ _ rfl) rfl (.inr rfl) (by omega) ?_
  rw [show M1 0 (i + 2).toNat = x2 from (hc0 _).trans hx2.symm]
  show zG n (114, 4080270) 300 311 (1211, [zR 0, zR 8, zR 97, .inl i], [.inl x2, .inl x1, zR 97]) M1 _
  refine zG_blk (c' := (1215, [zR 0, zR 8, zR 97, .inl i], [.inl (i + 3), zR 0, .inl x2, .inl x1, zR 97])) 4 (by decide) hz (zsteps_seg hg (by rw [show (.inl (i + 3) : zV) = .inl (w32 (i + 3)) from by rw [w32_id (by omega)]]; rfl)) ?_
  refine zG_iald (by decide) hz (hg _ _ rfl) rfl (.inr rfl) (by omega) ?_
  rw [show M1 0 (i + 3).toNat = x3 from (hc0 _).trans hx3.symm]
  show zG n (114, 4080270) 300 311 (1216, [zR 0, zR 8, zR 97, .inl i], [.inl x3, .inl x2, .inl x1, zR 97]) M1 _
  refine zG_blk (c' := (1220, [zR 0, zR 8, zR 97, .inl i], [.inl (i + 4), zR 0, .inl x3, .inl x2, .inl x1, zR 97])) 4 (by decide) hz (zsteps_seg hg (by rw [show (.inl (i + 4) : zV) = .inl (w32 (i + 4)) from by rw [w32_id (by omega)]]; rfl)) ?_
  refine zG_iald (by decide) hz (hg _ _ rfl) rfl (.inr rfl) (by omega) ?_
  rw [show M1 0 (i + 4).toNat = x4 from (hc0 _).trans hx4.symm]
  show zG n (114, 4080270) 300 311 (1221, [zR 0, zR 8, zR 97, .inl i], [.inl x4, .inl x3, .inl x2, .inl x1, zR 97]) M1 _
  refine zG_call (by decide) hz zp_248 (hg _ _ rfl) rfl (Nat.le_of_ble_eq_true rfl) ⟨Nat.le_of_ble_eq_true rfl, Nat.le_of_ble_eq_true rfl⟩ (qm_248_97 (by decide) hJM1.2.1 x1 (by omega) x2 (by omega) x3 (by omega) x4 (by omega)) (fun vr M2 hr => ?_)
  obtain ⟨⟨hCM2, hFM2⟩, hr⟩ := hr
  have hJM2 : qJ M2 := hJM1.mdl hCM2 hFM2 rfl (by decide) (fun j _ => hFM2.ar 98 j (by decide) (by decide))
  have hXM2 : qX M2 := hXM1.mdl hFM2 rfl
  have hUM2 : qU M2 := hUM1.fr hJM1.2.1.cnt0 hFM2 rfl
  obtain ⟨r2, hv9⟩ := hr
  first | (obtain ⟨rfl, -⟩ := hv9) | (obtain rfl := hv9)
  show zG n (114, 4080270) 300 311 (1224, [zR 0, zR 8, zR 97, .inl i], [(.inr (.inl r2))]) M2 _
  refine zG_blk (c' := (2158, [zR 0, zR 8, zR 97, .inl i], [])) 2 (by decide) hz (zsteps_seg hg rfl) ?_
  exact K M2 ⟨hJM2, hXM2, hUM2⟩
noncomputable def sg_22 : List zE := [(1228, .aload_n ⟨1, zfin1⟩, 1229, zx0),
  (1229, .aload_n ⟨0, zfin0⟩, 1230, zx0),
  (1230, .iload_n ⟨3, zfin3⟩, 1231, zx0),
  (1231, .iconst 1, 1232, zx0),
  (1232, .iadd, 1233, zx0),
  (1233, .iaload, 1234, zx0),
  (1234, .aload_n ⟨0, zfin0⟩, 1235, zx0),
  (1235, .iload_n ⟨3, zfin3⟩, 1236, zx0),
  (1236, .iconst 2, 1237, zx0),
  (1237, .iadd, 1238, zx0),
  (1238, .iaload, 1239, zx0),
  (1239, .aload_n ⟨0, zfin0⟩, 1240, zx0),
  (1240, .iload_n ⟨3, zfin3⟩, 1241, zx0),
  (1241, .iconst 3, 1242, zx0),
  (1242, .iadd, 1243, zx0),
  (1243, .iaload, 1244, zx0),
  (1244, .invokevirtual 109, 1247, (145, 4, 0, [11])),
  (1247, .pop, 1248, zx0),
  (1248, .aload_n ⟨2, zfin2⟩, 1249, zx0),
  (1249, .aload_n ⟨0, zfin0⟩, 1250, zx0),
  (1250, .iload_n ⟨3, zfin3⟩, 1251, zx0),
  (1251, .iconst 1, 1252, zx0),
  (1252, .iadd, 1253, zx0),
  (1253, .iaload, 1254, zx0),
  (1254, .aload_n ⟨0, zfin0⟩, 1255, zx0),
  (1255, .iload_n ⟨3, zfin3⟩, 1256, zx0),
  (1256, .iconst 2, 1257, zx0),
  (1257, .iadd, 1258, zx0),
  (1258, .iaload, 1259, zx0),
  (1259, .aload_n ⟨0, zfin0⟩, 1260, zx0),
  (1260, .iload_n ⟨3, zfin3⟩, 1261, zx0),
  (1261, .iconst 3, 1262, zx0),
  (1262, .iadd, 1263, zx0),
  (1263, .iaload, 1264, zx0),
  (1264, .invokevirtual 112, 1267, (249, 4, 0, [12])),
  (1267, .pop, 1268, zx0),
  (1268, .goto (890), 1271, (2158, 0, 0, []))]
set_option maxRecDepth 100000 in
theorem sh_22 : zSeg zk_L_law sg_22 := zSeg_of 874 37 1228 (by decide +kernel) rfl (by decide +kernel)
set_option maxRecDepth 100000 in
theorem qL_22 (hY : qY M) (hn : n ≤ 4096) (hi : 0 ≤ i ∧ i + 8 ≤ n) (K : ∀ M', qY M' → zG n (114, 4080270) 300 311 (2158, [zR 0, zR 8, zR 97, .inl i], []) M' qLQ) : zG n (114, 4080270) 300 311 (1228, [zR 0, zR 8, zR 97, .inl i], []) M qLQ := by
  have hz := zp_311
  have hg := sh_22
  have hJ := hY.1
  have hX := hY.2.1
  have hU := hY.2.2
  refine zG_blk (c' := (1233, [zR 0, zR 8, zR 97, .inl i], [.inl (i + 1), zR 0, zR 8])) 5 (by decide) hz (zsteps_seg hg (by rw [show (.inl (i + 1) : zV) = .inl (w32 (i + 1)) from by rw [w32_id (by omega)]]; rfl)) ?_
  refine zG_iald (by decide) hz (hg _ _ rfl) rfl (.inr rfl) (by omega) ?_
  obtain ⟨x1, hx1⟩ : ∃ x : Int, x = M 0 (i + 1).toNat := ⟨_, rfl⟩
  rw [← hx1]
  have hr1 : qin x1 := by rw [hx1]; exact hJ.1.rng 0 _ (by decide) (by decide)
  show zG n (114, 4080270) 300 311 (1234, [zR 0, zR 8, zR 97, .inl i], [.inl x1, zR 8]) M _
  refine zG_blk (c' := (1238, [zR 0, zR 8, zR 97, .inl i], [.inl (i + 2), zR 0, .inl x1, zR 8])) 4 (by decide) hz (zsteps_seg hg (by rw [show (.inl (i + 2) : zV) = .inl (w32 (i + 2)) from by rw [w32_id (by omega)]]; rfl)) ?_
  refine zG_iald (by decide) hz (hg _ _ rfl) rfl (.inr rfl) (by omega) ?_
  obtain ⟨x2, hx2⟩ : ∃ x : Int, x = M 0 (i + 2).toNat := ⟨_, rfl⟩
  rw [← hx2]
  have hr2 : qin x2 := by rw [hx2]; exact hJ.1.rng 0 _ (by decide) (by decide)
  show zG n (114, 4080270) 300 311 (1239, [zR 0, zR 8, zR 97, .inl i], [.inl x2, .inl x1, zR 8]) M _
  refine zG_blk (c' := (1243, [zR 0, zR 8, zR 97, .inl i], [.inl (i + 3), zR 0, .inl x2, .inl x1, zR 8])) 4 (by decide) hz (zsteps_seg hg (by rw [show (.inl (i + 3) : zV) = .inl (w32 (i + 3)) from by rw [w32_id (by omega)]]; rfl)) ?_
  refine zG_iald (by decide) hz (hg _ _ rfl) rfl (.inr rfl) (by omega) ?_
  obtain ⟨x3, hx3⟩ : ∃ x : Int, x = M 0 (i + 3).toNat := ⟨_, rfl⟩
  rw [← hx3]
  have hr3 : qin x3 := by rw [hx3]; exact hJ.1.rng 0 _ (by decide) (by decide)
  show zG n (114, 4080270) 300 311 (1244, [zR 0, zR 8, zR 97, .inl i], [.inl x3, .inl x2, .inl x1, zR 8]) M _
  refine zG_call (by decide) hz zp_145 (hg _ _ rfl) rfl (Nat.le_of_ble_eq_true rfl) ⟨Nat.le_of_ble_eq_true rfl, Nat.le_of_ble_eq_true rfl⟩ (qm_145_8 (by decide) hJ.1 x1 (by omega) x2 (by omega) x3 (by omega)) (fun vr M1 hr => ?_)
  obtain ⟨⟨hCM1, hFM1⟩, hr⟩ := hr
  have hJM1 : qJ M1 := hJ.cls hCM1 hFM1 rfl rfl
  have hXM1 : qX M1 := hX.cls hFM1 rfl; have hUM1 : qU M1 := hU.cg (hFM1.hi rfl)
  have hc0 : ∀ j, M1 0 j = M 0 j := fun j => hFM1 0 j (by decide)
  obtain ⟨r1, rfl, -⟩ := hr
  show zG n (114, 4080270) 300 311 (1247, [zR 0, zR 8, zR 97, .inl i], [.inl r1]) M1 _
  refine zG_blk (c' := (1253, [zR 0, zR 8, zR 97, .inl i], [.inl (i + 1), zR 0, zR 97])) 6 (by decide) hz (zsteps_seg hg (by rw [show (.inl (i + 1) : zV) = .inl (w32 (i + 1)) from by rw [w32_id (by omega)]]; rfl)) ?_
  refine zG_iald (by decide) hz (hg _ _ rfl) rfl (.inr rfl) (by omega) ?_
  rw [show M1 0 (i + 1).toNat = x1 from (hc0 _).trans hx1.symm]
  show zG n (114, 4080270) 300 311 (1254, [zR 0, zR 8, zR 97, .inl i], [.inl x1, zR 97]) M1 _
  refine zG_blk (c' := (1258, [zR 0, zR 8, zR 97, .inl i], [.inl (i + 2), zR 0, .inl x1, zR 97])) 4 (by decide) hz (zsteps_seg hg (by rw [show (.inl (i + 2) : zV) = .inl (w32 (i + 2)) from by rw [w32_id (by omega)]]; rfl)) ?_
  refine zG_iald (by decide) hz (hg _ _ rfl) rfl (.inr rfl) (by omega) ?_
  rw [show M1 0 (i + 2).toNat = x2 from (hc0 _).trans hx2.symm]
  show zG n (114, 4080270) 300 311 (1259, [zR 0, zR 8, zR 97, .inl i], [.inl x2, .inl x1, zR 97]) M1 _
  refine zG_blk (c' := (1263, [zR 0, zR 8, zR 97, .inl i], [.inl (i + 3), zR 0, .inl x2, .inl x1, zR 97])) 4 (by decide) hz (zsteps_seg hg (by rw [show (.inl (i + 3) : zV) = .inl (w32 (i + 3)) from by rw [w32_id (by omega)]]; rfl)) ?_
  refine zG_iald (by decide) hz (hg _ _ rfl) rfl (.inr rfl) (by omega) ?_
  rw [show M1 0 (i + 3).toNat = x3 from (hc0 _).trans hx3.symm]
  show zG n (114, 4080270) 300 311 (1264, [zR 0, zR 8, zR 97, .inl i], [.inl x3, .inl x2, .inl x1, zR 97]) M1 _
  refine zG_call (by decide) hz zp_249 (hg _ _ rfl) rfl (Nat.le_of_ble_eq_true rfl) ⟨Nat.le_of_ble_eq_true rfl, Nat.le_of_ble_eq_true rfl⟩ (qm_249_97 (by decide) hJM1.2.1 x1 (by omega) x2 (by omega) x3 (by omega)) (fun vr M2 hr => ?_)
  obtain ⟨⟨hCM2, hFM2⟩, hr⟩ := hr
  have hJM2 : qJ M2 := hJM1.mdl hCM2 hFM2 rfl (by decide) (fun j _ => hFM2.ar 98 j (by decide) (by decide))
  have hXM2 : qX M2 := hXM1.mdl hFM2 rfl
  have hUM2 : qU M2 := hUM1.fr hJM1.2.1.cnt0 hFM2 rfl
  obtain ⟨r2, hv9⟩ := hr
  first | (obtain ⟨rfl, -⟩ := hv9) | (obtain rfl := hv9)
  show zG n (114, 4080270) 300 311 (1267, [zR 0, zR 8, zR 97, .inl i], [.inl r2]) M2 _
  refine zG_blk (c' := (2158, [zR 0, zR 8, zR 97, .inl i], [])) 2 (by decide) hz (zsteps_seg hg rfl) ?_
  exact K M2 ⟨hJM2, hXM2, hUM2⟩
noncomputable def sg_23 : List zE := [(1271, .aload_n ⟨1, zfin1⟩, 1272, zx0),
  (1272, .aload_n ⟨0, zfin0⟩, 1273, zx0),
  (1273, .iload_n ⟨3, zfin3⟩, 1274, zx0),
  (1274, .iconst 1, 1275, zx0),
  (1275, .iadd, 1276, zx0),
  (1276, .iaload, 1277, zx0),
  (1277, .aload_n ⟨0, zfin0⟩, 1278, zx0),
  (1278, .iload_n ⟨3, zfin3⟩, 1279, zx0),
  (1279, .iconst 2, 1280, zx0),
  (1280, .iadd, 1281, zx0),
  (1281, .iaload, 1282, zx0),
  (1282, .aload_n ⟨0, zfin0⟩, 1283, zx0),
  (1283, .iload_n ⟨3, zfin3⟩, 1284, zx0),
  (1284, .iconst 3, 1285, zx0),
  (1285, .iadd, 1286, zx0),
  (1286, .iaload, 1287, zx0),
  (1287, .invokevirtual 113, 1290, (146, 4, 0, [11])),
  (1290, .pop, 1291, zx0),
  (1291, .aload_n ⟨2, zfin2⟩, 1292, zx0),
  (1292, .aload_n ⟨0, zfin0⟩, 1293, zx0),
  (1293, .iload_n ⟨3, zfin3⟩, 1294, zx0),
  (1294, .iconst 1, 1295, zx0),
  (1295, .iadd, 1296, zx0),
  (1296, .iaload, 1297, zx0),
  (1297, .aload_n ⟨0, zfin0⟩, 1298, zx0),
  (1298, .iload_n ⟨3, zfin3⟩, 1299, zx0),
  (1299, .iconst 2, 1300, zx0),
  (1300, .iadd, 1301, zx0),
  (1301, .iaload, 1302, zx0),
  (1302, .aload_n ⟨0, zfin0⟩, 1303, zx0),
  (1303, .iload_n ⟨3, zfin3⟩, 1304, zx0),
  (1304, .iconst 3, 1305, zx0),
  (1305, .iadd, 1306, zx0),
  (1306, .iaload, 1307, zx0),
  (1307, .invokevirtual 116, 1310, (250, 4, 0, [12])),
  (1310, .pop, 1311, zx0),
  (1311, .goto (847), 1314, (2158, 0, 0, []))]
set_option maxRecDepth 100000 in
theorem sh_23 : zSeg zk_L_law sg_23 := zSeg_of 911 37 1271 (by decide +kernel) rfl (by decide +kernel)
set_option maxRecDepth 100000 in
theorem qL_23 (hY : qY M) (hn : n ≤ 4096) (hi : 0 ≤ i ∧ i + 8 ≤ n) (K : ∀ M', qY M' → zG n (114, 4080270) 300 311 (2158, [zR 0, zR 8, zR 97, .inl i], []) M' qLQ) : zG n (114, 4080270) 300 311 (1271, [zR 0, zR 8, zR 97, .inl i], []) M qLQ := by
  have hz := zp_311
  have hg := sh_23
  have hJ := hY.1
  have hX := hY.2.1
  have hU := hY.2.2
  refine zG_blk (c' := (1276, [zR 0, zR 8, zR 97, .inl i], [.inl (i + 1), zR 0, zR 8])) 5 (by decide) hz (zsteps_seg hg (by rw [show (.inl (i + 1) : zV) = .inl (w32 (i + 1)) from by rw [w32_id (by omega)]]; rfl)) ?_
  refine zG_iald (by decide) hz (hg _ _ rfl) rfl (.inr rfl) (by omega) ?_
  obtain ⟨x1, hx1⟩ : ∃ x : Int, x = M 0 (i + 1).toNat := ⟨_, rfl⟩
  rw [← hx1]
  have hr1 : qin x1 := by rw [hx1]; exact hJ.1.rng 0 _ (by decide) (by decide)
  show zG n (114, 4080270) 300 311 (1277, [zR 0, zR 8, zR 97, .inl i], [.inl x1, zR 8]) M _
  refine zG_blk (c' := (1281, [zR 0, zR 8, zR 97, .inl i], [.inl (i + 2), zR 0, .inl x1, zR 8])) 4 (by decide) hz (zsteps_seg hg (by rw [show (.inl (i + 2) : zV) = .inl (w32 (i + 2)) from by rw [w32_id (by omega)]]; rfl)) ?_
  refine zG_iald (by decide) hz (hg _ _ rfl) rfl (.inr rfl) (by omega) ?_
  obtain ⟨x2, hx2⟩ : ∃ x : Int, x = M 0 (i + 2).toNat := ⟨_, rfl⟩
  rw [← hx2]
  have hr2 : qin x2 := by rw [hx2]; exact hJ.1.rng 0 _ (by decide) (by decide)
  show zG n (114, 4080270) 300 311 (1282, [zR 0, zR 8, zR 97, .inl i], [.inl x2, .inl x1, zR 8]) M _
  refine zG_blk (c' := (1286, [zR 0, zR 8, zR 97, .inl i], [.inl (i + 3), zR 0, .inl x2, .inl x1, zR 8])) 4 (by decide) hz (zsteps_seg hg (by rw [show (.inl (i + 3) : zV) = .inl (w32 (i + 3)) from by rw [w32_id (by omega)]]; rfl)) ?_
  refine zG_iald (by decide) hz (hg _ _ rfl) rfl (.inr rfl) (by omega) ?_
  obtain ⟨x3, hx3⟩ : ∃ x : Int, x = M 0 (i + 3).toNat := ⟨_, rfl⟩
  rw [← hx3]
  have hr3 : qin x3 := by rw [hx3]; exact hJ.1.rng 0 _ (by decide) (by decide)
  show zG n (114, 4080270) 300 311 (1287, [zR 0, zR 8, zR 97, .inl i], [.inl x3, .inl x2, .inl x1, zR 8]) M _
  refine zG_call (by decide) hz zp_146 (hg _ _ rfl) rfl (Nat.le_of_ble_eq_true rfl) ⟨Nat.le_of_ble_eq_true rfl, Nat.le_of_ble_eq_true rfl⟩ (qm_146_8 (by decide) hJ.1 x1 (by omega) x2 (by omega) x3 (by omega)) (fun vr M1 hr => ?_)
  obtain ⟨⟨hCM1, hFM1⟩, hr⟩ := hr
  have hJM1 : qJ M1 := hJ.cls hCM1 hFM1 rfl rfl
  have hXM1 : qX M1 := hX.cls hFM1 rfl; have hUM1 : qU M1 := hU.cg (hFM1.hi rfl)
  have hc0 : ∀ j, M1 0 j = M 0 j := fun j => hFM1 0 j (by decide)
  obtain ⟨r1, rfl, -⟩ := hr
  show zG n (114, 4080270) 300 311 (1290, [zR 0, zR 8, zR 97, .inl i], [.inl r1]) M1 _
  refine zG_blk (c' := (1296, [zR 0, zR 8, zR 97, .inl i], [.inl (i + 1), zR 0, zR 97])) 6 (by decide) hz (zsteps_seg hg (by rw [show (.inl (i + 1) : zV) = .inl (w32 (i + 1)) from by rw [w32_id (by omega)]]; rfl)) ?_
  refine zG_iald (by decide) hz (hg _ _ rfl) rfl (.inr rfl) (by omega) ?_
  rw [show M1 0 (i + 1).toNat = x1 from (hc0 _).trans hx1.symm]
  show zG n (114, 4080270) 300 311 (1297, [zR 0, zR 8, zR 97, .inl i], [.inl x1, zR 97]) M1 _
  refine zG_blk (c' := (1301, [zR 0, zR 8, zR 97, .inl i], [.inl (i + 2), zR 0, .inl x1, zR 97])) 4 (by decide) hz (zsteps_seg hg (by rw [show (.inl (i + 2) : zV) = .inl (w32 (i + 2)) from by rw [w32_id (by omega)]]; rfl)) ?_
  refine zG_iald (by decide) hz (hg _ _ rfl) rfl (.inr rfl) (by omega) ?_
  rw [show M1 0 (i + 2).toNat = x2 from (hc0 _).trans hx2.symm]
  show zG n (114, 4080270) 300 311 (1302, [zR 0, zR 8, zR 97, .inl i], [.inl x2, .inl x1, zR 97]) M1 _
  refine zG_blk (c' := (1306, [zR 0, zR 8, zR 97, .inl i], [.inl (i + 3), zR 0, .inl x2, .inl x1, zR 97])) 4 (by decide) hz (zsteps_seg hg (by rw [show (.inl (i + 3) : zV) = .inl (w32 (i + 3)) from by rw [w32_id (by omega)]]; rfl)) ?_
  refine zG_iald (by decide) hz (hg _ _ rfl) rfl (.inr rfl) (by omega) ?_
  rw [show M1 0 (i + 3).toNat = x3 from (hc0 _).trans hx3.symm]
  show zG n (114, 4080270) 300 311 (1307, [zR 0, zR 8, zR 97, .inl i], [.inl x3, .inl x2, .inl x1, zR 97]) M1 _
  refine zG_call (by decide) hz zp_250 (hg _ _ rfl) rfl (Nat.le_of_ble_eq_true rfl) ⟨Nat.le_of_ble_eq_true rfl, Nat.le_of_ble_eq_true rfl⟩ (qm_250_97 (by decide) hJM1.2.1 x1 (by omega) x2 (by omega) x3 (by omega)) (fun vr M2 hr => ?_)
  obtain ⟨⟨hCM2, hFM2⟩, hr⟩ := hr
  have hJM2 : qJ M2 := hJM1.mdl hCM2 hFM2 rfl (by decide) (fun j _ => hFM2.ar 98 j (by decide) (by decide))
  have hXM2 : qX M2 := hXM1.mdl hFM2 rfl
  have hUM2 : qU M2 := hUM1.fr hJM1.2.1.cnt0 hFM2 rfl
  obtain ⟨r2, hv9⟩ := hr
  first | (obtain ⟨rfl, -⟩ := hv9) | (obtain rfl := hv9)
  show zG n (114, 4080270) 300 311 (1310, [zR 0, zR 8, zR 97, .inl i], [.inl r2]) M2 _
  refine zG_blk (c' := (2158, [zR 0, zR 8, zR 97, .inl i], [])) 2 (by decide) hz (zsteps_seg hg rfl) ?_
  exact K M2 ⟨hJM2, hXM2, hUM2⟩
noncomputable def sg_24 : List zE := [(1314, .aload_n ⟨1, zfin1⟩, 1315, zx0),
  (1315, .aload_n ⟨0, zfin0⟩, 1316, zx0),
  (1316, .iload_n ⟨3, zfin3⟩, 1317, zx0),
  (1317, .iconst 1, 1318, zx0),
  (1318, .iadd, 1319, zx0),
  (1319, .iaload, 1320, zx0),
  (1320, .aload_n ⟨0, zfin0⟩, 1321, zx0),
  (1321, .iload_n ⟨3, zfin3⟩, 1322, zx0),
  (1322, .iconst 2, 1323, zx0),
  (1323, .iadd, 1324, zx0),
  (1324, .iaload, 1325, zx0),
  (1325, .aload_n ⟨0, zfin0⟩, 1326, zx0),
  (1326, .iload_n ⟨3, zfin3⟩, 1327, zx0),
  (1327, .iconst 3, 1328, zx0),
  (1328, .iadd, 1329, zx0),
  (1329, .iaload, 1330, zx0),
  (1330, .invokevirtual 117, 1333, (147, 4, 0, [11])),
  (1333, .pop, 1334, zx0),
  (1334, .aload_n ⟨2, zfin2⟩, 1335, zx0),
  (1335, .aload_n ⟨0, zfin0⟩, 1336, zx0),
  (1336, .iload_n ⟨3, zfin3⟩, 1337, zx0),
  (1337, .iconst 1, 1338, zx0),
  (1338, .iadd, 1339, zx0),
  (1339, .iaload, 1340, zx0),
  (1340, .aload_n ⟨0, zfin0⟩, 1341, zx0),
  (1341, .iload_n ⟨3, zfin3⟩, 1342, zx0),
  (1342, .iconst 2, 1343, zx0),
  (1343, .iadd, 1344, zx0),
  (1344, .iaload, 1345, zx0),
  (1345, .aload_n ⟨0, zfin0⟩, 1346, zx0),
  (1346, .iload_n ⟨3, zfin3⟩, 1347, zx0),
  (1347, .iconst 3, 1348, zx0),
  (1348, .iadd, 1349, zx0),
  (1349, .iaload, 1350, zx0),
  (1350, .invokevirtual 120, 1353, (251, 4, 0, [12])),
  (1353, .pop, 1354, zx0),
  (1354, .goto (804), 1357, (2158, 0, 0, []))]
set_option maxRecDepth 100000 in
theorem sh_24 : zSeg zk_L_law sg_24 := zSeg_of 948 37 1314 (by decide +kernel) rfl (by decide +kernel)
set_option maxRecDepth 100000 in
theorem qL_24 (hY : qY M) (hn : n ≤ 4096) (hi : 0 ≤ i ∧ i + 8 ≤ n) (K : ∀ M', qY M' → zG n (114, 4080270) 300 311 (2158, [zR 0, zR 8, zR 97, .inl i], []) M' qLQ) : zG n (114, 4080270) 300 311 (1314, [zR 0, zR 8, zR 97, .inl i], []) M qLQ := by
  have hz := zp_311
  have hg := sh_24
  have hJ := hY.1
  have hX := hY.2.1
  have hU := hY.2.2
  refine zG_blk (c' := (1319, [zR 0, zR 8, zR 97, .inl i], [.inl (i + 1), zR 0, zR 8])) 5 (by decide) hz (zsteps_seg hg (by rw [show (.inl (i + 1) : zV) = .inl (w32 (i + 1)) from by rw [w32_id (by omega)]]; rfl)) ?_
  refine zG_iald (by decide) hz (hg _ _ rfl) rfl (.inr rfl) (by omega) ?_
  obtain ⟨x1, hx1⟩ : ∃ x : Int, x = M 0 (i + 1).toNat := ⟨_, rfl⟩
  rw [← hx1]
  have hr1 : qin x1 := by rw [hx1]; exact hJ.1.rng 0 _ (by decide) (by decide)
  show zG n (114, 4080270) 300 311 (1320, [zR 0, zR 8, zR 97, .inl i], [.inl x1, zR 8]) M _
  refine zG_blk (c' := (1324, [zR 0, zR 8, zR 97, .inl i], [.inl (i + 2), zR 0, .inl x1, zR 8])) 4 (by decide) hz (zsteps_seg hg (by rw [show (.inl (i + 2) : zV) = .inl (w32 (i + 2)) from by rw [w32_id (by omega)]]; rfl)) ?_
  refine zG_iald (by decide) hz (hg _ _ rfl) rfl (.inr rfl) (by omega) ?_
  obtain ⟨x2, hx2⟩ : ∃ x : Int, x = M 0 (i + 2).toNat := ⟨_, rfl⟩
  rw [← hx2]
  have hr2 : qin x2 := by rw [hx2]; exact hJ.1.rng 0 _ (by decide) (by decide)
  show zG n (114, 4080270) 300 311 (1325, [zR 0, zR 8, zR 97, .inl i], [.inl x2, .inl x1, zR 8]) M _
  refine zG_blk (c' := (1329, [zR 0, zR 8, zR 97, .inl i], [.inl (i + 3), zR 0, .inl x2, .inl x1, zR 8])) 4 (by decide) hz (zsteps_seg hg (by rw [show (.inl (i + 3) : zV) = .inl (w32 (i + 3)) from by rw [w32_id (by omega)]]; rfl)) ?_
  refine zG_iald (by decide) hz (hg _ _ rfl) rfl (.inr rfl) (by omega) ?_
  obtain ⟨x3, hx3⟩ : ∃ x : Int, x = M 0 (i + 3).toNat := ⟨_, rfl⟩
  rw [← hx3]
  have hr3 : qin x3 := by rw [hx3]; exact hJ.1.rng 0 _ (by decide) (by decide)
  show zG n (114, 4080270) 300 311 (1330, [zR 0, zR 8, zR 97, .inl i], [.inl x3, .inl x2, .inl x1, zR 8]) M _
  refine zG_call (by decide) hz zp_147 (hg _ _ rfl) rfl (Nat.le_of_ble_eq_true rfl) ⟨Nat.le_of_ble_eq_true rfl, Nat.le_of_ble_eq_true rfl⟩ (qm_147_8 (by decide) hJ.1 x1 (by omega) x2 (by omega) x3 (by omega)) (fun vr M1 hr => ?_)
  obtain ⟨⟨hCM1, hFM1⟩, hr⟩ := hr
  have hJM1 : qJ M1 := hJ.cls hCM1 hFM1 rfl rfl
  have hXM1 : qX M1 := hX.cls hFM1 rfl; have hUM1 : qU M1 := hU.cg (hFM1.hi rfl)
  have hc0 : ∀ j, M1 0 j = M 0 j := fun j => hFM1 0 j (by decide)
  obtain ⟨r1, rfl, -⟩ := hr
  show zG n (114, 4080270) 300 311 (1333, [zR 0, zR 8, zR 97, .inl i], [.inl r1]) M1 _
  refine zG_blk (c' := (1339, [zR 0, zR 8, zR 97, .inl i], [.inl (i + 1), zR 0, zR 97])) 6 (by decide) hz (zsteps_seg hg (by rw [show (.inl (i + 1) : zV) = .inl (w32 (i + 1)) from by rw [w32_id (by omega)]]; rfl)) ?_
  refine zG_iald (by decide) hz (hg _ _ rfl) rfl (.inr rfl) (by omega) ?_
  rw [show M1 0 (i + 1).toNat = x1 from (hc0 _).trans hx1.symm]
  show zG n (114, 4080270) 300 311 (1340, [zR 0, zR 8, zR 97, .inl i], [.inl x1, zR 97]) M1 _
  refine zG_blk (c' := (1344, [zR 0, zR 8, zR 97, .inl i], [.inl (i + 2), zR 0, .inl x1, zR 97])) 4 (by decide) hz (zsteps_seg hg (by rw [show (.inl (i + 2) : zV) = .inl (w32 (i + 2)) from by rw [w32_id (by omega)]]; rfl)) ?_
  refine zG_iald (by decide) hz (hg _ _ rfl) rfl (.inr rfl) (by omega) ?_
  rw [show M1 0 (i + 2).toNat = x2 from (hc0 _).trans hx2.symm]
  show zG n (114, 4080270) 300 311 (1345, [zR 0, zR 8, zR 97, .inl i], [.inl x2, .inl x1, zR 97]) M1 _
  refine zG_blk (c' := (1349, [zR 0, zR 8, zR 97, .inl i], [.inl (i + 3), zR 0, .inl x2, .inl x1, zR 97])) 4 (by decide) hz (zsteps_seg hg (by rw [show (.inl (i + 3) : zV) = .inl (w32 (i + 3)) from by rw [w32_id (by omega)]]; rfl)) ?_
  refine zG_iald (by decide) hz (hg _ _ rfl) rfl (.inr rfl) (by omega) ?_
  rw [show M1 0 (i + 3).toNat = x3 from (hc0 _).trans hx3.symm]
  show zG n (114, 4080270) 300 311 (1350, [zR 0, zR 8, zR 97, .inl i], [.inl x3, .inl x2, .inl x1, zR 97]) M1 _
  refine zG_call (by decide) hz zp_251 (hg _ _ rfl) rfl (Nat.le_of_ble_eq_true rfl) ⟨Nat.le_of_ble_eq_true rfl, Nat.le_of_ble_eq_true rfl⟩ (qn_251_97 (by decide) hJM1.2.1 x1 (by omega) x2 (by omega) x3 (by omega)) (fun vr M2 hr => ?_)
  obtain ⟨⟨hCM2, hFM2⟩, hr⟩ := hr
  have h9 : ∀ j, M2 98 j = M1 98 j := by
    obtain ⟨x9, -, -, h8, h9⟩ := hr
    intro j
    by_cases hj : (j : Int) = 154 + 5 * x1
    · rw [show j = (154 + 5 * x1).toNat by omega]; exact h8
    · exact h9 j hj
  have hJM2 : qJ M2 := hJM1.mdl hCM2 hFM2 rfl (by decide) (fun j _ => h9 j)
  have hXM2 : qX M2 := hXM1.mdl hFM2 rfl
  have hUM2 : qU M2 := hUM1.f9 (by rw [show M2 98 = M1 98 from funext h9]; exact wSm.rfl hJM1.2.1.cnt0) hFM2 rfl
  obtain ⟨r2, hv9⟩ := hr
  first | (obtain ⟨rfl, -⟩ := hv9) | (obtain rfl := hv9)
  show zG n (114, 4080270) 300 311 (1353, [zR 0, zR 8, zR 97, .inl i], [.inl r2]) M2 _
  refine zG_blk (c' := (2158, [zR 0, zR 8, zR 97, .inl i], [])) 2 (by decide) hz (zsteps_seg hg rfl) ?_
  exact K M2 ⟨hJM2, hXM2, hUM2⟩
noncomputable def sg_25 : List zE := [(1357, .aload_n ⟨1, zfin1⟩, 1358, zx0),
  (1358, .aload_n ⟨0, zfin0⟩, 1359, zx0),
  (1359, .iload_n ⟨3, zfin3⟩, 1360, zx0),
  (1360, .iconst 1, 1361, zx0),
  (1361, .iadd, 1362, zx0),
  (1362, .iaload, 1363, zx0),
  (1363, .aload_n ⟨0, zfin0⟩, 1364, zx0),
  (1364, .iload_n ⟨3, zfin3⟩, 1365, zx0),
  (1365, .iconst 2, 1366, zx0),
  (1366, .iadd, 1367, zx0),
  (1367, .iaload, 1368, zx0),
  (1368, .invokevirtual 121, 1371, (148, 3, 0, [11])),
  (1371, .pop, 1372, zx0),
  (1372, .aload_n ⟨2, zfin2⟩, 1373, zx0),
  (1373, .aload_n ⟨0, zfin0⟩, 1374, zx0),
  (1374, .iload_n ⟨3, zfin3⟩, 1375, zx0),
  (1375, .iconst 1, 1376, zx0),
  (1376, .iadd, 1377, zx0),
  (1377, .iaload, 1378, zx0),
  (1378, .aload_n ⟨0, zfin0⟩, 1379, zx0),
  (1379, .iload_n ⟨3, zfin3⟩, 1380, zx0),
  (1380, .iconst 2, 1381, zx0),
  (1381, .iadd, 1382, zx0),
  (1382, .iaload, 1383, zx0),
  (1383, .invokevirtual 124, 1386, (253, 3, 0, [12])),
  (1386, .pop, 1387, zx0),
  (1387, .goto (771), 1390, (2158, 0, 0, []))]
set_option maxRecDepth 100000 in
theorem sh_25 : zSeg zk_L_law sg_25 := zSeg_of 985 27 1357 (by decide +kernel) rfl (by decide +kernel)
set_option maxRecDepth 100000 in
theorem qL_25 (hY : qY M) (hn : n ≤ 4096) (hi : 0 ≤ i ∧ i + 8 ≤ n) (K : ∀ M', qY M' → zG n (114, 4080270) 300 311 (2158, [zR 0, zR 8, zR 97, .inl i], []) M' qLQ) : zG n (114, 4080270) 300 311 (1357, [zR 0, zR 8, zR 97, .inl i], []) M qLQ := by
  have hz := zp_311
  have hg := sh_25
  have hJ := hY.1
  have hX := hY.2.1
  have hU := hY.2.2
  refine zG_blk (c' := (1362, [zR 0, zR 8, zR 97, .inl i], [.inl (i + 1), zR 0, zR 8])) 5 (by decide) hz (zsteps_seg hg (by rw [show (.inl (i + 1) : zV) = .inl (w32 (i + 1)) from by rw [w32_id (by omega)]]; rfl)) ?_
  refine zG_iald (by decide) hz (hg _ _ rfl) rfl (.inr rfl) (by omega) ?_
  obtain ⟨x1, hx1⟩ : ∃ x : Int, x = M 0 (i + 1).toNat := ⟨_, rfl⟩
  rw [← hx1]
  have hr1 : qin x1 := by rw [hx1]; exact hJ.1.rng 0 _ (by decide) (by decide)
  show zG n (114, 4080270) 300 311 (1363, [zR 0, zR 8, zR 97, .inl i], [.inl x1, zR 8]) M _
  refine zG_blk (c' := (1367, [zR 0, zR 8, zR 97, .inl i], [.inl (i + 2), zR 0, .inl x1, zR 8])) 4 (by decide) hz (zsteps_seg hg (by rw [show (.inl (i + 2) : zV) = .inl (w32 (i + 2)) from by rw [w32_id (by omega)]]; rfl)) ?_
  refine zG_iald (by decide) hz (hg _ _ rfl) rfl (.inr rfl) (by omega) ?_
  obtain ⟨x2, hx2⟩ : ∃ x : Int, x = M 0 (i + 2).toNat := ⟨_, rfl⟩
  rw [← hx2]
  have hr2 : qin x2 := by rw [hx2]; exact hJ.1.rng 0 _ (by decide) (by decide)
  show zG n (114, 4080270) 300 311 (1368, [zR 0, zR 8, zR 97, .inl i], [.inl x2, .inl x1, zR 8]) M _
  refine zG_call (by decide) hz zp_148 (hg _ _ rfl) rfl (Nat.le_of_ble_eq_true rfl) ⟨Nat.le_of_ble_eq_true rfl, Nat.le_of_ble_eq_true rfl⟩ (zG.andH (qm_148_8 (by decide) hJ.1 x1 (by omega) x2 (by omega)) (fh_148_8 x1 x2)) (fun vr M1 hr => ?_)
  obtain ⟨⟨⟨hC1, hF1⟩, -⟩, rfl, hM1⟩ := hr
  have hi := hF1.hi rfl
  have hI := hJ.2.1.same hi
  have hc0 : ∀ j, M1 0 j = M 0 j := fun j => hF1 0 j (by decide)
  have hX1 : qX M1 := hX.cls hF1 rfl; have hU1 : qU M1 := hU.cg (hF1.hi rfl)
  show zG n (114, 4080270) 300 311 (1371, [zR 0, zR 8, zR 97, .inl i], [.inl (hf_148_8 M x1 x2).1]) M1 _
  refine zG_blk (c' := (1377, [zR 0, zR 8, zR 97, .inl i], [.inl (i + 1), zR 0, zR 97])) 6 (by decide) hz (zsteps_seg hg (by rw [show (.inl (i + 1) : zV) = .inl (w32 (i + 1)) from by rw [w32_id (by omega)]]; rfl)) ?_
  refine zG_iald (by decide) hz (hg _ _ rfl) rfl (.inr rfl) (by omega) ?_
  rw [show M1 0 (i + 1).toNat = x1 from (hc0 _).trans hx1.symm]
  show zG n (114, 4080270) 300 311 (1378, [zR 0, zR 8, zR 97, .inl i], [.inl x1, zR 97]) M1 _
  refine zG_blk (c' := (1382, [zR 0, zR 8, zR 97, .inl i], [.inl (i + 2), zR 0, .inl x1, zR 97])) 4 (by decide) hz (zsteps_seg hg (by rw [show (.inl (i + 2) : zV) = .inl (w32 (i + 2)) from by rw [w32_id (by omega)]]; rfl)) ?_
  refine zG_iald (by decide) hz (hg _ _ rfl) rfl (.inr rfl) (by omega) ?_
  rw [show M1 0 (i + 2).toNat = x2 from (hc0 _).trans hx2.symm]
  show zG n (114, 4080270) 300 311 (1383, [zR 0, zR 8, zR 97, .inl i], [.inl x2, .inl x1, zR 97]) M1 _
  refine zG_call (by decide) hz zp_253 (hg _ _ rfl) rfl (Nat.le_of_ble_eq_true rfl) ⟨Nat.le_of_ble_eq_true rfl, Nat.le_of_ble_eq_true rfl⟩ (zG.andH (qm_253_97 (by decide) hI x1 (by omega) x2 (by omega)) (fh_253_97 x1 x2)) (fun vr M2 hr => ?_)
  obtain ⟨⟨⟨hC2, hF2⟩, -⟩, rfl, hM2⟩ := hr
  have hm := hm_148 hJ.2.2.1 hJ.1.tb hJ.2.1.bd (a1 := x1) (a2 := x2) hJ.2.1.tl
  rw [← hM1] at hm
  rw [← hM2] at hm
  have hJ2 : qJ M2 := hJ.mut hC1 hF1 rfl rfl hC2 hF2 rfl (by decide) hm.2
  have hX2 : qX M2 := hX1.mdl hF2 rfl
  have hU2 : qU M2 := hU1.f9 (wSm.mut hJ.2.2.1 hJ2.2.2.1 hJ.2.1.cnt0 hF1 rfl (hF2.lo rfl)) hF2 rfl
  show zG n (114, 4080270) 300 311 (1386, [zR 0, zR 8, zR 97, .inl i], [.inl (hf_253_97 M1 x1 x2).1]) M2 _
  refine zG_blk (c' := (2158, [zR 0, zR 8, zR 97, .inl i], [])) 2 (by decide) hz (zsteps_seg hg rfl) ?_
  exact K M2 ⟨hJ2, hX2, hU2⟩
noncomputable def sg_26 : List zE := [(1390, .aload_n ⟨1, zfin1⟩, 1391, zx0),
  (1391, .aload_n ⟨0, zfin0⟩, 1392, zx0),
  (1392, .iload_n ⟨3, zfin3⟩, 1393, zx0),
  (1393, .iconst 1, 1394, zx0),
  (1394, .iadd, 1395, zx0),
  (1395, .iaload, 1396, zx0),
  (1396, .invokevirtual 125, 1399, (149, 2, 0, [11])),
  (1399, .pop, 1400, zx0),
  (1400, .aload_n ⟨2, zfin2⟩, 1401, zx0),
  (1401, .aload_n ⟨0, zfin0⟩, 1402, zx0),
  (1402, .iload_n ⟨3, zfin3⟩, 1403, zx0),
  (1403, .iconst 1, 1404, zx0),
  (1404, .iadd, 1405, zx0),
  (1405, .iaload, 1406, zx0),
  (1406, .invokevirtual 128, 1409, (254, 2, 0, [12])),
  (1409, .pop, 1410, zx0),
  (1410, .goto (748), 1413, (2158, 0, 0, []))]
set_option maxRecDepth 100000 in
theorem sh_26 : zSeg zk_L_law sg_26 := zSeg_of 1012 17 1390 (by decide +kernel) rfl (by decide +kernel)
set_option maxRecDepth 100000 in
theorem qL_26 (hY : qY M) (hn : n ≤ 4096) (hi : 0 ≤ i ∧ i + 8 ≤ n) (K : ∀ M', qY M' → zG n (114, 4080270) 300 311 (2158, [zR 0, zR 8, zR 97, .inl i], []) M' qLQ) : zG n (114, 4080270) 300 311 (1390, [zR 0, zR 8, zR 97, .inl i], []) M qLQ := by
  have hz := zp_311
  have hg := sh_26
  have hJ := hY.1
  have hX := hY.2.1
  have hU := hY.2.2
  refine zG_blk (c' := (1395, [zR 0, zR 8, zR 97, .inl i], [.inl (i + 1), zR 0, zR 8])) 5 (by decide) hz (zsteps_seg hg (by rw [show (.inl (i + 1) : zV) = .inl (w32 (i + 1)) from by rw [w32_id (by omega)]]; rfl)) ?_
  refine zG_iald (by decide) hz (hg _ _ rfl) rfl (.inr rfl) (by omega) ?_
  obtain ⟨x1, hx1⟩ : ∃ x : Int, x = M 0 (i + 1).toNat := ⟨_, rfl⟩
  rw [← hx1]
  have hr1 : qin x1 := by rw [hx1]; exact hJ.1.rng 0 _ (by decide) (by decide)
  show zG n (114, 4080270) 300 311 (1396, [zR 0, zR 8, zR 97, .inl i], [.inl x1, zR 8]) M _
  refine zG_call (by decide) hz zp_149 (hg _ _ rfl) rfl (Nat.le_of_ble_eq_true rfl) ⟨Nat.le_of_ble_eq_true rfl, Nat.le_of_ble_eq_true rfl⟩ (zG.andH (qm_149_8 (by decide) hJ.1 x1 (by omega)) (fh_149_8 x1)) (fun vr M1 hr => ?_)
  obtain ⟨⟨⟨hC1, hF1⟩, -⟩, rfl, hM1⟩ := hr
  have hi := hF1.hi rfl
  have hI := hJ.2.1.same hi
  have hc0 : ∀ j, M1 0 j = M 0 j := fun j => hF1 0 j (by decide)
  have hX1 : qX M1 := hX.cls hF1 rfl; have hU1 : qU M1 := hU.cg (hF1.hi rfl)
  show zG n (114, 4080270) 300 311 (1399, [zR 0, zR 8, zR 97, .inl i], [.inl (hf_149_8 M x1).1]) M1 _
  refine zG_blk (c' := (1405, [zR 0, zR 8, zR 97, .inl i], [.inl (i + 1), zR 0, zR 97])) 6 (by decide) hz (zsteps_seg hg (by rw [show (.inl (i + 1) : zV) = .inl (w32 (i + 1)) from by rw [w32_id (by omega)]]; rfl)) ?_
  refine zG_iald (by decide) hz (hg _ _ rfl) rfl (.inr rfl) (by omega) ?_
  rw [show M1 0 (i + 1).toNat = x1 from (hc0 _).trans hx1.symm]
  show zG n (114, 4080270) 300 311 (1406, [zR 0, zR 8, zR 97, .inl i], [.inl x1, zR 97]) M1 _
  refine zG_call (by decide) hz zp_254 (hg _ _ rfl) rfl (Nat.le_of_ble_eq_true rfl) ⟨Nat.le_of_ble_eq_true rfl, Nat.le_of_ble_eq_true rfl⟩ (zG.andH (qm_254_97 (by decide) hI x1 (by omega)) (fh_254_97 x1)) (fun vr M2 hr => ?_)
  obtain ⟨⟨⟨hC2, hF2⟩, -⟩, rfl, hM2⟩ := hr
  have hm := hm_149 hJ.2.2.1 hJ.1.tb hJ.2.1.bd (a1 := x1) hJ.2.1.tl
  rw [← hM1] at hm
  rw [← hM2] at hm
  have hJ2 : qJ M2 := hJ.mut hC1 hF1 rfl rfl hC2 hF2 rfl (by decide) hm.2
  have hX2 : qX M2 := hX1.mdl hF2 rfl
  have hU2 : qU M2 := hU1.f9 (wSm.mut hJ.2.2.1 hJ2.2.2.1 hJ.2.1.cnt0 hF1 rfl (hF2.lo rfl)) hF2 rfl
  show zG n (114, 4080270) 300 311 (1409, [zR 0, zR 8, zR 97, .inl i], [.inl (hf_254_97 M1 x1).1]) M2 _
  refine zG_blk (c' := (2158, [zR 0, zR 8, zR 97, .inl i], [])) 2 (by decide) hz (zsteps_seg hg rfl) ?_
  exact K M2 ⟨hJ2, hX2, hU2⟩
noncomputable def sg_27 : List zE := [(1413, .aload_n ⟨1, zfin1⟩, 1414, zx0),
  (1414, .aload_n ⟨0, zfin0⟩, 1415, zx0),
  (1415, .iload_n ⟨3, zfin3⟩, 1416, zx0),
  (1416, .iconst 1, 1417, zx0),
  (1417, .iadd, 1418, zx0),
  (1418, .iaload, 1419, zx0),
  (1419, .invokevirtual 129, 1422, (150, 2, 0, [11])),
  (1422, .pop, 1423, zx0),
  (1423, .aload_n ⟨2, zfin2⟩, 1424, zx0),
  (1424, .aload_n ⟨0, zfin0⟩, 1425, zx0),
  (1425, .iload_n ⟨3, zfin3⟩, 1426, zx0),
  (1426, .iconst 1, 1427, zx0),
  (1427, .iadd, 1428, zx0),
  (1428, .iaload, 1429, zx0),
  (1429, .invokevirtual 132, 1432, (255, 2, 0, [12])),
  (1432, .pop, 1433, zx0),
  (1433, .goto (725), 1436, (2158, 0, 0, []))]
set_option maxRecDepth 100000 in
theorem sh_27 : zSeg zk_L_law sg_27 := zSeg_of 1029 17 1413 (by decide +kernel) rfl (by decide +kernel)
set_option maxRecDepth 100000 in
theorem qL_27 (hY : qY M) (hn : n ≤ 4096) (hi : 0 ≤ i ∧ i + 8 ≤ n) (K : ∀ M', qY M' → zG n (114, 4080270) 300 311 (2158, [zR 0, zR 8, zR 97, .inl i], []) M' qLQ) : zG n (114, 4080270) 300 311 (1413, [zR 0, zR 8, zR 97, .inl i], []) M qLQ := by
  have hz := zp_311
  have hg := sh_27
  have hJ := hY.1
  have hX := hY.2.1
  have hU := hY.2.2
  refine zG_blk (c' := (1418, [zR 0, zR 8, zR 97, .inl i], [.inl (i + 1), zR 0, zR 8])) 5 (by decide) hz (zsteps_seg hg (by rw [show (.inl (i + 1) : zV) = .inl (w32 (i + 1)) from by rw [w32_id (by omega)]]; rfl)) ?_
  refine zG_iald (by decide) hz (hg _ _ rfl) rfl (.inr rfl) (by omega) ?_
  obtain ⟨x1, hx1⟩ : ∃ x : Int, x = M 0 (i + 1).toNat := ⟨_, rfl⟩
  rw [← hx1]
  have hr1 : qin x1 := by rw [hx1]; exact hJ.1.rng 0 _ (by decide) (by decide)
  show zG n (114, 4080270) 300 311 (1419, [zR 0, zR 8, zR 97, .inl i], [.inl x1, zR 8]) M _
  refine zG_call (by decide) hz zp_150 (hg _ _ rfl) rfl (Nat.le_of_ble_eq_true rfl) ⟨Nat.le_of_ble_eq_true rfl, Nat.le_of_ble_eq_true rfl⟩ (qm_150_8 (by decide) hJ.1 x1 (by omega)) (fun vr M1 hr => ?_)
  obtain ⟨⟨hCM1, hFM1⟩, hr⟩ := hr
  have hJM1 : qJ M1 := hJ.cls hCM1 hFM1 rfl rfl
  have hXM1 : qX M1 := hX.cls hFM1 rfl; have hUM1 : qU M1 := hU.cg (hFM1.hi rfl)
  have hc0 : ∀ j, M1 0 j = M 0 j := fun j => hFM1 0 j (by decide)
  obtain ⟨r1, rfl, -⟩ := hr
  show zG n (114, 4080270) 300 311 (1422, [zR 0, zR 8, zR 97, .inl i], [.inl r1]) M1 _
  refine zG_blk (c' := (1428, [zR 0, zR 8, zR 97, .inl i], [.inl (i + 1), zR 0, zR 97])) 6 (by decide) hz (zsteps_seg hg (by rw [show (.inl (i + 1) : zV) = .inl (w32 (i + 1)) from by rw [w32_id (by omega)]]; rfl)) ?_
  refine zG_iald (by decide) hz (hg _ _ rfl) rfl (.inr rfl) (by omega) ?_
  rw [show M1 0 (i + 1).toNat = x1 from (hc0 _).trans hx1.symm]
  show zG n (114, 4080270) 300 311 (1429, [zR 0, zR 8, zR 97, .inl i], [.inl x1, zR 97]) M1 _
  refine zG_call (by decide) hz zp_255 (hg _ _ rfl) rfl (Nat.le_of_ble_eq_true rfl) ⟨Nat.le_of_ble_eq_true rfl, Nat.le_of_ble_eq_true rfl⟩ (qm_255_97 (by decide) hJM1.2.1 x1 (by omega)) (fun vr M2 hr => ?_)
  obtain ⟨⟨hCM2, hFM2⟩, hr⟩ := hr
  have hJM2 : qJ M2 := hJM1.mdl hCM2 hFM2 rfl (by decide) (fun j _ => hFM2.ar 98 j (by decide) (by decide))
  have hXM2 : qX M2 := hXM1.mdl hFM2 rfl
  have hUM2 : qU M2 := hUM1.fr hJM1.2.1.cnt0 hFM2 rfl
  obtain ⟨r2, hv9⟩ := hr
  first | (obtain ⟨rfl, -⟩ := hv9) | (obtain rfl := hv9)
  show zG n (114, 4080270) 300 311 (1432, [zR 0, zR 8, zR 97, .inl i], [.inl r2]) M2 _
  refine zG_blk (c' := (2158, [zR 0, zR 8, zR 97, .inl i], [])) 2 (by decide) hz (zsteps_seg hg rfl) ?_
  exact K M2 ⟨hJM2, hXM2, hUM2⟩
noncomputable def sg_28 : List zE := [(1436, .aload_n ⟨1, zfin1⟩, 1437, zx0),
  (1437, .aload_n ⟨0, zfin0⟩, 1438, zx0),
  (1438, .iload_n ⟨3, zfin3⟩, 1439, zx0),
  (1439, .iconst 1, 1440, zx0),
  (1440, .iadd, 1441, zx0),
  (1441, .iaload, 1442, zx0),
  (1442, .aload_n ⟨0, zfin0⟩, 1443, zx0),
  (1443, .iload_n ⟨3, zfin3⟩, 1444, zx0),
  (1444, .iconst 2, 1445, zx0),
  (1445, .iadd, 1446, zx0),
  (1446, .iaload, 1447, zx0),
  (1447, .aload_n ⟨0, zfin0⟩, 1448, zx0),
  (1448, .iload_n ⟨3, zfin3⟩, 1449, zx0),
  (1449, .iconst 3, 1450, zx0),
  (1450, .iadd, 1451, zx0),
  (1451, .iaload, 1452, zx0),
  (1452, .aload_n ⟨0, zfin0⟩, 1453, zx0),
  (1453, .iload_n ⟨3, zfin3⟩, 1454, zx0),
  (1454, .iconst 4, 1455, zx0),
  (1455, .iadd, 1456, zx0),
  (1456, .iaload, 1457, zx0),
  (1457, .aload_n ⟨0, zfin0⟩, 1458, zx0),
  (1458, .iload_n ⟨3, zfin3⟩, 1459, zx0),
  (1459, .iconst 5, 1460, zx0),
  (1460, .iadd, 1461, zx0),
  (1461, .iaload, 1462, zx0),
  (1462, .invokevirtual 133, 1465, (151, 6, 0, [11])),
  (1465, .pop2, 1466, zx0),
  (1466, .aload_n ⟨2, zfin2⟩, 1467, zx0),
  (1467, .aload_n ⟨0, zfin0⟩, 1468, zx0),
  (1468, .iload_n ⟨3, zfin3⟩, 1469, zx0),
  (1469, .iconst 1, 1470, zx0),
  (1470, .iadd, 1471, zx0),
  (1471, .iaload, 1472, zx0),
  (1472, .aload_n ⟨0, zfin0⟩, 1473, zx0),
  (1473, .iload_n ⟨3, zfin3⟩, 1474, zx0),
  (1474, .iconst 2, 1475, zx0),
  (1475, .iadd, 1476, zx0),
  (1476, .iaload, 1477, zx0),
  (1477, .aload_n ⟨0, zfin0⟩, 1478, zx0),
  (1478, .iload_n ⟨3, zfin3⟩, 1479, zx0),
  (1479, .iconst 3, 1480, zx0),
  (1480, .iadd, 1481, zx0),
  (1481, .iaload, 1482, zx0),
  (1482, .aload_n ⟨0, zfin0⟩, 1483, zx0),
  (1483, .iload_n ⟨3, zfin3⟩, 1484, zx0),
  (1484, .iconst 4, 1485, zx0),
  (1485, .iadd, 1486, zx0),
  (1486, .iaload, 1487, zx0),
  (1487, .aload_n ⟨0, zfin0⟩, 1488, zx0),
  (1488, .iload_n ⟨3, zfin3⟩, 1489, zx0),
  (1489, .iconst 5, 1490, zx0),
  (1490, .iadd, 1491, zx0),
  (1491, .iaload, 1492, zx0),
  (1492, .invokevirtual 137, 1495, (256, 6, 0, [12])),
  (1495, .pop2, 1496, zx0),
  (1496, .goto (662), 1499, (2158, 0, 0, []))]
set_option maxRecDepth 100000 in
theorem sh_28 : zSeg zk_L_law sg_28 := zSeg_of 1046 57 1436 (by decide +kernel) rfl (by decide +kernel)
set_option maxRecDepth 100000 in
theorem qL_28 (hY : qY M) (hn : n ≤ 4096) (hi : 0 ≤ i ∧ i + 8 ≤ n) (K : ∀ M', qY M' → zG n (114, 4080270) 300 311 (2158, [zR 0, zR 8, zR 97, .inl i], []) M' qLQ) : zG n (114, 4080270) 300 311 (1436, [zR 0, zR 8, zR 97, .inl i], []) M qLQ := by
  have hz := zp_311
  have hg := sh_28
  have hJ := hY.1
  have hX := hY.2.1
  have hU := hY.2.2
  refine zG_blk (c' := (1441, [zR 0, zR 8, zR 97, .inl i], [.inl (i + 1), zR 0, zR 8])) 5 (by decide) hz (zsteps_seg hg (by rw [show (.inl (i + 1) : zV) = .inl (w32 (i + 1)) from by rw [w32_id (by omega)]]; rfl)) ?_
  refine zG_iald (by decide) hz (hg _ _ rfl) rfl (.inr rfl) (by omega) ?_
  obtain ⟨x1, hx1⟩ : ∃ x : Int, x = M 0 (i + 1).toNat := ⟨_, rfl⟩
  rw [← hx1]
  have hr1 : qin x1 := by rw [hx1]; exact hJ.1.rng 0 _ (by decide) (by decide)
  show zG n (114, 4080270) 300 311 (1442, [zR 0, zR 8, zR 97, .inl i], [.inl x1, zR 8]) M _
  refine zG_blk (c' := (1446, [zR 0, zR 8, zR 97, .inl i], [.inl (i + 2), zR 0, .inl x1, zR 8])) 4 (by decide) hz (zsteps_seg hg (by rw [show (.inl (i + 2) : zV) = .inl (w32 (i + 2)) from by rw [w32_id (by omega)]]; rfl)) ?_
  refine zG_iald (by decide) hz (hg _ _ rfl) rfl (.inr rfl) (by omega) ?_
  obtain ⟨x2, hx2⟩ : ∃ x : Int, x = M 0 (i + 2).toNat := ⟨_, rfl⟩
  rw [← hx2]
  have hr2 : qin x2 := by rw [hx2]; exact hJ.1.rng 0 _ (by decide) (by decide)
  show zG n (114, 4080270) 300 311 (1447, [zR 0, zR 8, zR 97, .inl i], [.inl x2, .inl x1, zR 8]) M _
  refine zG_blk (c' := (1451, [zR 0, zR 8, zR 97, .inl i], [.inl (i + 3), zR 0, .inl x2, .inl x1, zR 8])) 4 (by decide) hz (zsteps_seg hg (by rw [show (.inl (i + 3) : zV) = .inl (w32 (i + 3)) from by rw [w32_id (by omega)]]; rfl)) ?_
  refine zG_iald (by decide) hz (hg _ _ rfl) rfl (.inr rfl) (by omega) ?_
  obtain ⟨x3, hx3⟩ : ∃ x : Int, x = M 0 (i + 3).toNat := ⟨_, rfl⟩
  rw [← hx3]
  have hr3 : qin x3 := by rw [hx3]; exact hJ.1.rng 0 _ (by decide) (by decide)
  show zG n (114, 4080270) 300 311 (1452, [zR 0, zR 8, zR 97, .inl i], [.inl x3, .inl x2, .inl x1, zR 8]) M _
  refine zG_blk (c' := (1456, [zR 0, zR 8, zR 97, .inl i], [.inl (i + 4), zR 0, .inl x3, .inl x2, .inl x1, zR 8])) 4 (by decide) hz (zsteps_seg hg (by rw [show (.inl (i + 4) : zV) = .inl (w32 (i + 4)) from by rw [w32_id (by omega)]]; rfl)) ?_
  refine zG_iald (by decide) hz (hg _ _ rfl) rfl (.inr rfl) (by omega) ?_
  obtain ⟨x4, hx4⟩ : ∃ x : Int, x = M 0 (i + 4).toNat := ⟨_, rfl⟩
  rw [← hx4]
  have hr4 : qin x4 := by rw [hx4]; exact hJ.1.rng 0 _ (by decide) (by decide)
  show zG n (114, 4080270) 300 311 (1457, [zR 0, zR 8, zR 97, .inl i], [.inl x4, .inl x3, .inl x2, .inl x1, zR 8]) M _
  refine zG_blk (c' := (1461, [zR 0, zR 8, zR 97, .inl i], [.inl (i + 5), zR 0, .inl x4, .inl x3, .inl x2, .inl x1, zR 8])) 4 (by decide) hz (zsteps_seg hg (by rw [show (.inl (i + 5) : zV) = .inl (w32 (i + 5)) from by rw [w32_id (by omega)]]; rfl)) ?_
  refine zG_iald (by decide) hz (hg _ _ rfl) rfl (.inr rfl) (by omega) ?_
  obtain ⟨x5, hx5⟩ : ∃ x : Int, x = M 0 (i + 5).toNat := ⟨_, rfl⟩
  rw [← hx5]
  have hr5 : qin x5 := by rw [hx5]; exact hJ.1.rng 0 _ (by decide) (by decide)
  show zG n (114, 4080270) 300 311 (1462, [zR 0, zR 8, zR 97, .inl i], [.inl x5, .inl x4, .inl x3, .inl x2, .inl x1, zR 8]) M _
  refine zG_call (by decide) hz zp_151 (hg _ _ rfl) rfl (Nat.le_of_ble_eq_true rfl) ⟨Nat.le_of_ble_eq_true rfl, Nat.le_of_ble_eq_true rfl⟩ (qm_151_8 (by decide) hJ.1 x1 (by omega) x2 (by omega) x3 (by omega) x4 (by omega) x5 (by omega)) (fun vr M1 hr => ?_)
  obtain ⟨⟨hCM1, hFM1⟩, hr⟩ := hr
  have hJM1 : qJ M1 := hJ.cls hCM1 hFM1 rfl rfl
  have hXM1 : qX M1 := hX.cls hFM1 rfl; have hUM1 : qU M1 := hU.cg (hFM1.hi rfl)
  have hc0 : ∀ j, M1 0 j = M 0 j := fun j => hFM1 0 j (by decide)
  obtain ⟨r1, rfl⟩ := hr
  show zG n (114, 4080270) 300 311 (1465, [zR 0, zR 8, zR 97, .inl i], [(.inr (.inl r1))]) M1 _
  refine zG_blk (c' := (1471, [zR 0, zR 8, zR 97, .inl i], [.inl (i + 1), zR 0, zR 97])) 6 (by decide) hz (zsteps_seg hg (by rw [show (.inl (i + 1) : zV) = .inl (w32 (i + 1)) from by rw [w32_id (by omega)]]; rfl)) ?_
  refine zG_iald (by decide) hz (hg _ _ rfl) rfl (.inr rfl) (by omega) ?_
  rw [show M1 0 (i + 1).toNat = x1 from (hc0 _).trans hx1.symm]
  show zG n (114, 4080270) 300 311 (1472, [zR 0, zR 8, zR 97, .inl i], [.inl x1, zR 97]) M1 _
  refine zG_blk (c' := (1476, [zR 0, zR 8, zR 97, .inl i], [.inl (i + 2), zR 0, .inl x1, zR 97])) 4 (by decide) hz (zsteps_seg hg (by rw [show (.inl (i + 2) : zV) = .inl (w32 (i + 2)) from by rw [w32_id (by omega)]]; rfl)) ?_
  refine zG_iald (by decide) hz (hg _ _ rfl) rfl (.inr rfl) (by omega) ?_
  rw [show M1 0 (i + 2).toNat = x2 from (hc0 _).trans hx2.symm]
  show zG n (114, 4080270) 300 311 (1477, [zR 0, zR 8, zR 97, .inl i], [.inl x2, .inl x1, zR 97]) M1 _
  refine zG_blk (c' := (1481, [zR 0, zR 8, zR 97, .inl i], [.inl (i + 3), zR 0, .inl x2, .inl x1, zR 97])) 4 (by decide) hz (zsteps_seg hg (by rw [show (.inl (i + 3) : zV) = .inl (w32 (i + 3)) from by rw [w32_id (by omega)]]; rfl)) ?_
  refine zG_iald (by decide) hz (hg _ _ rfl) rfl (.inr rfl) (by omega) ?_
  rw [show M1 0 (i + 3).toNat = x3 from (hc0 _).trans hx3.symm]
  show zG n (114, 4080270) 300 311 (1482, [zR 0, zR 8, zR 97, .inl i], [.inl x3, .inl x2, .inl x1, zR 97]) M1 _
  refine zG_blk (c' := (1486, [zR 0, zR 8, zR 97, .inl i], [.inl (i + 4), zR 0, .inl x3, .inl x2, .inl x1, zR 97])) 4 (by decide) hz (zsteps_seg hg (by rw [show (.inl (i + 4) : zV) = .inl (w32 (i + 4)) from by rw [w32_id (by omega)]]; rfl)) ?_
  refine zG_iald (by decide) hz (hg _ _ rfl) rfl (.inr rfl) (by omega) ?_
  rw [show M1 0 (i + 4).toNat = x4 from (hc0 _).trans hx4.symm]
  show zG n (114, 4080270) 300 311 (1487, [zR 0, zR 8, zR 97, .inl i], [.inl x4, .inl x3, .inl x2, .inl x1, zR 97]) M1 _
  refine zG_blk (c' := (1491, [zR 0, zR 8, zR 97, .inl i], [.inl (i + 5), zR 0, .inl x4, .inl x3, .inl x2, .inl x1, zR 97])) 4 (by decide) hz (zsteps_seg hg (by rw [show (.inl (i + 5) : zV) = .inl (w32 (i + 5)) from by rw [w32_id (by omega)]]; rfl)) ?_
  refine zG_iald (by decide) hz (hg _ _ rfl) rfl (.inr rfl) (by omega) ?_
  rw [show M1 0 (i + 5).toNat = x5 from (hc0 _).trans hx5.symm]
  show zG n (114, 4080270) 300 311 (1492, [zR 0, zR 8, zR 97, .inl i], [.inl x5, .inl x4, .inl x3, .inl x2, .inl x1, zR 97]) M1 _
  refine zG_call (by decide) hz zp_256 (hg _ _ rfl) rfl (Nat.le_of_ble_eq_true rfl) ⟨Nat.le_of_ble_eq_true rfl, Nat.le_of_ble_eq_true rfl⟩ (qm_256_97 (by decide) hJM1.2.1 x1 (by omega) x2 (by omega) x3 (by omega) x4 (by omega) x5 (by omega)) (fun vr M2 hr => ?_)
  obtain ⟨⟨hCM2, hFM2⟩, hr⟩ := hr
  have hJM2 : qJ M2 := hJM1.mdl hCM2 hFM2 rfl (by decide) (fun j _ => hFM2.ar 98 j (by decide) (by decide))
  have hXM2 : qX M2 := hXM1.mdl hFM2 rfl
  have hUM2 : qU M2 := hUM1.fr hJM1.2.1.cnt0 hFM2 rfl
  obtain ⟨r2, hv9⟩ := hr
  first | (obtain ⟨rfl, -⟩ := hv9) | (obtain rfl := hv9)
  show zG n (114, 4080270) 300 311 (1495, [zR 0, zR 8, zR 97, .inl i], [(.inr (.inl r2))]) M2 _
  refine zG_blk (c' := (2158, [zR 0, zR 8, zR 97, .inl i], [])) 2 (by decide) hz (zsteps_seg hg rfl) ?_
  exact K M2 ⟨hJM2, hXM2, hUM2⟩
noncomputable def sg_29 : List zE := [(1499, .aload_n ⟨1, zfin1⟩, 1500, zx0),
  (1500, .aload_n ⟨0, zfin0⟩, 1501, zx0),
  (1501, .iload_n ⟨3, zfin3⟩, 1502, zx0),
  (1502, .iconst 1, 1503, zx0),
  (1503, .iadd, 1504, zx0),
  (1504, .iaload, 1505, zx0),
  (1505, .aload_n ⟨0, zfin0⟩, 1506, zx0),
  (1506, .iload_n ⟨3, zfin3⟩, 1507, zx0),
  (1507, .iconst 2, 1508, zx0),
  (1508, .iadd, 1509, zx0),
  (1509, .iaload, 1510, zx0),
  (1510, .aload_n ⟨0, zfin0⟩, 1511, zx0),
  (1511, .iload_n ⟨3, zfin3⟩, 1512, zx0),
  (1512, .iconst 3, 1513, zx0),
  (1513, .iadd, 1514, zx0),
  (1514, .iaload, 1515, zx0),
  (1515, .aload_n ⟨0, zfin0⟩, 1516, zx0),
  (1516, .iload_n ⟨3, zfin3⟩, 1517, zx0),
  (1517, .iconst 4, 1518, zx0),
  (1518, .iadd, 1519, zx0),
  (1519, .iaload, 1520, zx0),
  (1520, .ifCond .eq (7), 1523, (1527, 0, 0, [])),
  (1523, .iconst 1, 1524, zx0),
  (1524, .goto (4), 1527, (1528, 0, 0, [])),
  (1527, .iconst 0, 1528, zx0),
  (1528, .invokevirtual 138, 1531, (152, 5, 0, [11])),
  (1531, .pop, 1532, zx0),
  (1532, .aload_n ⟨2, zfin2⟩, 1533, zx0),
  (1533, .aload_n ⟨0, zfin0⟩, 1534, zx0),
  (1534, .iload_n ⟨3, zfin3⟩, 1535, zx0),
  (1535, .iconst 1, 1536, zx0),
  (1536, .iadd, 1537, zx0),
  (1537, .iaload, 1538, zx0),
  (1538, .aload_n ⟨0, zfin0⟩, 1539, zx0),
  (1539, .iload_n ⟨3, zfin3⟩, 1540, zx0),
  (1540, .iconst 2, 1541, zx0),
  (1541, .iadd, 1542, zx0),
  (1542, .iaload, 1543, zx0),
  (1543, .aload_n ⟨0, zfin0⟩, 1544, zx0),
  (1544, .iload_n ⟨3, zfin3⟩, 1545, zx0),
  (1545, .iconst 3, 1546, zx0),
  (1546, .iadd, 1547, zx0),
  (1547, .iaload, 1548, zx0),
  (1548, .aload_n ⟨0, zfin0⟩, 1549, zx0),
  (1549, .iload_n ⟨3, zfin3⟩, 1550, zx0),
  (1550, .iconst 4, 1551, zx0),
  (1551, .iadd, 1552, zx0),
  (1552, .iaload, 1553, zx0),
  (1553, .ifCond .eq (7), 1556, (1560, 0, 0, [])),
  (1556, .iconst 1, 1557, zx0),
  (1557, .goto (4), 1560, (1561, 0, 0, [])),
  (1560, .iconst 0, 1561, zx0),
  (1561, .invokevirtual 142, 1564, (257, 5, 0, [12])),
  (1564, .pop, 1565, zx0),
  (1565, .goto (593), 1568, (2158, 0, 0, []))]
set_option maxRecDepth 100000 in
theorem sh_29 : zSeg zk_L_law sg_29 := zSeg_of 1103 55 1499 (by decide +kernel) rfl (by decide +kernel)
set_option maxRecDepth 100000 in
theorem qL_29 (hY : qY M) (hn : n ≤ 4096) (hi : 0 ≤ i ∧ i + 8 ≤ n) (K : ∀ M', qY M' → zG n (114, 4080270) 300 311 (2158, [zR 0, zR 8, zR 97, .inl i], []) M' qLQ) : zG n (114, 4080270) 300 311 (1499, [zR 0, zR 8, zR 97, .inl i], []) M qLQ := by
  have hz := zp_311
  have hg := sh_29
  have hJ := hY.1
  have hX := hY.2.1
  have hU := hY.2.2
  refine zG_blk (c' := (1504, [zR 0, zR 8, zR 97, .inl i], [.inl (i + 1), zR 0, zR 8])) 5 (by decide) hz (zsteps_seg hg (by rw [show (.inl (i + 1) : zV) = .inl (w32 (i + 1)) from by rw [w32_id (by omega)]]; rfl)) ?_
  refine zG_iald (by decide) hz (hg _ _ rfl) rfl (.inr rfl) (by omega) ?_
  obtain ⟨x1, hx1⟩ : ∃ x : Int, x = M 0 (i + 1).toNat := ⟨_, rfl⟩
  rw [← hx1]
  have hr1 : qin x1 := by rw [hx1]; exact hJ.1.rng 0 _ (by decide) (by decide)
  show zG n (114, 4080270) 300 311 (1505, [zR 0, zR 8, zR 97, .inl i], [.inl x1, zR 8]) M _
  refine zG_blk (c' := (1509, [zR 0, zR 8, zR 97, .inl i], [.inl (i + 2), zR 0, .inl x1, zR 8])) 4 (by decide) hz (zsteps_seg hg (by rw [show (.inl (i + 2) : zV) = .inl (w32 (i + 2)) from by rw [w32_id (by omega)]]; rfl)) ?_
  refine zG_iald (by decide) hz (hg _ _ rfl) rfl (.inr rfl) (by omega) ?_
  obtain ⟨x2, hx2⟩ : ∃ x : Int, x = M 0 (i + 2).toNat := ⟨_, rfl⟩
  rw [← hx2]
  have hr2 : qin x2 := by rw [hx2]; exact hJ.1.rng 0 _ (by decide) (by decide)
  show zG n (114, 4080270) 300 311 (1510, [zR 0, zR 8, zR 97, .inl i], [.inl x2, .inl x1, zR 8]) M _
  refine zG_blk (c' := (1514, [zR 0, zR 8, zR 97, .inl i], [.inl (i + 3), zR 0, .inl x2, .inl x1, zR 8])) 4 (by decide) hz (zsteps_seg hg (by rw [show (.inl (i + 3) : zV) = .inl (w32 (i + 3)) from by rw [w32_id (by omega)]]; rfl)) ?_
  refine zG_iald (by decide) hz (hg _ _ rfl) rfl (.inr rfl) (by omega) ?_
  obtain ⟨x3, hx3⟩ : ∃ x : Int, x = M 0 (i + 3).toNat := ⟨_, rfl⟩
  rw [← hx3]
  have hr3 : qin x3 := by rw [hx3]; exact hJ.1.rng 0 _ (by decide) (by decide)
  show zG n (114, 4080270) 300 311 (1515, [zR 0, zR 8, zR 97, .inl i], [.inl x3, .inl x2, .inl x1, zR 8]) M _
  refine zG_blk (c' := (1519, [zR 0, zR 8, zR 97, .inl i], [.inl (i + 4), zR 0, .inl x3, .inl x2, .inl x1, zR 8])) 4 (by decide) hz (zsteps_seg hg (by rw [show (.inl (i + 4) : zV) = .inl (w32 (i + 4)) from by rw [w32_id (by omega)]]; rfl)) ?_
  refine zG_iald (by decide) hz (hg _ _ rfl) rfl (.inr rfl) (by omega) ?_
  obtain ⟨x4, hx4⟩ : ∃ x : Int, x = M 0 (i + 4).toNat := ⟨_, rfl⟩
  rw [← hx4]
  have hr4 : qin x4 := by rw [hx4]; exact hJ.1.rng 0 _ (by decide) (by decide)
  show zG n (114, 4080270) 300 311 (1520, [zR 0, zR 8, zR 97, .inl i], [.inl x4, .inl x3, .inl x2, .inl x1, zR 8]) M _
  have j1528 : ∀ b1520 : Int, ((x4 = 0 ∧ b1520 = 0) ∨ (¬ x4 = 0 ∧ b1520 = 1)) → zG n (114, 4080270) 300 311 (1528, [zR 0, zR 8, zR 97, .inl i], [.inl b1520, .inl x3, .inl x2, .inl x1, zR 8]) M qLQ := by
    intro b1520 hb1520
    refine zG_call (by decide) hz zp_152 (hg _ _ rfl) rfl (Nat.le_of_ble_eq_true rfl) ⟨Nat.le_of_ble_eq_true rfl, Nat.le_of_ble_eq_true rfl⟩ (zG.andH (qm_152_8 (by decide) hJ.1 x1 (by omega) x2 (by omega) x3 (by omega) b1520 (by omega)) (fh_152 (by have := hJ.h9.1; omega) hJ.h9.1.1 hJ.1.tb.t22 hJ.t70 (fun a ha => hX.xp hJ a ha) x1 x2 x3 b1520 (by omega))) (fun vr M1 hr => ?_)
    obtain ⟨⟨⟨hC1, hF1⟩, -⟩, rfl, f1, n1, g1⟩ := hr
    have hi := hF1.hi rfl
    have hI := hJ.2.1.same hi
    have hc0 : ∀ j, M1 0 j = M 0 j := fun j => hF1 0 j (by decide)
    have e98 : M1 98 = M 98 := funext fun j => hi 98 j (by decide)
    have hX1 : qX M1 := hX.cls hF1 rfl; have hU1 : qU M1 := hU.cg (hF1.hi rfl)
    show zG n (114, 4080270) 300 311 (1531, [zR 0, zR 8, zR 97, .inl i], [.inl (kO M x1 x2 x3)]) M1 _
    refine zG_blk (c' := (1537, [zR 0, zR 8, zR 97, .inl i], [.inl (i + 1), zR 0, zR 97])) 6 (by decide) hz (zsteps_seg hg (by rw [show (.inl (i + 1) : zV) = .inl (w32 (i + 1)) from by rw [w32_id (by omega)]]; rfl)) ?_
    refine zG_iald (by decide) hz (hg _ _ rfl) rfl (.inr rfl) (by omega) ?_
    rw [show M1 0 (i + 1).toNat = x1 from (hc0 _).trans hx1.symm]
    show zG n (114, 4080270) 300 311 (1538, [zR 0, zR 8, zR 97, .inl i], [.inl x1, zR 97]) M1 _
    refine zG_blk (c' := (1542, [zR 0, zR 8, zR 97, .inl i], [.inl (i + 2), zR 0, .inl x1, zR 97])) 4 (by decide) hz (zsteps_seg hg (by rw [show (.inl (i + 2) : zV) = .inl (w32 (i + 2)) from by rw [w32_id (by omega)]]; rfl)) ?_
    refine zG_iald (by decide) hz (hg _ _ rfl) rfl (.inr rfl) (by omega) ?_
    rw [show M1 0 (i + 2).toNat = x2 from (hc0 _).trans hx2.symm]
    show zG n (114, 4080270) 300 311 (1543, [zR 0, zR 8, zR 97, .inl i], [.inl x2, .inl x1, zR 97]) M1 _
    refine zG_blk (c' := (1547, [zR 0, zR 8, zR 97, .inl i], [.inl (i + 3), zR 0, .inl x2, .inl x1, zR 97])) 4 (by decide) hz (zsteps_seg hg (by rw [show (.inl (i + 3) : zV) = .inl (w32 (i + 3)) from by rw [w32_id (by omega)]]; rfl)) ?_
    refine zG_iald (by decide) hz (hg _ _ rfl) rfl (.inr rfl) (by omega) ?_
    rw [show M1 0 (i + 3).toNat = x3 from (hc0 _).trans hx3.symm]
    show zG n (114, 4080270) 300 311 (1548, [zR 0, zR 8, zR 97, .inl i], [.inl x3, .inl x2, .inl x1, zR 97]) M1 _
    refine zG_blk (c' := (1552, [zR 0, zR 8, zR 97, .inl i], [.inl (i + 4), zR 0, .inl x3, .inl x2, .inl x1, zR 97])) 4 (by decide) hz (zsteps_seg hg (by rw [show (.inl (i + 4) : zV) = .inl (w32 (i + 4)) from by rw [w32_id (by omega)]]; rfl)) ?_
    refine zG_iald (by decide) hz (hg _ _ rfl) rfl (.inr rfl) (by omega) ?_
    rw [show M1 0 (i + 4).toNat = x4 from (hc0 _).trans hx4.symm]
    show zG n (114, 4080270) 300 311 (1553, [zR 0, zR 8, zR 97, .inl i], [.inl x4, .inl x3, .inl x2, .inl x1, zR 97]) M1 _
    have j1561 : zG n (114, 4080270) 300 311 (1561, [zR 0, zR 8, zR 97, .inl i], [.inl b1520, .inl x3, .inl x2, .inl x1, zR 97]) M1 qLQ := by
      refine zG_call (by decide) hz zp_257 (hg _ _ rfl) rfl (Nat.le_of_ble_eq_true rfl) ⟨Nat.le_of_ble_eq_true rfl, Nat.le_of_ble_eq_true rfl⟩ (zG.andH (qn_257_97 (by decide) hI x1 (by omega) x2 (by omega) x3 (by omega) b1520 (by omega)) (fh_257 hI (u := (M 98 5).toNat) (by rw [e98]; have := hJ.h9.1; omega) (by have := hJ.h9.1; omega) x1 x2 x3 b1520 (by omega))) (fun vr M2 hr => ?_)
      obtain ⟨⟨⟨hC2, hF2⟩, -⟩, rfl, -, n2, g2⟩ := hr
      rw [kO_cg e98, e98] at n2 g2
      have lo := hF2.lo rfl
      have hh := hm_152 hJ.2.2.1 hJ.2.1 (a1 := x1) (a2 := x2) (a3 := x3) (a4 := b1520) (by omega) f1 n1 g1 (fun r hr => funext fun k => lo r k hr) n2 g2
      have hJ2 : qJ M2 := hJ.mut hC1 hF1 rfl rfl hC2 hF2 rfl (by decide) hh
      have hX2 : qX M2 := hX1.mdl hF2 rfl
      have hU2 : qU M2 := hU1.f9 (wSm.mut hJ.2.2.1 hh hJ.2.1.cnt0 hF1 rfl lo) hF2 rfl
      show zG n (114, 4080270) 300 311 (1564, [zR 0, zR 8, zR 97, .inl i], [.inl (kO M1 x1 x2 x3)]) M2 _
      refine zG_blk (c' := (2158, [zR 0, zR 8, zR 97, .inl i], [])) 2 (by decide) hz (zsteps_seg hg rfl) ?_
      exact K M2 ⟨hJ2, hX2, hU2⟩
    refine zG_if_eq (by decide) hz (hg _ _ rfl) (fun hb => ?_) (fun hb => ?_)
    · exact zG_blk (c' := (1561, [zR 0, zR 8, zR 97, .inl i], [.inl b1520, .inl x3, .inl x2, .inl x1, zR 97])) 1 (by decide) hz (zsteps_seg hg (by rw [show b1520 = 0 by omega]; rfl)) j1561
    · exact zG_blk (c' := (1561, [zR 0, zR 8, zR 97, .inl i], [.inl b1520, .inl x3, .inl x2, .inl x1, zR 97])) 2 (by decide) hz (zsteps_seg hg (by rw [show b1520 = 1 by omega]; rfl)) j1561
  refine zG_if_eq (by decide) hz (hg _ _ rfl) (fun hb => ?_) (fun hb => ?_)
  · exact zG_blk (c' := (1528, [zR 0, zR 8, zR 97, .inl i], [.inl 0, .inl x3, .inl x2, .inl x1, zR 8])) 1 (by decide) hz (zsteps_seg hg rfl) (j1528 0 (.inl ⟨hb, rfl⟩))
  · exact zG_blk (c' := (1528, [zR 0, zR 8, zR 97, .inl i], [.inl 1, .inl x3, .inl x2, .inl x1, zR 8])) 2 (by decide) hz (zsteps_seg hg rfl) (j1528 1 (.inr ⟨hb, rfl⟩))
noncomputable def sg_30 : List zE := [(1568, .aload_n ⟨1, zfin1⟩, 1569, zx0),
  (1569, .aload_n ⟨0, zfin0⟩, 1570, zx0),
  (1570, .iload_n ⟨3, zfin3⟩, 1571, zx0),
  (1571, .iconst 1, 1572, zx0),
  (1572, .iadd, 1573, zx0),
  (1573, .iaload, 1574, zx0),
  (1574, .aload_n ⟨0, zfin0⟩, 1575, zx0),
  (1575, .iload_n ⟨3, zfin3⟩, 1576, zx0),
  (1576, .iconst 2, 1577, zx0),
  (1577, .iadd, 1578, zx0),
  (1578, .iaload, 1579, zx0),
  (1579, .invokevirtual 143, 1582, (153, 3, 0, [11])),
  (1582, .pop, 1583, zx0),
  (1583, .aload_n ⟨2, zfin2⟩, 1584, zx0),
  (1584, .aload_n ⟨0, zfin0⟩, 1585, zx0),
  (1585, .iload_n ⟨3, zfin3⟩, 1586, zx0),
  (1586, .iconst 1, 1587, zx0),
  (1587, .iadd, 1588, zx0),
  (1588, .iaload, 1589, zx0),
  (1589, .aload_n ⟨0, zfin0⟩, 1590, zx0),
  (1590, .iload_n ⟨3, zfin3⟩, 1591, zx0),
  (1591, .iconst 2, 1592, zx0),
  (1592, .iadd, 1593, zx0),
  (1593, .iaload, 1594, zx0),
  (1594, .invokevirtual 146, 1597, (258, 3, 0, [12])),
  (1597, .pop, 1598, zx0),
  (1598, .goto (560), 1601, (2158, 0, 0, []))]
set_option maxRecDepth 100000 in
theorem sh_30 : zSeg zk_L_law sg_30 := zSeg_of 1158 27 1568 (by decide +kernel) rfl (by decide +kernel)
set_option maxRecDepth 100000 in
theorem qL_30 (hY : qY M) (hn : n ≤ 4096) (hi : 0 ≤ i ∧ i + 8 ≤ n) (K : ∀ M', qY M' → zG n (114, 4080270) 300 311 (2158, [zR 0, zR 8, zR 97, .inl i], []) M' qLQ) : zG n (114, 4080270) 300 311 (1568, [zR 0, zR 8, zR 97, .inl i], []) M qLQ := by
  have hz := zp_311
  have hg := sh_30
  have hJ := hY.1
  have hX := hY.2.1
  have hU := hY.2.2
  refine zG_blk (c' := (1573, [zR 0, zR 8, zR 97, .inl i], [.inl (i + 1), zR 0, zR 8])) 5 (by decide) hz (zsteps_seg hg (by rw [show (.inl (i + 1) : zV) = .inl (w32 (i + 1)) from by rw [w32_id (by omega)]]; rfl)) ?_
  refine zG_iald (by decide) hz (hg _ _ rfl) rfl (.inr rfl) (by omega) ?_
  obtain ⟨x1, hx1⟩ : ∃ x : Int, x = M 0 (i + 1).toNat := ⟨_, rfl⟩
  rw [← hx1]
  have hr1 : qin x1 := by rw [hx1]; exact hJ.1.rng 0 _ (by decide) (by decide)
  show zG n (114, 4080270) 300 311 (1574, [zR 0, zR 8, zR 97, .inl i], [.inl x1, zR 8]) M _
  refine zG_blk (c' := (1578, [zR 0, zR 8, zR 97, .inl i], [.inl (i + 2), zR 0, .inl x1, zR 8])) 4 (by decide) hz (zsteps_seg hg (by rw [show (.inl (i + 2) : zV) = .inl (w32 (i + 2)) from by rw [w32_id (by omega)]]; rfl)) ?_
  refine zG_iald (by decide) hz (hg _ _ rfl) rfl (.inr rfl) (by omega) ?_
  obtain ⟨x2, hx2⟩ : ∃ x : Int, x = M 0 (i + 2).toNat := ⟨_, rfl⟩
  rw [← hx2]
  have hr2 : qin x2 := by rw [hx2]; exact hJ.1.rng 0 _ (by decide) (by decide)
  show zG n (114, 4080270) 300 311 (1579, [zR 0, zR 8, zR 97, .inl i], [.inl x2, .inl x1, zR 8]) M _
  refine zG_call (by decide) hz zp_153 (hg _ _ rfl) rfl (Nat.le_of_ble_eq_true rfl) ⟨Nat.le_of_ble_eq_true rfl, Nat.le_of_ble_eq_true rfl⟩ (zG.andH (qm_153_8 (by decide) hJ.1 x1 (by omega) x2 (by omega)) (fh_153_8 x1 x2)) (fun vr M1 hr => ?_)
  obtain ⟨⟨⟨hC1, hF1⟩, -⟩, rfl, hM1⟩ := hr
  have hi := hF1.hi rfl
  have hI := hJ.2.1.same hi
  have hc0 : ∀ j, M1 0 j = M 0 j := fun j => hF1 0 j (by decide)
  have hX1 : qX M1 := hX.cls hF1 rfl; have hU1 : qU M1 := hU.cg (hF1.hi rfl)
  show zG n (114, 4080270) 300 311 (1582, [zR 0, zR 8, zR 97, .inl i], [.inl (hf_153_8 M x1 x2).1]) M1 _
  refine zG_blk (c' := (1588, [zR 0, zR 8, zR 97, .inl i], [.inl (i + 1), zR 0, zR 97])) 6 (by decide) hz (zsteps_seg hg (by rw [show (.inl (i + 1) : zV) = .inl (w32 (i + 1)) from by rw [w32_id (by omega)]]; rfl)) ?_
  refine zG_iald (by decide) hz (hg _ _ rfl) rfl (.inr rfl) (by omega) ?_
  rw [show M1 0 (i + 1).toNat = x1 from (hc0 _).trans hx1.symm]
  show zG n (114, 4080270) 300 311 (1589, [zR 0, zR 8, zR 97, .inl i], [.inl x1, zR 97]) M1 _
  refine zG_blk (c' := (1593, [zR 0, zR 8, zR 97, .inl i], [.inl (i + 2), zR 0, .inl x1, zR 97])) 4 (by decide) hz (zsteps_seg hg (by rw [show (.inl (i + 2) : zV) = .inl (w32 (i + 2)) from by rw [w32_id (by omega)]]; rfl)) ?_
  refine zG_iald (by decide) hz (hg _ _ rfl) rfl (.inr rfl) (by omega) ?_
  rw [show M1 0 (i + 2).toNat = x2 from (hc0 _).trans hx2.symm]
  show zG n (114, 4080270) 300 311 (1594, [zR 0, zR 8, zR 97, .inl i], [.inl x2, .inl x1, zR 97]) M1 _
  refine zG_call (by decide) hz zp_258 (hg _ _ rfl) rfl (Nat.le_of_ble_eq_true rfl) ⟨Nat.le_of_ble_eq_true rfl, Nat.le_of_ble_eq_true rfl⟩ (zG.andH (qm_258_97 (by decide) hI x1 (by omega) x2 (by omega)) (fh_258_97 x1 x2)) (fun vr M2 hr => ?_)
  obtain ⟨⟨⟨hC2, hF2⟩, -⟩, rfl, hM2⟩ := hr
  have hm := hm_153 hJ.2.2.1 hJ.1.tb hJ.2.1.bd (a1 := x1) (a2 := x2)
  rw [← hM1] at hm
  rw [← hM2] at hm
  have hJ2 : qJ M2 := hJ.mut hC1 hF1 rfl rfl hC2 hF2 rfl (by decide) hm.2
  have hX2 : qX M2 := hX1.mdl hF2 rfl
  have hU2 : qU M2 := hU1.f9 (wSm.mut hJ.2.2.1 hJ2.2.2.1 hJ.2.1.cnt0 hF1 rfl (hF2.lo rfl)) hF2 rfl
  show zG n (114, 4080270) 300 311 (1597, [zR 0, zR 8, zR 97, .inl i], [.inl (hf_258_97 M1 x1 x2).1]) M2 _
  refine zG_blk (c' := (2158, [zR 0, zR 8, zR 97, .inl i], [])) 2 (by decide) hz (zsteps_seg hg rfl) ?_
  exact K M2 ⟨hJ2, hX2, hU2⟩
noncomputable def sg_31 : List zE := [(1601, .aload_n ⟨1, zfin1⟩, 1602, zx0),
  (1602, .aload_n ⟨0, zfin0⟩, 1603, zx0),
  (1603, .iload_n ⟨3, zfin3⟩, 1604, zx0),
  (1604, .iconst 1, 1605, zx0),
  (1605, .iadd, 1606, zx0),
  (1606, .iaload, 1607, zx0),
  (1607, .aload_n ⟨0, zfin0⟩, 1608, zx0),
  (1608, .iload_n ⟨3, zfin3⟩, 1609, zx0),
  (1609, .iconst 2, 1610, zx0),
  (1610, .iadd, 1611, zx0),
  (1611, .iaload, 1612, zx0),
  (1612, .invokevirtual 147, 1615, (154, 3, 0, [11])),
  (1615, .pop, 1616, zx0),
  (1616, .aload_n ⟨2, zfin2⟩, 1617, zx0),
  (1617, .aload_n ⟨0, zfin0⟩, 1618, zx0),
  (1618, .iload_n ⟨3, zfin3⟩, 1619, zx0),
  (1619, .iconst 1, 1620, zx0),
  (1620, .iadd, 1621, zx0),
  (1621, .iaload, 1622, zx0),
  (1622, .aload_n ⟨0, zfin0⟩, 1623, zx0),
  (1623, .iload_n ⟨3, zfin3⟩, 1624, zx0),
  (1624, .iconst 2, 1625, zx0),
  (1625, .iadd, 1626, zx0),
  (1626, .iaload, 1627, zx0),
  (1627, .invokevirtual 150, 1630, (259, 3, 0, [12])),
  (1630, .pop, 1631, zx0),
  (1631, .goto (527), 1634, (2158, 0, 0, []))]
set_option maxRecDepth 100000 in
theorem sh_31 : zSeg zk_L_law sg_31 := zSeg_of 1185 27 1601 (by decide +kernel) rfl (by decide +kernel)
set_option maxRecDepth 100000 in
theorem qL_31 (hY : qY M) (hn : n ≤ 4096) (hi : 0 ≤ i ∧ i + 8 ≤ n) (K : ∀ M', qY M' → zG n (114, 4080270) 300 311 (2158, [zR 0, zR 8, zR 97, .inl i], []) M' qLQ) : zG n (114, 4080270) 300 311 (1601, [zR 0, zR 8, zR 97, .inl i], []) M qLQ := by
  have hz := zp_311
  have hg := sh_31
  have hJ := hY.1
  have hX := hY.2.1
  have hU := hY.2.2
  refine zG_blk (c' := (1606, [zR 0, zR 8, zR 97, .inl i], [.inl (i + 1), zR 0, zR 8])) 5 (by decide) hz (zsteps_seg hg (by rw [show (.inl (i + 1) : zV) = .inl (w32 (i + 1)) from by rw [w32_id (by omega)]]; rfl)) ?_
  refine zG_iald (by decide) hz (hg _ _ rfl) rfl (.inr rfl) (by omega) ?_
  obtain ⟨x1, hx1⟩ : ∃ x : Int, x = M 0 (i + 1).toNat := ⟨_, rfl⟩
  rw [← hx1]
  have hr1 : qin x1 := by rw [hx1]; exact hJ.1.rng 0 _ (by decide) (by decide)
  show zG n (114, 4080270) 300 311 (1607, [zR 0, zR 8, zR 97, .inl i], [.inl x1, zR 8]) M _
  refine zG_blk (c' := (1611, [zR 0, zR 8, zR 97, .inl i], [.inl (i + 2), zR 0, .inl x1, zR 8])) 4 (by decide) hz (zsteps_seg hg (by rw [show (.inl (i + 2) : zV) = .inl (w32 (i + 2)) from by rw [w32_id (by omega)]]; rfl)) ?_
  refine zG_iald (by decide) hz (hg _ _ rfl) rfl (.inr rfl) (by omega) ?_
  obtain ⟨x2, hx2⟩ : ∃ x : Int, x = M 0 (i + 2).toNat := ⟨_, rfl⟩
  rw [← hx2]
  have hr2 : qin x2 := by rw [hx2]; exact hJ.1.rng 0 _ (by decide) (by decide)
  show zG n (114, 4080270) 300 311 (1612, [zR 0, zR 8, zR 97, .inl i], [.inl x2, .inl x1, zR 8]) M _
  refine zG_call (by decide) hz zp_154 (hg _ _ rfl) rfl (Nat.le_of_ble_eq_true rfl) ⟨Nat.le_of_ble_eq_true rfl, Nat.le_of_ble_eq_true rfl⟩ (qm_154_8 (by decide) hJ.1 x1 (by omega) x2 (by omega)) (fun vr M1 hr => ?_)
  obtain ⟨hq, hr⟩ := hr
  replace hq := hq.symm; subst hq
  have hc0 : ∀ j, M 0 j = M 0 j := fun _ => rfl
  obtain ⟨r1, rfl, -⟩ := hr
  show zG n (114, 4080270) 300 311 (1615, [zR 0, zR 8, zR 97, .inl i], [.inl r1]) M _
  refine zG_blk (c' := (1621, [zR 0, zR 8, zR 97, .inl i], [.inl (i + 1), zR 0, zR 97])) 6 (by decide) hz (zsteps_seg hg (by rw [show (.inl (i + 1) : zV) = .inl (w32 (i + 1)) from by rw [w32_id (by omega)]]; rfl)) ?_
  refine zG_iald (by decide) hz (hg _ _ rfl) rfl (.inr rfl) (by omega) ?_
  rw [show M 0 (i + 1).toNat = x1 from hx1.symm]
  show zG n (114, 4080270) 300 311 (1622, [zR 0, zR 8, zR 97, .inl i], [.inl x1, zR 97]) M _
  refine zG_blk (c' := (1626, [zR 0, zR 8, zR 97, .inl i], [.inl (i + 2), zR 0, .inl x1, zR 97])) 4 (by decide) hz (zsteps_seg hg (by rw [show (.inl (i + 2) : zV) = .inl (w32 (i + 2)) from by rw [w32_id (by omega)]]; rfl)) ?_
  refine zG_iald (by decide) hz (hg _ _ rfl) rfl (.inr rfl) (by omega) ?_
  rw [show M 0 (i + 2).toNat = x2 from hx2.symm]
  show zG n (114, 4080270) 300 311 (1627, [zR 0, zR 8, zR 97, .inl i], [.inl x2, .inl x1, zR 97]) M _
  refine zG_call (by decide) hz zp_259 (hg _ _ rfl) rfl (Nat.le_of_ble_eq_true rfl) ⟨Nat.le_of_ble_eq_true rfl, Nat.le_of_ble_eq_true rfl⟩ (qm_259_97 (by decide) hJ.2.1 x1 (by omega) x2 (by omega)) (fun vr M2 hr => ?_)
  obtain ⟨hq, hr⟩ := hr
  replace hq := hq.symm; subst hq
  obtain ⟨r2, hv9⟩ := hr
  first | (obtain ⟨rfl, -⟩ := hv9) | (obtain rfl := hv9)
  show zG n (114, 4080270) 300 311 (1630, [zR 0, zR 8, zR 97, .inl i], [.inl r2]) M _
  refine zG_blk (c' := (2158, [zR 0, zR 8, zR 97, .inl i], [])) 2 (by decide) hz (zsteps_seg hg rfl) ?_
  exact K M ⟨hJ, hX, hU⟩
noncomputable def sg_32 : List zE := [(1634, .aload_n ⟨1, zfin1⟩, 1635, zx0),
  (1635, .aload_n ⟨0, zfin0⟩, 1636, zx0),
  (1636, .iload_n ⟨3, zfin3⟩, 1637, zx0),
  (1637, .iconst 1, 1638, zx0),
  (1638, .iadd, 1639, zx0),
  (1639, .iaload, 1640, zx0),
  (1640, .aload_n ⟨0, zfin0⟩, 1641, zx0),
  (1641, .iload_n ⟨3, zfin3⟩, 1642, zx0),
  (1642, .iconst 2, 1643, zx0),
  (1643, .iadd, 1644, zx0),
  (1644, .iaload, 1645, zx0),
  (1645, .aload_n ⟨0, zfin0⟩, 1646, zx0),
  (1646, .iload_n ⟨3, zfin3⟩, 1647, zx0),
  (1647, .iconst 3, 1648, zx0),
  (1648, .iadd, 1649, zx0),
  (1649, .iaload, 1650, zx0),
  (1650, .aload_n ⟨0, zfin0⟩, 1651, zx0),
  (1651, .iload_n ⟨3, zfin3⟩, 1652, zx0),
  (1652, .iconst 4, 1653, zx0),
  (1653, .iadd, 1654, zx0),
  (1654, .iaload, 1655, zx0),
  (1655, .aload_n ⟨0, zfin0⟩, 1656, zx0),
  (1656, .iload_n ⟨3, zfin3⟩, 1657, zx0),
  (1657, .iconst 5, 1658, zx0),
  (1658, .iadd, 1659, zx0),
  (1659, .iaload, 1660, zx0),
  (1660, .aload_n ⟨0, zfin0⟩, 1661, zx0),
  (1661, .iload_n ⟨3, zfin3⟩, 1662, zx0),
  (1662, .bipush (6), 1664, zx0),
  (1664, .iadd, 1665, zx0),
  (1665, .iaload, 1666, zx0),
  (1666, .invokevirtual 151, 1669, (155, 7, 0, [11])),
  (1669, .pop, 1670, zx0),
  (1670, .aload_n ⟨2, zfin2⟩, 1671, zx0),
  (1671, .aload_n ⟨0, zfin0⟩, 1672, zx0),
  (1672, .iload_n ⟨3, zfin3⟩, 1673, zx0),
  (1673, .iconst 1, 1674, zx0),
  (1674, .iadd, 1675, zx0),
  (1675, .iaload, 1676, zx0),
  (1676, .aload_n ⟨0, zfin0⟩, 1677, zx0),
  (1677, .iload_n ⟨3, zfin3⟩, 1678, zx0),
  (1678, .iconst 2, 1679, zx0),
  (1679, .iadd, 1680, zx0),
  (1680, .iaload, 1681, zx0),
  (1681, .aload_n ⟨0, zfin0⟩, 1682, zx0),
  (1682, .iload_n ⟨3, zfin3⟩, 1683, zx0),
  (1683, .iconst 3, 1684, zx0),
  (1684, .iadd, 1685, zx0),
  (1685, .iaload, 1686, zx0),
  (1686, .aload_n ⟨0, zfin0⟩, 1687, zx0),
  (1687, .iload_n ⟨3, zfin3⟩, 1688, zx0),
  (1688, .iconst 4, 1689, zx0),
  (1689, .iadd, 1690, zx0),
  (1690, .iaload, 1691, zx0),
  (1691, .aload_n ⟨0, zfin0⟩, 1692, zx0),
  (1692, .iload_n ⟨3, zfin3⟩, 1693, zx0),
  (1693, .iconst 5, 1694, zx0),
  (1694, .iadd, 1695, zx0),
  (1695, .iaload, 1696, zx0),
  (1696, .aload_n ⟨0, zfin0⟩, 1697, zx0),
  (1697, .iload_n ⟨3, zfin3⟩, 1698, zx0),
  (1698, .bipush (6), 1700, zx0),
  (1700, .iadd, 1701, zx0),
  (1701, .iaload, 1702, zx0),
  (1702, .invokevirtual 154, 1705, (268, 7, 0, [12])),
  (1705, .pop, 1706, zx0),
  (1706, .goto (452), 1709, (2158, 0, 0, []))]
set_option maxRecDepth 100000 in
theorem sh_32 : zSeg zk_L_law sg_32 := zSeg_of 1212 67 1634 (by decide +kernel) rfl (by decide +kernel)
set_option maxRecDepth 100000 in
theorem qL_32 (hY : qY M) (hn : n ≤ 4096) (hi : 0 ≤ i ∧ i + 8 ≤ n) (K : ∀ M', qY M' → zG n (114, 4080270) 300 311 (2158, [zR 0, zR 8, zR 97, .inl i], []) M' qLQ) : zG n (114, 4080270) 300 311 (1634, [zR 0, zR 8, zR 97, .inl i], []) M qLQ := by
  have hz := zp_311
  have hg := sh_32
  have hJ := hY.1
  have hX := hY.2.1
  have hU := hY.2.2
  refine zG_blk (c' := (1639, [zR 0, zR 8, zR 97, .inl i], [.inl (i + 1), zR 0, zR 8])) 5 (by decide) hz (zsteps_seg hg (by rw [show (.inl (i + 1) : zV) = .inl (w32 (i + 1)) from by rw [w32_id (by omega)]]; rfl)) ?_
  refine zG_iald (by decide) hz (hg _ _ rfl) rfl (.inr rfl) (by omega) ?_
  obtain ⟨x1, hx1⟩ : ∃ x : Int, x = M 0 (i + 1).toNat := ⟨_, rfl⟩
  rw [← hx1]
  have hr1 : qin x1 := by rw [hx1]; exact hJ.1.rng 0 _ (by decide) (by decide)
  show zG n (114, 4080270) 300 311 (1640, [zR 0, zR 8, zR 97, .inl i], [.inl x1, zR 8]) M _
  refine zG_blk (c' := (1644, [zR 0, zR 8, zR 97, .inl i], [.inl (i + 2), zR 0, .inl x1, zR 8])) 4 (by decide) hz (zsteps_seg hg (by rw [show (.inl (i + 2) : zV) = .inl (w32 (i + 2)) from by rw [w32_id (by omega)]]; rfl)) ?_
  refine zG_iald (by decide) hz (hg _ _ rfl) rfl (.inr rfl) (by omega) ?_
  obtain ⟨x2, hx2⟩ : ∃ x : Int, x = M 0 (i + 2).toNat := ⟨_, rfl⟩
  rw [← hx2]
  have hr2 : qin x2 := by rw [hx2]; exact hJ.1.rng 0 _ (by decide) (by decide)
  show zG n (114, 4080270) 300 311 (1645, [zR 0, zR 8, zR 97, .inl i], [.inl x2, .inl x1, zR 8]) M _
  refine zG_blk (c' := (1649, [zR 0, zR 8, zR 97, .inl i], [.inl (i + 3), zR 0, .inl x2, .inl x1, zR 8])) 4 (by decide) hz (zsteps_seg hg (by rw [show (.inl (i + 3) : zV) = .inl (w32 (i + 3)) from by rw [w32_id (by omega)]]; rfl)) ?_
  refine zG_iald (by decide) hz (hg _ _ rfl) rfl (.inr rfl) (by omega) ?_
  obtain ⟨x3, hx3⟩ : ∃ x : Int, x = M 0 (i + 3).toNat := ⟨_, rfl⟩
  rw [← hx3]
  have hr3 : qin x3 := by rw [hx3]; exact hJ.1.rng 0 _ (by decide) (by decide)
  show zG n (114, 4080270) 300 311 (1650, [zR 0, zR 8, zR 97, .inl i], [.inl x3, .inl x2, .inl x1, zR 8]) M _
  refine zG_blk (c' := (1654, [zR 0, zR 8, zR 97, .inl i], [.inl (i + 4), zR 0, .inl x3, .inl x2, .inl x1, zR 8])) 4 (by decide) hz (zsteps_seg hg (by rw [show (.inl (i + 4) : zV) = .inl (w32 (i + 4)) from by rw [w32_id (by omega)]]; rfl)) ?_
  refine zG_iald (by decide) hz (hg _ _ rfl) rfl (.inr rfl) (by omega) ?_
  obtain ⟨x4, hx4⟩ : ∃ x : Int, x = M 0 (i + 4).toNat := ⟨_, rfl⟩
  rw [← hx4]
  have hr4 : qin x4 := by rw [hx4]; exact hJ.1.rng 0 _ (by decide) (by decide)
  show zG n (114, 4080270) 300 311 (1655, [zR 0, zR 8, zR 97, .inl i], [.inl x4, .inl x3, .inl x2, .inl x1, zR 8]) M _
  refine zG_blk (c' := (1659, [zR 0, zR 8, zR 97, .inl i], [.inl (i + 5), zR 0, .inl x4, .inl x3, .inl x2, .inl x1, zR 8])) 4 (by decide) hz (zsteps_seg hg (by rw [show (.inl (i + 5) : zV) = .inl (w32 (i + 5)) from by rw [w32_id (by omega)]]; rfl)) ?_
  refine zG_iald (by decide) hz (hg _ _ rfl) rfl (.inr rfl) (by omega) ?_
  obtain ⟨x5, hx5⟩ : ∃ x : Int, x = M 0 (i + 5).toNat := ⟨_, rfl⟩
  rw [← hx5]
  have hr5 : qin x5 := by rw [hx5]; exact hJ.1.rng 0 _ (by decide) (by decide)
  show zG n (114, 4080270) 300 311 (1660, [zR 0, zR 8, zR 97, .inl i], [.inl x5, .inl x4, .inl x3, .inl x2, .inl x1, zR 8]) M _
  refine zG_blk (c' := (1665, [zR 0, zR 8, zR 97, .inl i], [.inl (i + 6), zR 0, .inl x5, .inl x4, .inl x3, .inl x2, .inl x1, zR 8])) 4 (by decide) hz (zsteps_seg hg (by rw [show (.inl (i + 6) : zV) = .inl (w32 (i + 6)) from by rw [w32_id (by omega)]]; rfl)) ?_
  refine zG_iald (by decide) hz (hg _ _ rfl) rfl (.inr rfl) (by omega) ?_
  obtain ⟨x6, hx6⟩ : ∃ x : Int, x = M 0 (i + 6).toNat := ⟨_, rfl⟩
  rw [← hx6]
  have hr6 : qin x6 := by rw [hx6]; exact hJ.1.rng 0 _ (by decide) (by decide)
  show zG n (114, 4080270) 300 311 (1666, [zR 0, zR 8, zR 97, .inl i], [.inl x6, .inl x5, .inl x4, .inl x3, .inl x2, .inl x1, zR 8]) M _
  obtain ⟨P, Q, hcs, hms⟩ := jPQ hJ.h9 hX.2
  have hjH : jH M := ⟨hJ.kp, ⟨(hJ.1.rows 77 1 164 (by decide)).1, (hJ.1.rows 77 1 164 (by decide)).2.1⟩, hX.2⟩
  have hco := hU.co hJ.2.1.cnt0
  have hn0 : M 98 0 = (((M 98 0).toNat : Nat) : Int) := by have := hJ.2.1.cnt0; omega
  have hw := hU.tb hJ.2.2.1 hJ.2.1.cnt0 ⟨(hJ.1.rows 10 14 4 (by decide)).1, (hJ.1.rows 10 14 4 (by decide)).2.1⟩ ⟨(hJ.1.rows 83 14 1 (by decide)).1, (hJ.1.rows 83 14 1 (by decide)).2.1⟩ ⟨(hJ.1.rows 85 8 1 (by decide)).1, (hJ.1.rows 85 8 1 (by decide)).2.1⟩
  obtain ⟨Pn, hPn⟩ : ∃ Pn : Nat, (jPs M (hCt M x6 (-1) (M 98 4).toNat (M 98 4).toNat) x1 (P (oBi (M 98) x1 x5)) (M 98 0).toNat) = (Pn : Int) := ⟨_, (Int.toNat_of_nonneg (jPs_r M (hCt M x6 (-1) (M 98 4).toNat (M 98 4).toNat) x1 (P (oBi (M 98) x1 x5)) (M 98 0).toNat (by have := hJ.2.1.cnt0; omega)).1).symm⟩
  refine zG_call (by decide) hz zp_155 (hg _ _ rfl) rfl (Nat.le_of_ble_eq_true rfl) ⟨Nat.le_of_ble_eq_true rfl, Nat.le_of_ble_eq_true rfl⟩ (zG.andH (qm_155_8 (by decide) hJ.1 x1 (by omega) x2 (by omega) x3 (by omega) x4 (by omega) x5 (by omega) x6 (by omega)) (fh_155_8 hco.1 hw hn0 hjH hJ.1.rk hcs x1 x2 x3 x4 x5 x6 hPn)) (fun vr M1 hr => ?_)
  obtain ⟨⟨⟨hCM1, hFM1⟩, -⟩, v1, rfl, hv1⟩ := hr
  have hJM1 : qJ M1 := hJ.cls hCM1 hFM1 rfl rfl
  have hXM1 : qX M1 := hX.cls hFM1 rfl; have hUM1 : qU M1 := hU.cg (hFM1.hi rfl)
  have e98 : M1 98 = M 98 := funext fun j => hFM1.hi rfl 98 j (by decide)
  have hc0 : ∀ j, M1 0 j = M 0 j := fun j => hFM1 0 j (by decide)
  show zG n (114, 4080270) 300 311 (1669, [zR 0, zR 8, zR 97, .inl i], [.inl v1]) M1 _
  refine zG_blk (c' := (1675, [zR 0, zR 8, zR 97, .inl i], [.inl (i + 1), zR 0, zR 97])) 6 (by decide) hz (zsteps_seg hg (by rw [show (.inl (i + 1) : zV) = .inl (w32 (i + 1)) from by rw [w32_id (by omega)]]; rfl)) ?_
  refine zG_iald (by decide) hz (hg _ _ rfl) rfl (.inr rfl) (by omega) ?_
  rw [show M1 0 (i + 1).toNat = x1 from (hc0 _).trans hx1.symm]
  show zG n (114, 4080270) 300 311 (1676, [zR 0, zR 8, zR 97, .inl i], [.inl x1, zR 97]) M1 _
  refine zG_blk (c' := (1680, [zR 0, zR 8, zR 97, .inl i], [.inl (i + 2), zR 0, .inl x1, zR 97])) 4 (by decide) hz (zsteps_seg hg (by rw [show (.inl (i + 2) : zV) = .inl (w32 (i + 2)) from by rw [w32_id (by omega)]]; rfl)) ?_
  refine zG_iald (by decide) hz (hg _ _ rfl) rfl (.inr rfl) (by omega) ?_
  rw [show M1 0 (i + 2).toNat = x2 from (hc0 _).trans hx2.symm]
  show zG n (114, 4080270) 300 311 (1681, [zR 0, zR 8, zR 97, .inl i], [.inl x2, .inl x1, zR 97]) M1 _
  refine zG_blk (c' := (1685, [zR 0, zR 8, zR 97, .inl i], [.inl (i + 3), zR 0, .inl x2, .inl x1, zR 97])) 4 (by decide) hz (zsteps_seg hg (by rw [show (.inl (i + 3) : zV) = .inl (w32 (i + 3)) from by rw [w32_id (by omega)]]; rfl)) ?_
  refine zG_iald (by decide) hz (hg _ _ rfl) rfl (.inr rfl) (by omega) ?_
  rw [show M1 0 (i + 3).toNat = x3 from (hc0 _).trans hx3.symm]
  show zG n (114, 4080270) 300 311 (1686, [zR 0, zR 8, zR 97, .inl i], [.inl x3, .inl x2, .inl x1, zR 97]) M1 _
  refine zG_blk (c' := (1690, [zR 0, zR 8, zR 97, .inl i], [.inl (i + 4), zR 0, .inl x3, .inl x2, .inl x1, zR 97])) 4 (by decide) hz (zsteps_seg hg (by rw [show (.inl (i + 4) : zV) = .inl (w32 (i + 4)) from by rw [w32_id (by omega)]]; rfl)) ?_
  refine zG_iald (by decide) hz (hg _ _ rfl) rfl (.inr rfl) (by omega) ?_
  rw [show M1 0 (i + 4).toNat = x4 from (hc0 _).trans hx4.symm]
  show zG n (114, 4080270) 300 311 (1691, [zR 0, zR 8, zR 97, .inl i], [.inl x4, .inl x3, .inl x2, .inl x1, zR 97]) M1 _
  refine zG_blk (c' := (1695, [zR 0, zR 8, zR 97, .inl i], [.inl (i + 5), zR 0, .inl x4, .inl x3, .inl x2, .inl x1, zR 97])) 4 (by decide) hz (zsteps_seg hg (by rw [show (.inl (i + 5) : zV) = .inl (w32 (i + 5)) from by rw [w32_id (by omega)]]; rfl)) ?_
  refine zG_iald (by decide) hz (hg _ _ rfl) rfl (.inr rfl) (by omega) ?_
  rw [show M1 0 (i + 5).toNat = x5 from (hc0 _).trans hx5.symm]
  show zG n (114, 4080270) 300 311 (1696, [zR 0, zR 8, zR 97, .inl i], [.inl x5, .inl x4, .inl x3, .inl x2, .inl x1, zR 97]) M1 _
  refine zG_blk (c' := (1701, [zR 0, zR 8, zR 97, .inl i], [.inl (i + 6), zR 0, .inl x5, .inl x4, .inl x3, .inl x2, .inl x1, zR 97])) 4 (by decide) hz (zsteps_seg hg (by rw [show (.inl (i + 6) : zV) = .inl (w32 (i + 6)) from by rw [w32_id (by omega)]]; rfl)) ?_
  refine zG_iald (by decide) hz (hg _ _ rfl) rfl (.inr rfl) (by omega) ?_
  rw [show M1 0 (i + 6).toNat = x6 from (hc0 _).trans hx6.symm]
  show zG n (114, 4080270) 300 311 (1702, [zR 0, zR 8, zR 97, .inl i], [.inl x6, .inl x5, .inl x4, .inl x3, .inl x2, .inl x1, zR 97]) M1 _
  have hVt : wVt (wmL (M 98)) (wmT (M 98)) M1 := by have q := hUM1.2.2.2; rw [e98] at q; exact q
  refine zG_call (by decide) hz zp_268 (hg _ _ rfl) rfl (Nat.le_of_ble_eq_true rfl) ⟨Nat.le_of_ble_eq_true rfl, Nat.le_of_ble_eq_true rfl⟩ (zG.andH (qm_268_97 (by decide) hJM1.2.1 x1 (by omega) x2 (by omega) x3 (by omega) x4 (by omega) x5 (by omega) x6 (by omega)) (fh_268_97 hco.1 hco.2 hn0 hJM1.2.1 e98 (mH_of hjH hms) hVt x1 x2 x3 x4 x5 x6 hPn)) (fun vr M2 hr => ?_)
  obtain ⟨⟨⟨hCM2, hFM2⟩, -⟩, v2, rfl, hv2, hV2⟩ := hr
  have hJM2 : qJ M2 := hJM1.mdl hCM2 hFM2 rfl (by decide) (fun j _ => hFM2.ar 98 j (by decide) (by decide))
  have hXM2 : qX M2 := hXM1.mdl hFM2 rfl
  have hUM2 : qU M2 := hUM1.vt (hFM2.fn 98 (by decide) (by decide)) (hFM2.fn 99 (by decide) (by decide)) (hFM2.fn 100 (by decide) (by decide)) (by rw [e98]; exact hV2)
  show zG n (114, 4080270) 300 311 (1705, [zR 0, zR 8, zR 97, .inl i], [.inl v2]) M2 _
  refine zG_blk (c' := (2158, [zR 0, zR 8, zR 97, .inl i], [])) 2 (by decide) hz (zsteps_seg hg rfl) ?_
  exact K M2 ⟨hJM2, hXM2, hUM2⟩
noncomputable def sg_33 : List zE := [(1709, .aload_n ⟨1, zfin1⟩, 1710, zx0),
  (1710, .aload_n ⟨0, zfin0⟩, 1711, zx0),
  (1711, .iload_n ⟨3, zfin3⟩, 1712, zx0),
  (1712, .iconst 1, 1713, zx0),
  (1713, .iadd, 1714, zx0),
  (1714, .iaload, 1715, zx0),
  (1715, .aload_n ⟨0, zfin0⟩, 1716, zx0),
  (1716, .iload_n ⟨3, zfin3⟩, 1717, zx0),
  (1717, .iconst 2, 1718, zx0),
  (1718, .iadd, 1719, zx0),
  (1719, .iaload, 1720, zx0),
  (1720, .aload_n ⟨0, zfin0⟩, 1721, zx0),
  (1721, .iload_n ⟨3, zfin3⟩, 1722, zx0),
  (1722, .iconst 3, 1723, zx0),
  (1723, .iadd, 1724, zx0),
  (1724, .iaload, 1725, zx0),
  (1725, .aload_n ⟨0, zfin0⟩, 1726, zx0),
  (1726, .iload_n ⟨3, zfin3⟩, 1727, zx0),
  (1727, .iconst 4, 1728, zx0),
  (1728, .iadd, 1729, zx0),
  (1729, .iaload, 1730, zx0),
  (1730, .aload_n ⟨0, zfin0⟩, 1731, zx0),
  (1731, .iload_n ⟨3, zfin3⟩, 1732, zx0),
  (1732, .iconst 5, 1733, zx0),
  (1733, .iadd, 1734, zx0),
  (1734, .iaload, 1735, zx0),
  (1735, .aload_n ⟨0, zfin0⟩, 1736, zx0),
  (1736, .iload_n ⟨3, zfin3⟩, 1737, zx0),
  (1737, .bipush (6), 1739, zx0),
  (1739, .iadd, 1740, zx0),
  (1740, .iaload, 1741, zx0),
  (1741, .aload_n ⟨0, zfin0⟩, 1742, zx0),
  (1742, .iload_n ⟨3, zfin3⟩, 1743, zx0),
  (1743, .bipush (7), 1745, zx0),
  (1745, .iadd, 1746, zx0),
  (1746, .iaload, 1747, zx0),
  (1747, .invokevirtual 155, 1750, (156, 8, 0, [11])),
  (1750, .aload_n ⟨2, zfin2⟩, 1751, zx0),
  (1751, .aload_n ⟨0, zfin0⟩, 1752, zx0),
  (1752, .iload_n ⟨3, zfin3⟩, 1753, zx0),
  (1753, .iconst 1, 1754, zx0),
  (1754, .iadd, 1755, zx0),
  (1755, .iaload, 1756, zx0),
  (1756, .aload_n ⟨0, zfin0⟩, 1757, zx0),
  (1757, .iload_n ⟨3, zfin3⟩, 1758, zx0),
  (1758, .iconst 2, 1759, zx0),
  (1759, .iadd, 1760, zx0),
  (1760, .iaload, 1761, zx0),
  (1761, .aload_n ⟨0, zfin0⟩, 1762, zx0),
  (1762, .iload_n ⟨3, zfin3⟩, 1763, zx0),
  (1763, .iconst 3, 1764, zx0),
  (1764, .iadd, 1765, zx0),
  (1765, .iaload, 1766, zx0),
  (1766, .aload_n ⟨0, zfin0⟩, 1767, zx0),
  (1767, .iload_n ⟨3, zfin3⟩, 1768, zx0),
  (1768, .iconst 4, 1769, zx0),
  (1769, .iadd, 1770, zx0),
  (1770, .iaload, 1771, zx0),
  (1771, .aload_n ⟨0, zfin0⟩, 1772, zx0),
  (1772, .iload_n ⟨3, zfin3⟩, 1773, zx0),
  (1773, .iconst 5, 1774, zx0),
  (1774, .iadd, 1775, zx0),
  (1775, .iaload, 1776, zx0),
  (1776, .aload_n ⟨0, zfin0⟩, 1777, zx0),
  (1777, .iload_n ⟨3, zfin3⟩, 1778, zx0),
  (1778, .bipush (6), 1780, zx0),
  (1780, .iadd, 1781, zx0),
  (1781, .iaload, 1782, zx0),
  (1782, .aload_n ⟨0, zfin0⟩, 1783, zx0),
  (1783, .iload_n ⟨3, zfin3⟩, 1784, zx0),
  (1784, .bipush (7), 1786, zx0),
  (1786, .iadd, 1787, zx0),
  (1787, .iaload, 1788, zx0),
  (1788, .invokevirtual 159, 1791, (270, 8, 0, [12])),
  (1791, .if_icmp .eq (367), 1794, (2158, 0, 0, [])),
  (1794, .iconst 0, 1795, zx0),
  (1795, .ireturn, 1796, (2, 0, 0, [])),
  (1796, .aload_n ⟨1, zfin1⟩, 1797, zx0),
  (1797, .aload_n ⟨0, zfin0⟩, 1798, zx0),
  (1798, .iload_n ⟨3, zfin3⟩, 1799, zx0),
  (1799, .iconst 1, 1800, zx0),
  (1800, .iadd, 1801, zx0),
  (1801, .iaload, 1802, zx0),
  (1802, .aload_n ⟨0, zfin0⟩, 1803, zx0),
  (1803, .iload_n ⟨3, zfin3⟩, 1804, zx0),
  (1804, .iconst 2, 1805, zx0),
  (1805, .iadd, 1806, zx0),
  (1806, .iaload, 1807, zx0),
  (1807, .aload_n ⟨0, zfin0⟩, 1808, zx0),
  (1808, .iload_n ⟨3, zfin3⟩, 1809, zx0),
  (1809, .iconst 3, 1810, zx0),
  (1810, .iadd, 1811, zx0),
  (1811, .iaload, 1812, zx0),
  (1812, .ifCond .eq (7), 1815, (1819, 0, 0, [])),
  (1815, .iconst 1, 1816, zx0),
  (1816, .goto (4), 1819, (1820, 0, 0, [])),
  (1819, .iconst 0, 1820, zx0),
  (1820, .invokevirtual 160, 1823, (157, 4, 0, [11])),
  (1823, .pop, 1824, zx0),
  (1824, .aload_n ⟨2, zfin2⟩, 1825, zx0),
  (1825, .aload_n ⟨0, zfin0⟩, 1826, zx0),
  (1826, .iload_n ⟨3, zfin3⟩, 1827, zx0),
  (1827, .iconst 1, 1828, zx0),
  (1828, .iadd, 1829, zx0),
  (1829, .iaload, 1830, zx0),
  (1830, .aload_n ⟨0, zfin0⟩, 1831, zx0),
  (1831, .iload_n ⟨3, zfin3⟩, 1832, zx0),
  (1832, .iconst 2, 1833, zx0),
  (1833, .iadd, 1834, zx0),
  (1834, .iaload, 1835, zx0),
  (1835, .aload_n ⟨0, zfin0⟩, 1836, zx0),
  (1836, .iload_n ⟨3, zfin3⟩, 1837, zx0),
  (1837, .iconst 3, 1838, zx0),
  (1838, .iadd, 1839, zx0),
  (1839, .iaload, 1840, zx0),
  (1840, .ifCond .eq (7), 1843, (1847, 0, 0, [])),
  (1843, .iconst 1, 1844, zx0),
  (1844, .goto (4), 1847, (1848, 0, 0, [])),
  (1847, .iconst 0, 1848, zx0),
  (1848, .invokevirtual 164, 1851, (271, 4, 0, [12])),
  (1851, .pop, 1852, zx0),
  (1852, .goto (306), 1855, (2158, 0, 0, []))]
set_option maxRecDepth 100000 in
theorem sh_33 : zSeg zk_L_law sg_33 := zSeg_of 1279 122 1709 (by decide +kernel) rfl (by decide +kernel)
set_option maxRecDepth 100000 in
theorem qL_33 (hY : qY M) (hn : n ≤ 4096) (hi : 0 ≤ i ∧ i + 8 ≤ n) (K : ∀ M', qY M' → zG n (114, 4080270) 300 311 (2158, [zR 0, zR 8, zR 97, .inl i], []) M' qLQ) : zG n (114, 4080270) 300 311 (1709, [zR 0, zR 8, zR 97, .inl i], []) M qLQ := by
  have hz := zp_311
  have hg := sh_33
  have hJ := hY.1
  have hX := hY.2.1
  have hU := hY.2.2
  refine zG_blk (c' := (1714, [zR 0, zR 8, zR 97, .inl i], [.inl (i + 1), zR 0, zR 8])) 5 (by decide) hz (zsteps_seg hg (by rw [show (.inl (i + 1) : zV) = .inl (w32 (i + 1)) from by rw [w32_id (by omega)]]; rfl)) ?_
  refine zG_iald (by decide) hz (hg _ _ rfl) rfl (.inr rfl) (by omega) ?_
  obtain ⟨x1, hx1⟩ : ∃ x : Int, x = M 0 (i + 1).toNat := ⟨_, rfl⟩
  rw [← hx1]
  have hr1 : qin x1 := by rw [hx1]; exact hJ.1.rng 0 _ (by decide) (by decide)
  show zG n (114, 4080270) 300 311 (1715, [zR 0, zR 8, zR 97, .inl i], [.inl x1, zR 8]) M _
  refine zG_blk (c' := (1719, [zR 0, zR 8, zR 97, .inl i], [.inl (i + 2), zR 0, .inl x1, zR 8])) 4 (by decide) hz (zsteps_seg hg (by rw [show (.inl (i + 2) : zV) = .inl (w32 (i + 2)) from by rw [w32_id (by omega)]]; rfl)) ?_
  refine zG_iald (by decide) hz (hg _ _ rfl) rfl (.inr rfl) (by omega) ?_
  obtain ⟨x2, hx2⟩ : ∃ x : Int, x = M 0 (i + 2).toNat := ⟨_, rfl⟩
  rw [← hx2]
  have hr2 : qin x2 := by rw [hx2]; exact hJ.1.rng 0 _ (by decide) (by decide)
  show zG n (114, 4080270) 300 311 (1720, [zR 0, zR 8, zR 97, .inl i], [.inl x2, .inl x1, zR 8]) M _
  refine zG_blk (c' := (1724, [zR 0, zR 8, zR 97, .inl i], [.inl (i + 3), zR 0, .inl x2, .inl x1, zR 8])) 4 (by decide) hz (zsteps_seg hg (by rw [show (.inl (i + 3) : zV) = .inl (w32 (i + 3)) from by rw [w32_id (by omega)]]; rfl)) ?_
  refine zG_iald (by decide) hz (hg _ _ rfl) rfl (.inr rfl) (by omega) ?_
  obtain ⟨x3, hx3⟩ : ∃ x : Int, x = M 0 (i + 3).toNat := ⟨_, rfl⟩
  rw [← hx3]
  have hr3 : qin x3 := by rw [hx3]; exact hJ.1.rng 0 _ (by decide) (by decide)
  show zG n (114, 4080270) 300 311 (1725, [zR 0, zR 8, zR 97, .inl i], [.inl x3, .inl x2, .inl x1, zR 8]) M _
  refine zG_blk (c' := (1729, [zR 0, zR 8, zR 97, .inl i], [.inl (i + 4), zR 0, .inl x3, .inl x2, .inl x1, zR 8])) 4 (by decide) hz (zsteps_seg hg (by rw [show (.inl (i + 4) : zV) = .inl (w32 (i + 4)) from by rw [w32_id (by omega)]]; rfl)) ?_
  refine zG_iald (by decide) hz (hg _ _ rfl) rfl (.inr rfl) (by omega) ?_
  obtain ⟨x4, hx4⟩ : ∃ x : Int, x = M 0 (i + 4).toNat := ⟨_, rfl⟩
  rw [← hx4]
  have hr4 : qin x4 := by rw [hx4]; exact hJ.1.rng 0 _ (by decide) (by decide)
  show zG n (114, 4080270) 300 311 (1730, [zR 0, zR 8, zR 97, .inl i], [.inl x4, .inl x3, .inl x2, .inl x1, zR 8]) M _
  refine zG_blk (c' := (1734, [zR 0, zR 8, zR 97, .inl i], [.inl (i + 5), zR 0, .inl x4, .inl x3, .inl x2, .inl x1, zR 8])) 4 (by decide) hz (zsteps_seg hg (by rw [show (.inl (i + 5) : zV) = .inl (w32 (i + 5)) from by rw [w32_id (by omega)]]; rfl)) ?_
  refine zG_iald (by decide) hz (hg _ _ rfl) rfl (.inr rfl) (by omega) ?_
  obtain ⟨x5, hx5⟩ : ∃ x : Int, x = M 0 (i + 5).toNat := ⟨_, rfl⟩
  rw [← hx5]
  have hr5 : qin x5 := by rw [hx5]; exact hJ.1.rng 0 _ (by decide) (by decide)
  show zG n (114, 4080270) 300 311 (1735, [zR 0, zR 8, zR 97, .inl i], [.inl x5, .inl x4, .inl x3, .inl x2, .inl x1, zR 8]) M _
  refine zG_blk (c' := (1740, [zR 0, zR 8, zR 97, .inl i], [.inl (i + 6), zR 0, .inl x5, .inl x4, .inl x3, .inl x2, .inl x1, zR 8])) 4 (by decide) hz (zsteps_seg hg (by rw [show (.inl (i + 6) : zV) = .inl (w32 (i + 6)) from by rw [w32_id (by omega)]]; rfl)) ?_
  refine zG_iald (by decide) hz (hg _ _ rfl) rfl (.inr rfl) (by omega) ?_
  obtain ⟨x6, hx6⟩ : ∃ x : Int, x = M 0 (i + 6).toNat := ⟨_, rfl⟩
  rw [← hx6]
  have hr6 : qin x6 := by rw [hx6]; exact hJ.1.rng 0 _ (by decide) (by decide)
  show zG n (114, 4080270) 300 311 (1741, [zR 0, zR 8, zR 97, .inl i], [.inl x6, .inl x5, .inl x4, .inl x3, .inl x2, .inl x1, zR 8]) M _
  refine zG_blk (c' := (1746, [zR 0, zR 8, zR 97, .inl i], [.inl (i + 7), zR 0, .inl x6, .inl x5, .inl x4, .inl x3, .inl x2, .inl x1, zR 8])) 4 (by decide) hz (zsteps_seg hg (by rw [show (.inl (i + 7) : zV) = .inl (w32 (i + 7)) from by rw [w32_id (by omega)]]; rfl)) ?_
  refine zG_iald (by decide) hz (hg _ _ rfl) rfl (.inr rfl) (by omega) ?_
  obtain ⟨x7, hx7⟩ : ∃ x : Int, x = M 0 (i + 7).toNat := ⟨_, rfl⟩
  rw [← hx7]
  have hr7 : qin x7 := by rw [hx7]; exact hJ.1.rng 0 _ (by decide) (by decide)
  show zG n (114, 4080270) 300 311 (1747, [zR 0, zR 8, zR 97, .inl i], [.inl x7, .inl x6, .inl x5, .inl x4, .inl x3, .inl x2, .inl x1, zR 8]) M _
  obtain ⟨P, Q, hcs, hms⟩ := jPQ hJ.h9 hX.2
  have hjH : jH M := ⟨hJ.kp, ⟨(hJ.1.rows 77 1 164 (by decide)).1, (hJ.1.rows 77 1 164 (by decide)).2.1⟩, hX.2⟩
  have hco := hU.co hJ.2.1.cnt0
  have hn0 : M 98 0 = (((M 98 0).toNat : Nat) : Int) := by have := hJ.2.1.cnt0; omega
  have hw := hU.tb hJ.2.2.1 hJ.2.1.cnt0 ⟨(hJ.1.rows 10 14 4 (by decide)).1, (hJ.1.rows 10 14 4 (by decide)).2.1⟩ ⟨(hJ.1.rows 83 14 1 (by decide)).1, (hJ.1.rows 83 14 1 (by decide)).2.1⟩ ⟨(hJ.1.rows 85 8 1 (by decide)).1, (hJ.1.rows 85 8 1 (by decide)).2.1⟩
  obtain ⟨Pn, hPn⟩ : ∃ Pn : Nat, (jPs M (hCt M x6 (-1) (M 98 4).toNat (M 98 4).toNat) x1 (P (oBi (M 98) x1 x5)) (M 98 0).toNat) = (Pn : Int) := ⟨_, (Int.toNat_of_nonneg (jPs_r M (hCt M x6 (-1) (M 98 4).toNat (M 98 4).toNat) x1 (P (oBi (M 98) x1 x5)) (M 98 0).toNat (by have := hJ.2.1.cnt0; omega)).1).symm⟩
  refine zG_call (by decide) hz zp_156 (hg _ _ rfl) rfl (Nat.le_of_ble_eq_true rfl) ⟨Nat.le_of_ble_eq_true rfl, Nat.le_of_ble_eq_true rfl⟩ (zG.andH (qm_156_8 (by decide) hJ.1 x1 (by omega) x2 (by omega) x3 (by omega) x4 (by omega) x5 (by omega) x6 (by omega) x7 (by omega)) (fh_156_8 hco.1 hw hn0 hjH hJ.1.rk hcs x1 x2 x3 x4 x5 x6 x7 hPn)) (fun vr M1 hr => ?_)
  obtain ⟨⟨⟨hCM1, hFM1⟩, -⟩, v1, rfl, hv1⟩ := hr
  have hJM1 : qJ M1 := hJ.cls hCM1 hFM1 rfl rfl
  have hXM1 : qX M1 := hX.cls hFM1 rfl; have hUM1 : qU M1 := hU.cg (hFM1.hi rfl)
  have e98 : M1 98 = M 98 := funext fun j => hFM1.hi rfl 98 j (by decide)
  have hc0 : ∀ j, M1 0 j = M 0 j := fun j => hFM1 0 j (by decide)
  show zG n (114, 4080270) 300 311 (1750, [zR 0, zR 8, zR 97, .inl i], [.inl v1]) M1 _
  refine zG_blk (c' := (1755, [zR 0, zR 8, zR 97, .inl i], [.inl (i + 1), zR 0, zR 97, .inl v1])) 5 (by decide) hz (zsteps_seg hg (by rw [show (.inl (i + 1) : zV) = .inl (w32 (i + 1)) from by rw [w32_id (by omega)]]; rfl)) ?_
  refine zG_iald (by decide) hz (hg _ _ rfl) rfl (.inr rfl) (by omega) ?_
  rw [show M1 0 (i + 1).toNat = x1 from (hc0 _).trans hx1.symm]
  show zG n (114, 4080270) 300 311 (1756, [zR 0, zR 8, zR 97, .inl i], [.inl x1, zR 97, .inl v1]) M1 _
  refine zG_blk (c' := (1760, [zR 0, zR 8, zR 97, .inl i], [.inl (i + 2), zR 0, .inl x1, zR 97, .inl v1])) 4 (by decide) hz (zsteps_seg hg (by rw [show (.inl (i + 2) : zV) = .inl (w32 (i + 2)) from by rw [w32_id (by omega)]]; rfl)) ?_
  refine zG_iald (by decide) hz (hg _ _ rfl) rfl (.inr rfl) (by omega) ?_
  rw [show M1 0 (i + 2).toNat = x2 from (hc0 _).trans hx2.symm]
  show zG n (114, 4080270) 300 311 (1761, [zR 0, zR 8, zR 97, .inl i], [.inl x2, .inl x1, zR 97, .inl v1]) M1 _
  refine zG_blk (c' := (1765, [zR 0, zR 8, zR 97, .inl i], [.inl (i + 3), zR 0, .inl x2, .inl x1, zR 97, .inl v1])) 4 (by decide) hz (zsteps_seg hg (by rw [show (.inl (i + 3) : zV) = .inl (w32 (i + 3)) from by rw [w32_id (by omega)]]; rfl)) ?_
  refine zG_iald (by decide) hz (hg _ _ rfl) rfl (.inr rfl) (by omega) ?_
  rw [show M1 0 (i + 3).toNat = x3 from (hc0 _).trans hx3.symm]
  show zG n (114, 4080270) 300 311 (1766, [zR 0, zR 8, zR 97, .inl i], [.inl x3, .inl x2, .inl x1, zR 97, .inl v1]) M1 _
  refine zG_blk (c' := (1770, [zR 0, zR 8, zR 97, .inl i], [.inl (i + 4), zR 0, .inl x3, .inl x2, .inl x1, zR 97, .inl v1])) 4 (by decide) hz (zsteps_seg hg (by rw [show (.inl (i + 4) : zV) = .inl (w32 (i + 4)) from by rw [w32_id (by omega)]]; rfl)) ?_
  refine zG_iald (by decide) hz (hg _ _ rfl) rfl (.inr rfl) (by omega) ?_
  rw [show M1 0 (i + 4).toNat = x4 from (hc0 _).trans hx4.symm]
  show zG n (114, 4080270) 300 311 (1771, [zR 0, zR 8, zR 97, .inl i], [.inl x4, .inl x3, .inl x2, .inl x1, zR 97, .inl v1]) M1 _
  refine zG_blk (c' := (1775, [zR 0, zR 8, zR 97, .inl i], [.inl (i + 5), zR 0, .inl x4, .inl x3, .inl x2, .inl x1, zR 97, .inl v1])) 4 (by decide) hz (zsteps_seg hg (by rw [show (.inl (i + 5) : zV) = .inl (w32 (i + 5)) from by rw [w32_id (by omega)]]; rfl)) ?_
  refine zG_iald (by decide) hz (hg _ _ rfl) rfl (.inr rfl) (by omega) ?_
  rw [show M1 0 (i + 5).toNat = x5 from (hc0 _).trans hx5.symm]
  show zG n (114, 4080270) 300 311 (1776, [zR 0, zR 8, zR 97, .inl i], [.inl x5, .inl x4, .inl x3, .inl x2, .inl x1, zR 97, .inl v1]) M1 _
  refine zG_blk (c' := (1781, [zR 0, zR 8, zR 97, .inl i], [.inl (i + 6), zR 0, .inl x5, .inl x4, .inl x3, .inl x2, .inl x1, zR 97, .inl v1])) 4 (by decide) hz (zsteps_seg hg (by rw [show (.inl (i + 6) : zV) = .inl (w32 (i + 6)) from by rw [w32_id (by omega)]]; rfl)) ?_
  refine zG_iald (by decide) hz (hg _ _ rfl) rfl (.inr rfl) (by omega) ?_
  rw [show M1 0 (i + 6).toNat = x6 from (hc0 _).trans hx6.symm]
  show zG n (114, 4080270) 300 311 (1782, [zR 0, zR 8, zR 97, .inl i], [.inl x6, .inl x5, .inl x4, .inl x3, .inl x2, .inl x1, zR 97, .inl v1]) M1 _
  refine zG_blk (c' := (1787, [zR 0, zR 8, zR 97, .inl i], [.inl (i + 7), zR 0, .inl x6, .inl x5, .inl x4, .inl x3, .inl x2, .inl x1, zR 97, .inl v1])) 4 (by decide) hz (zsteps_seg hg (by rw [show (.inl (i + 7) : zV) = .inl (w32 (i + 7)) from by rw [w32_id (by omega)]]; rfl)) ?_
  refine zG_iald (by decide) hz (hg _ _ rfl) rfl (.inr rfl) (by omega) ?_
  rw [show M1 0 (i + 7).toNat = x7 from (hc0 _).trans hx7.symm]
  show zG n (114, 4080270) 300 311 (1788, [zR 0, zR 8, zR 97, .inl i], [.inl x7, .inl x6, .inl x5, .inl x4, .inl x3, .inl x2, .inl x1, zR 97, .inl v1]) M1 _
  have hVt : wVt (wmL (M 98)) (wmT (M 98)) M1 := by have q := hUM1.2.2.2; rw [e98] at q; exact q
  refine zG_call (by decide) hz zp_270 (hg _ _ rfl) rfl (Nat.le_of_ble_eq_true rfl) ⟨Nat.le_of_ble_eq_true rfl, Nat.le_of_ble_eq_true rfl⟩ (zG.andH (qm_270_97 (by decide) hJM1.2.1 x1 (by omega) x2 (by omega) x3 (by omega) x4 (by omega) x5 (by omega) x6 (by omega) x7 (by omega)) (fh_270_97 hco.1 hco.2 hn0 hJM1.2.1 e98 (mH_of hjH hms) hVt x1 x2 x3 x4 x5 x6 x7 hPn)) (fun vr M2 hr => ?_)
  obtain ⟨⟨⟨hCM2, hFM2⟩, -⟩, v2, rfl, hv2, hV2⟩ := hr
  have hJM2 : qJ M2 := hJM1.mdl hCM2 hFM2 rfl (by decide) (fun j _ => hFM2.ar 98 j (by decide) (by decide))
  have hXM2 : qX M2 := hXM1.mdl hFM2 rfl
  have hUM2 : qU M2 := hUM1.vt (hFM2.fn 98 (by decide) (by decide)) (hFM2.fn 99 (by decide) (by decide)) (hFM2.fn 100 (by decide) (by decide)) (by rw [e98]; exact hV2)
  show zG n (114, 4080270) 300 311 (1791, [zR 0, zR 8, zR 97, .inl i], [.inl v2, .inl v1]) M2 _
  refine zG_icmp_eq (by decide) hz (hg _ _ rfl) (fun _ => ?_) (fun hne => absurd (wWt9_e hv1 hv2) hne)
  exact K M2 ⟨hJM2, hXM2, hUM2⟩
noncomputable def sg_34 : List zE := [(1796, .aload_n ⟨1, zfin1⟩, 1797, zx0),
  (1797, .aload_n ⟨0, zfin0⟩, 1798, zx0),
  (1798, .iload_n ⟨3, zfin3⟩, 1799, zx0),
  (1799, .iconst 1, 1800, zx0),
  (1800, .iadd, 1801, zx0),
  (1801, .iaload, 1802, zx0),
  (1802, .aload_n ⟨0, zfin0⟩, 1803, zx0),
  (1803, .iload_n ⟨3, zfin3⟩, 1804, zx0),
  (1804, .iconst 2, 1805, zx0),
  (1805, .iadd, 1806, zx0),
  (1806, .iaload, 1807, zx0),
  (1807, .aload_n ⟨0, zfin0⟩, 1808, zx0),
  (1808, .iload_n ⟨3, zfin3⟩, 1809, zx0),
  (1809, .iconst 3, 1810, zx0),
  (1810, .iadd, 1811, zx0),
  (1811, .iaload, 1812, zx0),
  (1812, .ifCond .eq (7), 1815, (1819, 0, 0, [])),
  (1815, .iconst 1, 1816, zx0),
  (1816, .goto (4), 1819, (1820, 0, 0, [])),
  (1819, .iconst 0, 1820, zx0),
  (1820, .invokevirtual 160, 1823, (157, 4, 0, [11])),
  (1823, .pop, 1824, zx0),
  (1824, .aload_n ⟨2, zfin2⟩, 1825, zx0),
  (1825, .aload_n ⟨0, zfin0⟩, 1826, zx0),
  (1826, .iload_n ⟨3, zfin3⟩, 1827, zx0),
  (1827, .iconst 1, 1828, zx0),
  (1828, .iadd, 1829, zx0),
  (1829, .iaload, 1830, zx0),
  (1830, .aload_n ⟨0, zfin0⟩, 1831, zx0),
  (1831, .iload_n ⟨3, zfin3⟩, 1832, zx0),
  (1832, .iconst 2, 1833, zx0),
  (1833, .iadd, 1834, zx0),
  (1834, .iaload, 1835, zx0),
  (1835, .aload_n ⟨0, zfin0⟩, 1836, zx0),
  (1836, .iload_n ⟨3, zfin3⟩, 1837, zx0),
  (1837, .iconst 3, 1838, zx0),
  (1838, .iadd, 1839, zx0),
  (1839, .iaload, 1840, zx0),
  (1840, .ifCond .eq (7), 1843, (1847, 0, 0, [])),
  (1843, .iconst 1, 1844, zx0),
  (1844, .goto (4), 1847, (1848, 0, 0, [])),
  (1847, .iconst 0, 1848, zx0),
  (1848, .invokevirtual 164, 1851, (271, 4, 0, [12])),
  (1851, .pop, 1852, zx0),
  (1852, .goto (306), 1855, (2158, 0, 0, []))]
set_option maxRecDepth 100000 in
theorem sh_34 : zSeg zk_L_law sg_34 := zSeg_of 1356 45 1796 (by decide +kernel) rfl (by decide +kernel)
set_option maxRecDepth 100000 in
theorem qL_34 (hY : qY M) (hn : n ≤ 4096) (hi : 0 ≤ i ∧ i + 8 ≤ n) (K : ∀ M', qY M' → zG n (114, 4080270) 300 311 (2158, [zR 0, zR 8, zR 97, .inl i], []) M' qLQ) : zG n (114, 4080270) 300 311 (1796, [zR 0, zR 8, zR 97, .inl i], []) M qLQ := by
  have hz := zp_311
  have hg := sh_34
  have hJ := hY.1
  have hX := hY.2.1
  have hU := hY.2.2
  refine zG_blk (c' := (1801, [zR 0, zR 8, zR 97, .inl i], [.inl (i + 1), zR 0, zR 8])) 5 (by decide) hz (zsteps_seg hg (by rw [show (.inl (i + 1) : zV) = .inl (w32 (i + 1)) from by rw [w32_id (by omega)]]; rfl)) ?_
  refine zG_iald (by decide) hz (hg _ _ rfl) rfl (.inr rfl) (by omega) ?_
  obtain ⟨x1, hx1⟩ : ∃ x : Int, x = M 0 (i + 1).toNat := ⟨_, rfl⟩
  rw [← hx1]
  have hr1 : qin x1 := by rw [hx1]; exact hJ.1.rng 0 _ (by decide) (by decide)
  show zG n (114, 4080270) 300 311 (1802, [zR 0, zR 8, zR 97, .inl i], [.inl x1, zR 8]) M _
  refine zG_blk (c' := (1806, [zR 0, zR 8, zR 97, .inl i], [.inl (i + 2), zR 0, .inl x1, zR 8])) 4 (by decide) hz (zsteps_seg hg (by rw [show (.inl (i + 2) : zV) = .inl (w32 (i + 2)) from by rw [w32_id (by omega)]]; rfl)) ?_
  refine zG_iald (by decide) hz (hg _ _ rfl) rfl (.inr rfl) (by omega) ?_
  obtain ⟨x2, hx2⟩ : ∃ x : Int, x = M 0 (i + 2).toNat := ⟨_, rfl⟩
  rw [← hx2]
  have hr2 : qin x2 := by rw [hx2]; exact hJ.1.rng 0 _ (by decide) (by decide)
  show zG n (114, 4080270) 300 311 (1807, [zR 0, zR 8, zR 97, .inl i], [.inl x2, .inl x1, zR 8]) M _
  refine zG_blk (c' := (1811, [zR 0, zR 8, zR 97, .inl i], [.inl (i + 3), zR 0, .inl x2, .inl x1, zR 8])) 4 (by decide) hz (zsteps_seg hg (by rw [show (.inl (i + 3) : zV) = .inl (w32 (i + 3)) from by rw [w32_id (by omega)]]; rfl)) ?_
  refine zG_iald (by decide) hz (hg _ _ rfl) rfl (.inr rfl) (by omega) ?_
  obtain ⟨x3, hx3⟩ : ∃ x : Int, x = M 0 (i + 3).toNat := ⟨_, rfl⟩
  rw [← hx3]
  have hr3 : qin x3 := by rw [hx3]; exact hJ.1.rng 0 _ (by decide) (by decide)
  show zG n (114, 4080270) 300 311 (1812, [zR 0, zR 8, zR 97, .inl i], [.inl x3, .inl x2, .inl x1, zR 8]) M _
  have j1820 : ∀ b1812 : Int, ((x3 = 0 ∧ b1812 = 0) ∨ (¬ x3 = 0 ∧ b1812 = 1)) → zG n (114, 4080270) 300 311 (1820, [zR 0, zR 8, zR 97, .inl i], [.inl b1812, .inl x2, .inl x1, zR 8]) M qLQ := by
    intro b1812 hb1812
    refine zG_call (by decide) hz zp_157 (hg _ _ rfl) rfl (Nat.le_of_ble_eq_true rfl) ⟨Nat.le_of_ble_eq_true rfl, Nat.le_of_ble_eq_true rfl⟩ (zG.andH (qm_157_8 (by decide) hJ.1 x1 (by omega) x2 (by omega) b1812 (by omega)) (fh_157_8 x1 x2 b1812)) (fun vr M1 hr => ?_)
    obtain ⟨⟨⟨hC1, hF1⟩, -⟩, rfl, hM1⟩ := hr
    have hi := hF1.hi rfl
    have hI := hJ.2.1.same hi
    have hc0 : ∀ j, M1 0 j = M 0 j := fun j => hF1 0 j (by decide)
    have hX1 : qX M1 := hX.cls hF1 rfl; have hU1 : qU M1 := hU.cg (hF1.hi rfl)
    show zG n (114, 4080270) 300 311 (1823, [zR 0, zR 8, zR 97, .inl i], [.inl (hf_157_8 M x1 x2 b1812).1]) M1 _
    refine zG_blk (c' := (1829, [zR 0, zR 8, zR 97, .inl i], [.inl (i + 1), zR 0, zR 97])) 6 (by decide) hz (zsteps_seg hg (by rw [show (.inl (i + 1) : zV) = .inl (w32 (i + 1)) from by rw [w32_id (by omega)]]; rfl)) ?_
    refine zG_iald (by decide) hz (hg _ _ rfl) rfl (.inr rfl) (by omega) ?_
    rw [show M1 0 (i + 1).toNat = x1 from (hc0 _).trans hx1.symm]
    show zG n (114, 4080270) 300 311 (1830, [zR 0, zR 8, zR 97, .inl i], [.inl x1, zR 97]) M1 _
    refine zG_blk (c' := (1834, [zR 0, zR 8, zR 97, .inl i], [.inl (i + 2), zR 0, .inl x1, zR 97])) 4 (by decide) hz (zsteps_seg hg (by rw [show (.inl (i + 2) : zV) = .inl (w32 (i + 2)) from by rw [w32_id (by omega)]]; rfl)) ?_
    refine zG_iald (by decide) hz (hg _ _ rfl) rfl (.inr rfl) (by omega) ?_
    rw [show M1 0 (i + 2).toNat = x2 from (hc0 _).trans hx2.symm]
    show zG n (114, 4080270) 300 311 (1835, [zR 0, zR 8, zR 97, .inl i], [.inl x2, .inl x1, zR 97]) M1 _
    refine zG_blk (c' := (1839, [zR 0, zR 8, zR 97, .inl i], [.inl (i + 3), zR 0, .inl x2, .inl x1, zR 97])) 4 (by decide) hz (zsteps_seg hg (by rw [show (.inl (i + 3) : zV) = .inl (w32 (i + 3)) from by rw [w32_id (by omega)]]; rfl)) ?_
    refine zG_iald (by decide) hz (hg _ _ rfl) rfl (.inr rfl) (by omega) ?_
    rw [show M1 0 (i + 3).toNat = x3 from (hc0 _).trans hx3.symm]
    show zG n (114, 4080270) 300 311 (1840, [zR 0, zR 8, zR 97, .inl i], [.inl x3, .inl x2, .inl x1, zR 97]) M1 _
    have j1848 : zG n (114, 4080270) 300 311 (1848, [zR 0, zR 8, zR 97, .inl i], [.inl b1812, .inl x2, .inl x1, zR 97]) M1 qLQ := by
      refine zG_call (by decide) hz zp_271 (hg _ _ rfl) rfl (Nat.le_of_ble_eq_true rfl) ⟨Nat.le_of_ble_eq_true rfl, Nat.le_of_ble_eq_true rfl⟩ (zG.andH (qm_271_97 (by decide) hI x1 (by omega) x2 (by omega) b1812 (by omega)) (fh_271_97 x1 x2 b1812)) (fun vr M2 hr => ?_)
      obtain ⟨⟨⟨hC2, hF2⟩, -⟩, rfl, hM2⟩ := hr
      have hm := hm_157 hJ.2.2.1 hJ.1.tb hJ.2.1.bd (a1 := x1) (a2 := x2) (a3 := b1812) (by omega)
      rw [← hM1] at hm
      rw [← hM2] at hm
      have hJ2 : qJ M2 := hJ.mut hC1 hF1 rfl rfl hC2 hF2 rfl (by decide) hm.2
      have hX2 : qX M2 := hX1.mdl hF2 rfl
      have hU2 : qU M2 := hU1.f9 (wSm.mut hJ.2.2.1 hJ2.2.2.1 hJ.2.1.cnt0 hF1 rfl (hF2.lo rfl)) hF2 rfl
      show zG n (114, 4080270) 300 311 (1851, [zR 0, zR 8, zR 97, .inl i], [.inl (hf_271_97 M1 x1 x2 b1812).1]) M2 _
      refine zG_blk (c' := (2158, [zR 0, zR 8, zR 97, .inl i], [])) 2 (by decide) hz (zsteps_seg hg rfl) ?_
      exact K M2 ⟨hJ2, hX2, hU2⟩
    refine zG_if_eq (by decide) hz (hg _ _ rfl) (fun hb => ?_) (fun hb => ?_)
    · exact zG_blk (c' := (1848, [zR 0, zR 8, zR 97, .inl i], [.inl b1812, .inl x2, .inl x1, zR 97])) 1 (by decide) hz (zsteps_seg hg (by rw [show b1812 = 0 by omega]; rfl)) j1848
    · exact zG_blk (c' := (1848, [zR 0, zR 8, zR 97, .inl i], [.inl b1812, .inl x2, .inl x1, zR 97])) 2 (by decide) hz (zsteps_seg hg (by rw [show b1812 = 1 by omega]; rfl)) j1848
  refine zG_if_eq (by decide) hz (hg _ _ rfl) (fun hb => ?_) (fun hb => ?_)
  · exact zG_blk (c' := (1820, [zR 0, zR 8, zR 97, .inl i], [.inl 0, .inl x2, .inl x1, zR 8])) 1 (by decide) hz (zsteps_seg hg rfl) (j1820 0 (.inl ⟨hb, rfl⟩))
  · exact zG_blk (c' := (1820, [zR 0, zR 8, zR 97, .inl i], [.inl 1, .inl x2, .inl x1, zR 8])) 2 (by decide) hz (zsteps_seg hg rfl) (j1820 1 (.inr ⟨hb, rfl⟩))
noncomputable def sg_35 : List zE := [(1855, .aload_n ⟨1, zfin1⟩, 1856, zx0),
  (1856, .aload_n ⟨0, zfin0⟩, 1857, zx0),
  (1857, .iload_n ⟨3, zfin3⟩, 1858, zx0),
  (1858, .iconst 1, 1859, zx0),
  (1859, .iadd, 1860, zx0),
  (1860, .iaload, 1861, zx0),
  (1861, .aload_n ⟨0, zfin0⟩, 1862, zx0),
  (1862, .iload_n ⟨3, zfin3⟩, 1863, zx0),
  (1863, .iconst 2, 1864, zx0),
  (1864, .iadd, 1865, zx0),
  (1865, .iaload, 1866, zx0),
  (1866, .invokevirtual 165, 1869, (158, 3, 0, [11])),
  (1869, .pop, 1870, zx0),
  (1870, .aload_n ⟨2, zfin2⟩, 1871, zx0),
  (1871, .aload_n ⟨0, zfin0⟩, 1872, zx0),
  (1872, .iload_n ⟨3, zfin3⟩, 1873, zx0),
  (1873, .iconst 1, 1874, zx0),
  (1874, .iadd, 1875, zx0),
  (1875, .iaload, 1876, zx0),
  (1876, .aload_n ⟨0, zfin0⟩, 1877, zx0),
  (1877, .iload_n ⟨3, zfin3⟩, 1878, zx0),
  (1878, .iconst 2, 1879, zx0),
  (1879, .iadd, 1880, zx0),
  (1880, .iaload, 1881, zx0),
  (1881, .invokevirtual 168, 1884, (278, 3, 0, [12])),
  (1884, .pop, 1885, zx0),
  (1885, .goto (273), 1888, (2158, 0, 0, []))]
set_option maxRecDepth 100000 in
theorem sh_35 : zSeg zk_L_law sg_35 := zSeg_of 1401 27 1855 (by decide +kernel) rfl (by decide +kernel)
set_option maxRecDepth 100000 in
theorem qL_35 (hY : qY M) (hn : n ≤ 4096) (hi : 0 ≤ i ∧ i + 8 ≤ n) (K : ∀ M', qY M' → zG n (114, 4080270) 300 311 (2158, [zR 0, zR 8, zR 97, .inl i], []) M' qLQ) : zG n (114, 4080270) 300 311 (1855, [zR 0, zR 8, zR 97, .inl i], []) M qLQ := by
  have hz := zp_311
  have hg := sh_35
  have hJ := hY.1
  have hX := hY.2.1
  have hU := hY.2.2
  refine zG_blk (c' := (1860, [zR 0, zR 8, zR 97, .inl i], [.inl (i + 1), zR 0, zR 8])) 5 (by decide) hz (zsteps_seg hg (by rw [show (.inl (i + 1) : zV) = .inl (w32 (i + 1)) from by rw [w32_id (by omega)]]; rfl)) ?_
  refine zG_iald (by decide) hz (hg _ _ rfl) rfl (.inr rfl) (by omega) ?_
  obtain ⟨x1, hx1⟩ : ∃ x : Int, x = M 0 (i + 1).toNat := ⟨_, rfl⟩
  rw [← hx1]
  have hr1 : qin x1 := by rw [hx1]; exact hJ.1.rng 0 _ (by decide) (by decide)
  show zG n (114, 4080270) 300 311 (1861, [zR 0, zR 8, zR 97, .inl i], [.inl x1, zR 8]) M _
  refine zG_blk (c' := (1865, [zR 0, zR 8, zR 97, .inl i], [.inl (i + 2), zR 0, .inl x1, zR 8])) 4 (by decide) hz (zsteps_seg hg (by rw [show (.inl (i + 2) : zV) = .inl (w32 (i + 2)) from by rw [w32_id (by omega)]]; rfl)) ?_
  refine zG_iald (by decide) hz (hg _ _ rfl) rfl (.inr rfl) (by omega) ?_
  obtain ⟨x2, hx2⟩ : ∃ x : Int, x = M 0 (i + 2).toNat := ⟨_, rfl⟩
  rw [← hx2]
  have hr2 : qin x2 := by rw [hx2]; exact hJ.1.rng 0 _ (by decide) (by decide)
  show zG n (114, 4080270) 300 311 (1866, [zR 0, zR 8, zR 97, .inl i], [.inl x2, .inl x1, zR 8]) M _
  refine zG_call (by decide) hz zp_158 (hg _ _ rfl) rfl (Nat.le_of_ble_eq_true rfl) ⟨Nat.le_of_ble_eq_true rfl, Nat.le_of_ble_eq_true rfl⟩ (qm_158_8 (by decide) hJ.1 x1 (by omega) x2 (by omega)) (fun vr M1 hr => ?_)
  obtain ⟨⟨hCM1, hFM1⟩, hr⟩ := hr
  have hJM1 : qJ M1 := hJ.cls hCM1 hFM1 rfl rfl
  have hXM1 : qX M1 := hX.cls hFM1 rfl; have hUM1 : qU M1 := hU.cg (hFM1.hi rfl)
  have hc0 : ∀ j, M1 0 j = M 0 j := fun j => hFM1 0 j (by decide)
  obtain ⟨r1, rfl, -⟩ := hr
  show zG n (114, 4080270) 300 311 (1869, [zR 0, zR 8, zR 97, .inl i], [.inl r1]) M1 _
  refine zG_blk (c' := (1875, [zR 0, zR 8, zR 97, .inl i], [.inl (i + 1), zR 0, zR 97])) 6 (by decide) hz (zsteps_seg hg (by rw [show (.inl (i + 1) : zV) = .inl (w32 (i + 1)) from by rw [w32_id (by omega)]]; rfl)) ?_
  refine zG_iald (by decide) hz (hg _ _ rfl) rfl (.inr rfl) (by omega) ?_
  rw [show M1 0 (i + 1).toNat = x1 from (hc0 _).trans hx1.symm]
  show zG n (114, 4080270) 300 311 (1876, [zR 0, zR 8, zR 97, .inl i], [.inl x1, zR 97]) M1 _
  refine zG_blk (c' := (1880, [zR 0, zR 8, zR 97, .inl i], [.inl (i + 2), zR 0, .inl x1, zR 97])) 4 (by decide) hz (zsteps_seg hg (by rw [show (.inl (i + 2) : zV) = .inl (w32 (i + 2)) from by rw [w32_id (by omega)]]; rfl)) ?_
  refine zG_iald (by decide) hz (hg _ _ rfl) rfl (.inr rfl) (by omega) ?_
  rw [show M1 0 (i + 2).toNat = x2 from (hc0 _).trans hx2.symm]
  show zG n (114, 4080270) 300 311 (1881, [zR 0, zR 8, zR 97, .inl i], [.inl x2, .inl x1, zR 97]) M1 _
  refine zG_call (by decide) hz zp_278 (hg _ _ rfl) rfl (Nat.le_of_ble_eq_true rfl) ⟨Nat.le_of_ble_eq_true rfl, Nat.le_of_ble_eq_true rfl⟩ (qm_278_97 (by decide) hJM1.2.1 x1 (by omega) x2 (by omega)) (fun vr M2 hr => ?_)
  obtain ⟨⟨hCM2, hFM2⟩, hr⟩ := hr
  have hJM2 : qJ M2 := hJM1.mdl hCM2 hFM2 rfl (by decide) (fun j _ => hFM2.ar 98 j (by decide) (by decide))
  have hXM2 : qX M2 := hXM1.mdl hFM2 rfl
  have hUM2 : qU M2 := hUM1.fr hJM1.2.1.cnt0 hFM2 rfl
  obtain ⟨r2, hv9⟩ := hr
  first | (obtain ⟨rfl, -⟩ := hv9) | (obtain rfl := hv9)
  show zG n (114, 4080270) 300 311 (1884, [zR 0, zR 8, zR 97, .inl i], [.inl r2]) M2 _
  refine zG_blk (c' := (2158, [zR 0, zR 8, zR 97, .inl i], [])) 2 (by decide) hz (zsteps_seg hg rfl) ?_
  exact K M2 ⟨hJM2, hXM2, hUM2⟩
noncomputable def sg_36 : List zE := [(1888, .aload_n ⟨1, zfin1⟩, 1889, zx0),
  (1889, .aload_n ⟨0, zfin0⟩, 1890, zx0),
  (1890, .iload_n ⟨3, zfin3⟩, 1891, zx0),
  (1891, .iconst 1, 1892, zx0),
  (1892, .iadd, 1893, zx0),
  (1893, .iaload, 1894, zx0),
  (1894, .aload_n ⟨0, zfin0⟩, 1895, zx0),
  (1895, .iload_n ⟨3, zfin3⟩, 1896, zx0),
  (1896, .iconst 2, 1897, zx0),
  (1897, .iadd, 1898, zx0),
  (1898, .iaload, 1899, zx0),
  (1899, .aload_n ⟨0, zfin0⟩, 1900, zx0),
  (1900, .iload_n ⟨3, zfin3⟩, 1901, zx0),
  (1901, .iconst 3, 1902, zx0),
  (1902, .iadd, 1903, zx0),
  (1903, .iaload, 1904, zx0),
  (1904, .invokevirtual 169, 1907, (159, 4, 0, [11])),
  (1907, .pop, 1908, zx0),
  (1908, .aload_n ⟨2, zfin2⟩, 1909, zx0),
  (1909, .aload_n ⟨0, zfin0⟩, 1910, zx0),
  (1910, .iload_n ⟨3, zfin3⟩, 1911, zx0),
  (1911, .iconst 1, 1912, zx0),
  (1912, .iadd, 1913, zx0),
  (1913, .iaload, 1914, zx0),
  (1914, .aload_n ⟨0, zfin0⟩, 1915, zx0),
  (1915, .iload_n ⟨3, zfin3⟩, 1916, zx0),
  (1916, .iconst 2, 1917, zx0),
  (1917, .iadd, 1918, zx0),
  (1918, .iaload, 1919, zx0),
  (1919, .aload_n ⟨0, zfin0⟩, 1920, zx0),
  (1920, .iload_n ⟨3, zfin3⟩, 1921, zx0),
  (1921, .iconst 3, 1922, zx0),
  (1922, .iadd, 1923, zx0),
  (1923, .iaload, 1924, zx0),
  (1924, .invokevirtual 172, 1927, (279, 4, 0, [12])),
  (1927, .pop, 1928, zx0),
  (1928, .goto (230), 1931, (2158, 0, 0, []))]
set_option maxRecDepth 100000 in
theorem sh_36 : zSeg zk_L_law sg_36 := zSeg_of 1428 37 1888 (by decide +kernel) rfl (by decide +kernel)
set_option maxRecDepth 100000 in
theorem qL_36 (hY : qY M) (hn : n ≤ 4096) (hi : 0 ≤ i ∧ i + 8 ≤ n) (K : ∀ M', qY M' → zG n (114, 4080270) 300 311 (2158, [zR 0, zR 8, zR 97, .inl i], []) M' qLQ) : zG n (114, 4080270) 300 311 (1888, [zR 0, zR 8, zR 97, .inl i], []) M qLQ := by
  have hz := zp_311
  have hg := sh_36
  have hJ := hY.1
  have hX := hY.2.1
  have hU := hY.2.2
  refine zG_blk (c' := (1893, [zR 0, zR 8, zR 97, .inl i], [.inl (i + 1), zR 0, zR 8])) 5 (by decide) hz (zsteps_seg hg (by rw [show (.inl (i + 1) : zV) = .inl (w32 (i + 1)) from by rw [w32_id (by omega)]]; rfl)) ?_
  refine zG_iald (by decide) hz (hg _ _ rfl) rfl (.inr rfl) (by omega) ?_
  obtain ⟨x1, hx1⟩ : ∃ x : Int, x = M 0 (i + 1).toNat := ⟨_, rfl⟩
  rw [← hx1]
  have hr1 : qin x1 := by rw [hx1]; exact hJ.1.rng 0 _ (by decide) (by decide)
  show zG n (114, 4080270) 300 311 (1894, [zR 0, zR 8, zR 97, .inl i], [.inl x1, zR 8]) M _
  refine zG_blk (c' := (1898, [zR 0, zR 8, zR 97, .inl i], [.inl (i + 2), zR 0, .inl x1, zR 8])) 4 (by decide) hz (zsteps_seg hg (by rw [show (.inl (i + 2) : zV) = .inl (w32 (i + 2)) from by rw [w32_id (by omega)]]; rfl)) ?_
  refine zG_iald (by decide) hz (hg _ _ rfl) rfl (.inr rfl) (by omega) ?_
  obtain ⟨x2, hx2⟩ : ∃ x : Int, x = M 0 (i + 2).toNat := ⟨_, rfl⟩
  rw [← hx2]
  have hr2 : qin x2 := by rw [hx2]; exact hJ.1.rng 0 _ (by decide) (by decide)
  show zG n (114, 4080270) 300 311 (1899, [zR 0, zR 8, zR 97, .inl i], [.inl x2, .inl x1, zR 8]) M _
  refine zG_blk (c' := (1903, [zR 0, zR 8, zR 97, .inl i], [.inl (i + 3), zR 0, .inl x2, .inl x1, zR 8])) 4 (by decide) hz (zsteps_seg hg (by rw [show (.inl (i + 3) : zV) = .inl (w32 (i + 3)) from by rw [w32_id (by omega)]]; rfl)) ?_
  refine zG_iald (by decide) hz (hg _ _ rfl) rfl (.inr rfl) (by omega) ?_
  obtain ⟨x3, hx3⟩ : ∃ x : Int, x = M 0 (i + 3).toNat := ⟨_, rfl⟩
  rw [← hx3]
  have hr3 : qin x3 := by rw [hx3]; exact hJ.1.rng 0 _ (by decide) (by decide)
  show zG n (114, 4080270) 300 311 (1904, [zR 0, zR 8, zR 97, .inl i], [.inl x3, .inl x2, .inl x1, zR 8]) M _
  refine zG_call (by decide) hz zp_159 (hg _ _ rfl) rfl (Nat.le_of_ble_eq_true rfl) ⟨Nat.le_of_ble_eq_true rfl, Nat.le_of_ble_eq_true rfl⟩ (qm_159_8 (by decide) hJ.1 x1 (by omega) x2 (by omega) x3 (by omega)) (fun vr M1 hr => ?_)
  obtain ⟨⟨hCM1, hFM1⟩, hr⟩ := hr
  have hJM1 : qJ M1 := hJ.cls hCM1 hFM1 rfl rfl
  have hXM1 : qX M1 := hX.cls hFM1 rfl; have hUM1 : qU M1 := hU.cg (hFM1.hi rfl)
  have hc0 : ∀ j, M1 0 j = M 0 j := fun j => hFM1 0 j (by decide)
  obtain ⟨r1, rfl, -⟩ := hr
  show zG n (114, 4080270) 300 311 (1907, [zR 0, zR 8, zR 97, .inl i], [.inl r1]) M1 _
  refine zG_blk (c' := (1913, [zR 0, zR 8, zR 97, .inl i], [.inl (i + 1), zR 0, zR 97])) 6 (by decide) hz (zsteps_seg hg (by rw [show (.inl (i + 1) : zV) = .inl (w32 (i + 1)) from by rw [w32_id (by omega)]]; rfl)) ?_
  refine zG_iald (by decide) hz (hg _ _ rfl) rfl (.inr rfl) (by omega) ?_
  rw [show M1 0 (i + 1).toNat = x1 from (hc0 _).trans hx1.symm]
  show zG n (114, 4080270) 300 311 (1914, [zR 0, zR 8, zR 97, .inl i], [.inl x1, zR 97]) M1 _
  refine zG_blk (c' := (1918, [zR 0, zR 8, zR 97, .inl i], [.inl (i + 2), zR 0, .inl x1, zR 97])) 4 (by decide) hz (zsteps_seg hg (by rw [show (.inl (i + 2) : zV) = .inl (w32 (i + 2)) from by rw [w32_id (by omega)]]; rfl)) ?_
  refine zG_iald (by decide) hz (hg _ _ rfl) rfl (.inr rfl) (by omega) ?_
  rw [show M1 0 (i + 2).toNat = x2 from (hc0 _).trans hx2.symm]
  show zG n (114, 4080270) 300 311 (1919, [zR 0, zR 8, zR 97, .inl i], [.inl x2, .inl x1, zR 97]) M1 _
  refine zG_blk (c' := (1923, [zR 0, zR 8, zR 97, .inl i], [.inl (i + 3), zR 0, .inl x2, .inl x1, zR 97])) 4 (by decide) hz (zsteps_seg hg (by rw [show (.inl (i + 3) : zV) = .inl (w32 (i + 3)) from by rw [w32_id (by omega)]]; rfl)) ?_
  refine zG_iald (by decide) hz (hg _ _ rfl) rfl (.inr rfl) (by omega) ?_
  rw [show M1 0 (i + 3).toNat = x3 from (hc0 _).trans hx3.symm]
  show zG n (114, 4080270) 300 311 (1924, [zR 0, zR 8, zR 97, .inl i], [.inl x3, .inl x2, .inl x1, zR 97]) M1 _
  refine zG_call (by decide) hz zp_279 (hg _ _ rfl) rfl (Nat.le_of_ble_eq_true rfl) ⟨Nat.le_of_ble_eq_true rfl, Nat.le_of_ble_eq_true rfl⟩ (qm_279_97 (by decide) hJM1.2.1 x1 (by omega) x2 (by omega) x3 (by omega)) (fun vr M2 hr => ?_)
  obtain ⟨⟨hCM2, hFM2⟩, hr⟩ := hr
  have hJM2 : qJ M2 := hJM1.mdl hCM2 hFM2 rfl (by decide) (fun j _ => hFM2.ar 98 j (by decide) (by decide))
  have hXM2 : qX M2 := hXM1.mdl hFM2 rfl
  have hUM2 : qU M2 := hUM1.fr hJM1.2.1.cnt0 hFM2 rfl
  obtain ⟨r2, hv9⟩ := hr
  first | (obtain ⟨rfl, -⟩ := hv9) | (obtain rfl := hv9)
  show zG n (114, 4080270) 300 311 (1927, [zR 0, zR 8, zR 97, .inl i], [.inl r2]) M2 _
  refine zG_blk (c' := (2158, [zR 0, zR 8, zR 97, .inl i], [])) 2 (by decide) hz (zsteps_seg hg rfl) ?_
  exact K M2 ⟨hJM2, hXM2, hUM2⟩
noncomputable def sg_37 : List zE := [(1931, .aload_n ⟨1, zfin1⟩, 1932, zx0),
  (1932, .aload_n ⟨0, zfin0⟩, 1933, zx0),
  (1933, .iload_n ⟨3, zfin3⟩, 1934, zx0),
  (1934, .iconst 1, 1935, zx0),
  (1935, .iadd, 1936, zx0),
  (1936, .iaload, 1937, zx0),
  (1937, .aload_n ⟨0, zfin0⟩, 1938, zx0),
  (1938, .iload_n ⟨3, zfin3⟩, 1939, zx0),
  (1939, .iconst 2, 1940, zx0),
  (1940, .iadd, 1941, zx0),
  (1941, .iaload, 1942, zx0),
  (1942, .aload_n ⟨0, zfin0⟩, 1943, zx0),
  (1943, .iload_n ⟨3, zfin3⟩, 1944, zx0),
  (1944, .iconst 3, 1945, zx0),
  (1945, .iadd, 1946, zx0),
  (1946, .iaload, 1947, zx0),
  (1947, .invokevirtual 173, 1950, (160, 4, 0, [11])),
  (1950, .pop, 1951, zx0),
  (1951, .aload_n ⟨2, zfin2⟩, 1952, zx0),
  (1952, .aload_n ⟨0, zfin0⟩, 1953, zx0),
  (1953, .iload_n ⟨3, zfin3⟩, 1954, zx0),
  (1954, .iconst 1, 1955, zx0),
  (1955, .iadd, 1956, zx0),
  (1956, .iaload, 1957, zx0),
  (1957, .aload_n ⟨0, zfin0⟩, 1958, zx0),
  (1958, .iload_n ⟨3, zfin3⟩, 1959, zx0),
  (1959, .iconst 2, 1960, zx0),
  (1960, .iadd, 1961, zx0),
  (1961, .iaload, 1962, zx0),
  (1962, .aload_n ⟨0, zfin0⟩, 1963, zx0),
  (1963, .iload_n ⟨3, zfin3⟩, 1964, zx0),
  (1964, .iconst 3, 1965, zx0),
  (1965, .iadd, 1966, zx0),
  (1966, .iaload, 1967, zx0),
  (1967, .invokevirtual 176, 1970, (284, 4, 0, [12])),
  (1970, .pop, 1971, zx0),
  (1971, .goto (187), 1974, (2158, 0, 0, []))]
set_option maxRecDepth 100000 in
theorem sh_37 : zSeg zk_L_law sg_37 := zSeg_of 1465 37 1931 (by decide +kernel) rfl (by decide +kernel)
set_option maxRecDepth 100000 in
theorem qL_37 (hY : qY M) (hn : n ≤ 4096) (hi : 0 ≤ i ∧ i + 8 ≤ n) (K : ∀ M', qY M' → zG n (114, 4080270) 300 311 (2158, [zR 0, zR 8, zR 97, .inl i], []) M' qLQ) : zG n (114, 4080270) 300 311 (1931, [zR 0, zR 8, zR 97, .inl i], []) M qLQ := by
  have hz := zp_311
  have hg := sh_37
  have hJ := hY.1
  have hX := hY.2.1
  have hU := hY.2.2
  refine zG_blk (c' := (1936, [zR 0, zR 8, zR 97, .inl i], [.inl (i + 1), zR 0, zR 8])) 5 (by decide) hz (zsteps_seg hg (by rw [show (.inl (i + 1) : zV) = .inl (w32 (i + 1)) from by rw [w32_id (by omega)]]; rfl)) ?_
  refine zG_iald (by decide) hz (hg _ _ rfl) rfl (.inr rfl) (by omega) ?_
  obtain ⟨x1, hx1⟩ : ∃ x : Int, x = M 0 (i + 1).toNat := ⟨_, rfl⟩
  rw [← hx1]
  have hr1 : qin x1 := by rw [hx1]; exact hJ.1.rng 0 _ (by decide) (by decide)
  show zG n (114, 4080270) 300 311 (1937, [zR 0, zR 8, zR 97, .inl i], [.inl x1, zR 8]) M _
  refine zG_blk (c' := (1941, [zR 0, zR 8, zR 97, .inl i], [.inl (i + 2), zR 0, .inl x1, zR 8])) 4 (by decide) hz (zsteps_seg hg (by rw [show (.inl (i + 2) : zV) = .inl (w32 (i + 2)) from by rw [w32_id (by omega)]]; rfl)) ?_
  refine zG_iald (by decide) hz (hg _ _ rfl) rfl (.inr rfl) (by omega) ?_
  obtain ⟨x2, hx2⟩ : ∃ x : Int, x = M 0 (i + 2).toNat := ⟨_, rfl⟩
  rw [← hx2]
  have hr2 : qin x2 := by rw [hx2]; exact hJ.1.rng 0 _ (by decide) (by decide)
  show zG n (114, 4080270) 300 311 (1942, [zR 0, zR 8, zR 97, .inl i], [.inl x2, .inl x1, zR 8]) M _
  refine zG_blk (c' := (1946, [zR 0, zR 8, zR 97, .inl i], [.inl (i + 3), zR 0, .inl x2, .inl x1, zR 8])) 4 (by decide) hz (zsteps_seg hg (by rw [show (.inl (i + 3) : zV) = .inl (w32 (i + 3)) from by rw [w32_id (by omega)]]; rfl)) ?_
  refine zG_iald (by decide) hz (hg _ _ rfl) rfl (.inr rfl) (by omega) ?_
  obtain ⟨x3, hx3⟩ : ∃ x : Int, x = M 0 (i + 3).toNat := ⟨_, rfl⟩
  rw [← hx3]
  have hr3 : qin x3 := by rw [hx3]; exact hJ.1.rng 0 _ (by decide) (by decide)
  show zG n (114, 4080270) 300 311 (1947, [zR 0, zR 8, zR 97, .inl i], [.inl x3, .inl x2, .inl x1, zR 8]) M _
  refine zG_call (by decide) hz zp_160 (hg _ _ rfl) rfl (Nat.le_of_ble_eq_true rfl) ⟨Nat.le_of_ble_eq_true rfl, Nat.le_of_ble_eq_true rfl⟩ (qm_160_8 (by decide) hJ.1 x1 (by omega) x2 (by omega) x3 (by omega)) (fun vr M1 hr => ?_)
  obtain ⟨⟨hCM1, hFM1⟩, hr⟩ := hr
  have hJM1 : qJ M1 := hJ.cls hCM1 hFM1 rfl rfl
  have hXM1 : qX M1 := hX.cls hFM1 rfl; have hUM1 : qU M1 := hU.cg (hFM1.hi rfl)
  have hc0 : ∀ j, M1 0 j = M 0 j := fun j => hFM1 0 j (by decide)
  obtain ⟨r1, rfl, -⟩ := hr
  show zG n (114, 4080270) 300 311 (1950, [zR 0, zR 8, zR 97, .inl i], [.inl r1]) M1 _
  refine zG_blk (c' := (1956, [zR 0, zR 8, zR 97, .inl i], [.inl (i + 1), zR 0, zR 97])) 6 (by decide) hz (zsteps_seg hg (by rw [show (.inl (i + 1) : zV) = .inl (w32 (i + 1)) from by rw [w32_id (by omega)]]; rfl)) ?_
  refine zG_iald (by decide) hz (hg _ _ rfl) rfl (.inr rfl) (by omega) ?_
  rw [show M1 0 (i + 1).toNat = x1 from (hc0 _).trans hx1.symm]
  show zG n (114, 4080270) 300 311 (1957, [zR 0, zR 8, zR 97, .inl i], [.inl x1, zR 97]) M1 _
  refine zG_blk (c' := (1961, [zR 0, zR 8, zR 97, .inl i], [.inl (i + 2), zR 0, .inl x1, zR 97])) 4 (by decide) hz (zsteps_seg hg (by rw [show (.inl (i + 2) : zV) = .inl (w32 (i + 2)) from by rw [w32_id (by omega)]]; rfl)) ?_
  refine zG_iald (by decide) hz (hg _ _ rfl) rfl (.inr rfl) (by omega) ?_
  rw [show M1 0 (i + 2).toNat = x2 from (hc0 _).trans hx2.symm]
  show zG n (114, 4080270) 300 311 (1962, [zR 0, zR 8, zR 97, .inl i], [.inl x2, .inl x1, zR 97]) M1 _
  refine zG_blk (c' := (1966, [zR 0, zR 8, zR 97, .inl i], [.inl (i + 3), zR 0, .inl x2, .inl x1, zR 97])) 4 (by decide) hz (zsteps_seg hg (by rw [show (.inl (i + 3) : zV) = .inl (w32 (i + 3)) from by rw [w32_id (by omega)]]; rfl)) ?_
  refine zG_iald (by decide) hz (hg _ _ rfl) rfl (.inr rfl) (by omega) ?_
  rw [show M1 0 (i + 3).toNat = x3 from (hc0 _).trans hx3.symm]
  show zG n (114, 4080270) 300 311 (1967, [zR 0, zR 8, zR 97, .inl i], [.inl x3, .inl x2, .inl x1, zR 97]) M1 _
  refine zG_call (by decide) hz zp_284 (hg _ _ rfl) rfl (Nat.le_of_ble_eq_true rfl) ⟨Nat.le_of_ble_eq_true rfl, Nat.le_of_ble_eq_true rfl⟩ (qm_284_97 (by decide) hJM1.2.1 x1 (by omega) x2 (by omega) x3 (by omega)) (fun vr M2 hr => ?_)
  obtain ⟨⟨hCM2, hFM2⟩, hr⟩ := hr
  have hJM2 : qJ M2 := hJM1.mdl hCM2 hFM2 rfl (by decide) (fun j _ => hFM2.ar 98 j (by decide) (by decide))
  have hXM2 : qX M2 := hXM1.mdl hFM2 rfl
  have hUM2 : qU M2 := hUM1.fr hJM1.2.1.cnt0 hFM2 rfl
  obtain ⟨r2, hv9⟩ := hr
  first | (obtain ⟨rfl, -⟩ := hv9) | (obtain rfl := hv9)
  show zG n (114, 4080270) 300 311 (1970, [zR 0, zR 8, zR 97, .inl i], [.inl r2]) M2 _
  refine zG_blk (c' := (2158, [zR 0, zR 8, zR 97, .inl i], [])) 2 (by decide) hz (zsteps_seg hg rfl) ?_
  exact K M2 ⟨hJM2, hXM2, hUM2⟩
noncomputable def sg_38 : List zE := [(1974, .aload_n ⟨1, zfin1⟩, 1975, zx0),
  (1975, .aload_n ⟨0, zfin0⟩, 1976, zx0),
  (1976, .iload_n ⟨3, zfin3⟩, 1977, zx0),
  (1977, .iconst 1, 1978, zx0),
  (1978, .iadd, 1979, zx0),
  (1979, .iaload, 1980, zx0),
  (1980, .invokevirtual 177, 1983, (161, 2, 0, [11])),
  (1983, .pop, 1984, zx0),
  (1984, .aload_n ⟨2, zfin2⟩, 1985, zx0),
  (1985, .aload_n ⟨0, zfin0⟩, 1986, zx0),
  (1986, .iload_n ⟨3, zfin3⟩, 1987, zx0),
  (1987, .iconst 1, 1988, zx0),
  (1988, .iadd, 1989, zx0),
  (1989, .iaload, 1990, zx0),
  (1990, .invokevirtual 180, 1993, (285, 2, 0, [12])),
  (1993, .pop, 1994, zx0),
  (1994, .goto (164), 1997, (2158, 0, 0, []))]
set_option maxRecDepth 100000 in
theorem sh_38 : zSeg zk_L_law sg_38 := zSeg_of 1502 17 1974 (by decide +kernel) rfl (by decide +kernel)
set_option maxRecDepth 100000 in
theorem qL_38 (hY : qY M) (hn : n ≤ 4096) (hi : 0 ≤ i ∧ i + 8 ≤ n) (K : ∀ M', qY M' → zG n (114, 4080270) 300 311 (2158, [zR 0, zR 8, zR 97, .inl i], []) M' qLQ) : zG n (114, 4080270) 300 311 (1974, [zR 0, zR 8, zR 97, .inl i], []) M qLQ := by
  have hz := zp_311
  have hg := sh_38
  have hJ := hY.1
  have hX := hY.2.1
  have hU := hY.2.2
  refine zG_blk (c' := (1979, [zR 0, zR 8, zR 97, .inl i], [.inl (i + 1), zR 0, zR 8])) 5 (by decide) hz (zsteps_seg hg (by rw [show (.inl (i + 1) : zV) = .inl (w32 (i + 1)) from by rw [w32_id (by omega)]]; rfl)) ?_
  refine zG_iald (by decide) hz (hg _ _ rfl) rfl (.inr rfl) (by omega) ?_
  obtain ⟨x1, hx1⟩ : ∃ x : Int, x = M 0 (i + 1).toNat := ⟨_, rfl⟩
  rw [← hx1]
  have hr1 : qin x1 := by rw [hx1]; exact hJ.1.rng 0 _ (by decide) (by decide)
  show zG n (114, 4080270) 300 311 (1980, [zR 0, zR 8, zR 97, .inl i], [.inl x1, zR 8]) M _
  refine zG_call (by decide) hz zp_161 (hg _ _ rfl) rfl (Nat.le_of_ble_eq_true rfl) ⟨Nat.le_of_ble_eq_true rfl, Nat.le_of_ble_eq_true rfl⟩ (zG.andH (qm_161_8 (by decide) hJ.1 x1 (by omega)) (fh_161_8 x1)) (fun vr M1 hr => ?_)
  obtain ⟨⟨⟨hC1, hF1⟩, -⟩, rfl, hM1⟩ := hr
  have hi := hF1.hi rfl
  have hI := hJ.2.1.same hi
  have hc0 : ∀ j, M1 0 j = M 0 j := fun j => hF1 0 j (by decide)
  have hX1 : qX M1 := hX.cls hF1 rfl; have hU1 : qU M1 := hU.cg (hF1.hi rfl)
  show zG n (114, 4080270) 300 311 (1983, [zR 0, zR 8, zR 97, .inl i], [.inl (hf_161_8 M x1).1]) M1 _
  refine zG_blk (c' := (1989, [zR 0, zR 8, zR 97, .inl i], [.inl (i + 1), zR 0, zR 97])) 6 (by decide) hz (zsteps_seg hg (by rw [show (.inl (i + 1) : zV) = .inl (w32 (i + 1)) from by rw [w32_id (by omega)]]; rfl)) ?_
  refine zG_iald (by decide) hz (hg _ _ rfl) rfl (.inr rfl) (by omega) ?_
  rw [show M1 0 (i + 1).toNat = x1 from (hc0 _).trans hx1.symm]
  show zG n (114, 4080270) 300 311 (1990, [zR 0, zR 8, zR 97, .inl i], [.inl x1, zR 97]) M1 _
  refine zG_call (by decide) hz zp_285 (hg _ _ rfl) rfl (Nat.le_of_ble_eq_true rfl) ⟨Nat.le_of_ble_eq_true rfl, Nat.le_of_ble_eq_true rfl⟩ (zG.andH (qm_285_97 (by decide) hI x1 (by omega)) (fh_285_97 x1)) (fun vr M2 hr => ?_)
  obtain ⟨⟨⟨hC2, hF2⟩, -⟩, rfl, hM2⟩ := hr
  have hm := hm_161 hJ.2.2.1 hJ.1.tb hJ.2.1.bd (a1 := x1)
  rw [← hM1] at hm
  rw [← hM2] at hm
  have hJ2 : qJ M2 := hJ.mut hC1 hF1 rfl rfl hC2 hF2 rfl (by decide) hm.2
  have hX2 : qX M2 := hX1.mdl hF2 rfl
  have hU2 : qU M2 := hU1.f9 (wSm.mut hJ.2.2.1 hJ2.2.2.1 hJ.2.1.cnt0 hF1 rfl (hF2.lo rfl)) hF2 rfl
  show zG n (114, 4080270) 300 311 (1993, [zR 0, zR 8, zR 97, .inl i], [.inl (hf_285_97 M1 x1).1]) M2 _
  refine zG_blk (c' := (2158, [zR 0, zR 8, zR 97, .inl i], [])) 2 (by decide) hz (zsteps_seg hg rfl) ?_
  exact K M2 ⟨hJ2, hX2, hU2⟩
noncomputable def sg_39 : List zE := [(1997, .aload_n ⟨1, zfin1⟩, 1998, zx0),
  (1998, .aload_n ⟨0, zfin0⟩, 1999, zx0),
  (1999, .iload_n ⟨3, zfin3⟩, 2000, zx0),
  (2000, .iconst 1, 2001, zx0),
  (2001, .iadd, 2002, zx0),
  (2002, .iaload, 2003, zx0),
  (2003, .aload_n ⟨0, zfin0⟩, 2004, zx0),
  (2004, .iload_n ⟨3, zfin3⟩, 2005, zx0),
  (2005, .iconst 2, 2006, zx0),
  (2006, .iadd, 2007, zx0),
  (2007, .iaload, 2008, zx0),
  (2008, .invokevirtual 181, 2011, (162, 3, 0, [11])),
  (2011, .pop, 2012, zx0),
  (2012, .aload_n ⟨2, zfin2⟩, 2013, zx0),
  (2013, .aload_n ⟨0, zfin0⟩, 2014, zx0),
  (2014, .iload_n ⟨3, zfin3⟩, 2015, zx0),
  (2015, .iconst 1, 2016, zx0),
  (2016, .iadd, 2017, zx0),
  (2017, .iaload, 2018, zx0),
  (2018, .aload_n ⟨0, zfin0⟩, 2019, zx0),
  (2019, .iload_n ⟨3, zfin3⟩, 2020, zx0),
  (2020, .iconst 2, 2021, zx0),
  (2021, .iadd, 2022, zx0),
  (2022, .iaload, 2023, zx0),
  (2023, .invokevirtual 184, 2026, (286, 3, 0, [12])),
  (2026, .pop, 2027, zx0),
  (2027, .goto (131), 2030, (2158, 0, 0, []))]
set_option maxRecDepth 100000 in
theorem sh_39 : zSeg zk_L_law sg_39 := zSeg_of 1519 27 1997 (by decide +kernel) rfl (by decide +kernel)
set_option maxRecDepth 100000 in
theorem qL_39 (hY : qY M) (hn : n ≤ 4096) (hi : 0 ≤ i ∧ i + 8 ≤ n) (K : ∀ M', qY M' → zG n (114, 4080270) 300 311 (2158, [zR 0, zR 8, zR 97, .inl i], []) M' qLQ) : zG n (114, 4080270) 300 311 (1997, [zR 0, zR 8, zR 97, .inl i], []) M qLQ := by
  have hz := zp_311
  have hg := sh_39
  have hJ := hY.1
  have hX := hY.2.1
  have hU := hY.2.2
  refine zG_blk (c' := (2002, [zR 0, zR 8, zR 97, .inl i], [.inl (i + 1), zR 0, zR 8])) 5 (by decide) hz (zsteps_seg hg (by rw [show (.inl (i + 1) : zV) = .inl (w32 (i + 1)) from by rw [w32_id (by omega)]]; rfl)) ?_
  refine zG_iald (by decide) hz (hg _ _ rfl) rfl (.inr rfl) (by omega) ?_
  obtain ⟨x1, hx1⟩ : ∃ x : Int, x = M 0 (i + 1).toNat := ⟨_, rfl⟩
  rw [← hx1]
  have hr1 : qin x1 := by rw [hx1]; exact hJ.1.rng 0 _ (by decide) (by decide)
  show zG n (114, 4080270) 300 311 (2003, [zR 0, zR 8, zR 97, .inl i], [.inl x1, zR 8]) M _
  refine zG_blk (c' := (2007, [zR 0, zR 8, zR 97, .inl i], [.inl (i + 2), zR 0, .inl x1, zR 8])) 4 (by decide) hz (zsteps_seg hg (by rw [show (.inl (i + 2) : zV) = .inl (w32 (i + 2)) from by rw [w32_id (by omega)]]; rfl)) ?_
  refine zG_iald (by decide) hz (hg _ _ rfl) rfl (.inr rfl) (by omega) ?_
  obtain ⟨x2, hx2⟩ : ∃ x : Int, x = M 0 (i + 2).toNat := ⟨_, rfl⟩
  rw [← hx2]
  have hr2 : qin x2 := by rw [hx2]; exact hJ.1.rng 0 _ (by decide) (by decide)
  show zG n (114, 4080270) 300 311 (2008, [zR 0, zR 8, zR 97, .inl i], [.inl x2, .inl x1, zR 8]) M _
  refine zG_call (by decide) hz zp_162 (hg _ _ rfl) rfl (Nat.le_of_ble_eq_true rfl) ⟨Nat.le_of_ble_eq_true rfl, Nat.le_of_ble_eq_true rfl⟩ (zG.andH (qm_162_8 (by decide) hJ.1 x1 (by omega) x2 (by omega)) (fh_162_8 x1 x2)) (fun vr M1 hr => ?_)
  obtain ⟨⟨⟨hC1, hF1⟩, -⟩, rfl, hM1⟩ := hr
  have hi := hF1.hi rfl
  have hI := hJ.2.1.same hi
  have hc0 : ∀ j, M1 0 j = M 0 j := fun j => hF1 0 j (by decide)
  have hX1 : qX M1 := hX.cls hF1 rfl; have hU1 : qU M1 := hU.cg (hF1.hi rfl)
  show zG n (114, 4080270) 300 311 (2011, [zR 0, zR 8, zR 97, .inl i], [.inl (hf_162_8 M x1 x2).1]) M1 _
  refine zG_blk (c' := (2017, [zR 0, zR 8, zR 97, .inl i], [.inl (i + 1), zR 0, zR 97])) 6 (by decide) hz (zsteps_seg hg (by rw [show (.inl (i + 1) : zV) = .inl (w32 (i + 1)) from by rw [w32_id (by omega)]]; rfl)) ?_
  refine zG_iald (by decide) hz (hg _ _ rfl) rfl (.inr rfl) (by omega) ?_
  rw [show M1 0 (i + 1).toNat = x1 from (hc0 _).trans hx1.symm]
  show zG n (114, 4080270) 300 311 (2018, [zR 0, zR 8, zR 97, .inl i], [.inl x1, zR 97]) M1 _
  refine zG_blk (c' := (2022, [zR 0, zR 8, zR 97, .inl i], [.inl (i + 2), zR 0, .inl x1, zR 97])) 4 (by decide) hz (zsteps_seg hg (by rw [show (.inl (i + 2) : zV) = .inl (w32 (i + 2)) from by rw [w32_id (by omega)]]; rfl)) ?_
  refine zG_iald (by decide) hz (hg _ _ rfl) rfl (.inr rfl) (by omega) ?_
  rw [show M1 0 (i + 2).toNat = x2 from (hc0 _).trans hx2.symm]
  show zG n (114, 4080270) 300 311 (2023, [zR 0, zR 8, zR 97, .inl i], [.inl x2, .inl x1, zR 97]) M1 _
  refine zG_call (by decide) hz zp_286 (hg _ _ rfl) rfl (Nat.le_of_ble_eq_true rfl) ⟨Nat.le_of_ble_eq_true rfl, Nat.le_of_ble_eq_true rfl⟩ (zG.andH (qm_286_97 (by decide) hI x1 (by omega) x2 (by omega)) (fh_286_97 x1 x2)) (fun vr M2 hr => ?_)
  obtain ⟨⟨⟨hC2, hF2⟩, -⟩, rfl, hM2⟩ := hr
  have hm := hm_162 hJ.2.2.1 hJ.1.tb hJ.2.1.bd (a1 := x1) (a2 := x2)
  rw [← hM1] at hm
  rw [← hM2] at hm
  have hJ2 : qJ M2 := hJ.mut hC1 hF1 rfl rfl hC2 hF2 rfl (by decide) hm.2
  have hX2 : qX M2 := hX1.mdl hF2 rfl
  have hU2 : qU M2 := hU1.f9 (wSm.mut hJ.2.2.1 hJ2.2.2.1 hJ.2.1.cnt0 hF1 rfl (hF2.lo rfl)) hF2 rfl
  show zG n (114, 4080270) 300 311 (2026, [zR 0, zR 8, zR 97, .inl i], [.inl (hf_286_97 M1 x1 x2).1]) M2 _
  refine zG_blk (c' := (2158, [zR 0, zR 8, zR 97, .inl i], [])) 2 (by decide) hz (zsteps_seg hg rfl) ?_
  exact K M2 ⟨hJ2, hX2, hU2⟩
noncomputable def sg_40 : List zE := [(2030, .aload_n ⟨1, zfin1⟩, 2031, zx0),
  (2031, .invokevirtual 185, 2034, (163, 1, 0, [11])),
  (2034, .pop, 2035, zx0),
  (2035, .aload_n ⟨2, zfin2⟩, 2036, zx0),
  (2036, .invokevirtual 189, 2039, (287, 1, 0, [12])),
  (2039, .pop, 2040, zx0),
  (2040, .goto (118), 2043, (2158, 0, 0, []))]
set_option maxRecDepth 100000 in
theorem sh_40 : zSeg zk_L_law sg_40 := zSeg_of 1546 7 2030 (by decide +kernel) rfl (by decide +kernel)
set_option maxRecDepth 100000 in
theorem qL_40 (hY : qY M) (hn : n ≤ 4096) (hi : 0 ≤ i ∧ i + 8 ≤ n) (K : ∀ M', qY M' → zG n (114, 4080270) 300 311 (2158, [zR 0, zR 8, zR 97, .inl i], []) M' qLQ) : zG n (114, 4080270) 300 311 (2030, [zR 0, zR 8, zR 97, .inl i], []) M qLQ := by
  have hz := zp_311
  have hg := sh_40
  have hJ := hY.1
  have hX := hY.2.1
  have hU := hY.2.2
  refine zG_blk (c' := (2031, [zR 0, zR 8, zR 97, .inl i], [zR 8])) 1 (by decide) hz (zsteps_seg hg rfl) ?_
  refine zG_call (by decide) hz zp_163 (hg _ _ rfl) rfl (Nat.le_of_ble_eq_true rfl) ⟨Nat.le_of_ble_eq_true rfl, Nat.le_of_ble_eq_true rfl⟩ (zG.andH (qm_163_8 (by decide) hJ.1 ) (fh_163_8 )) (fun vr M1 hr => ?_)
  obtain ⟨⟨⟨hC1, hF1⟩, -⟩, rfl, hM1⟩ := hr
  have hi := hF1.hi rfl
  have hI := hJ.2.1.same hi
  have hc0 : ∀ j, M1 0 j = M 0 j := fun j => hF1 0 j (by decide)
  have hX1 : qX M1 := hX.cls hF1 rfl; have hU1 : qU M1 := hU.cg (hF1.hi rfl)
  show zG n (114, 4080270) 300 311 (2034, [zR 0, zR 8, zR 97, .inl i], [.inl (hf_163_8 M).1]) M1 _
  refine zG_blk (c' := (2036, [zR 0, zR 8, zR 97, .inl i], [zR 97])) 2 (by decide) hz (zsteps_seg hg rfl) ?_
  refine zG_call (by decide) hz zp_287 (hg _ _ rfl) rfl (Nat.le_of_ble_eq_true rfl) ⟨Nat.le_of_ble_eq_true rfl, Nat.le_of_ble_eq_true rfl⟩ (zG.andH (qm_287_97 (by decide) hI ) (fh_287_97 )) (fun vr M2 hr => ?_)
  obtain ⟨⟨⟨hC2, hF2⟩, -⟩, rfl, hM2⟩ := hr
  have hm := hm_163 hJ.2.2.1
  rw [← hM1] at hm
  rw [← hM2] at hm
  have hJ2 : qJ M2 := hJ.mut hC1 hF1 rfl rfl hC2 hF2 rfl (by decide) hm.2
  have hX2 : qX M2 := hX1.mdl hF2 rfl
  have hU2 : qU M2 := hU1.f9 (wSm.mut hJ.2.2.1 hJ2.2.2.1 hJ.2.1.cnt0 hF1 rfl (hF2.lo rfl)) hF2 rfl
  show zG n (114, 4080270) 300 311 (2039, [zR 0, zR 8, zR 97, .inl i], [.inl (hf_287_97 M1).1]) M2 _
  refine zG_blk (c' := (2158, [zR 0, zR 8, zR 97, .inl i], [])) 2 (by decide) hz (zsteps_seg hg rfl) ?_
  exact K M2 ⟨hJ2, hX2, hU2⟩
noncomputable def sg_41 : List zE := [(2043, .aload_n ⟨1, zfin1⟩, 2044, zx0),
  (2044, .aload_n ⟨0, zfin0⟩, 2045, zx0),
  (2045, .iload_n ⟨3, zfin3⟩, 2046, zx0),
  (2046, .iconst 1, 2047, zx0),
  (2047, .iadd, 2048, zx0),
  (2048, .iaload, 2049, zx0),
  (2049, .aload_n ⟨0, zfin0⟩, 2050, zx0),
  (2050, .iload_n ⟨3, zfin3⟩, 2051, zx0),
  (2051, .iconst 2, 2052, zx0),
  (2052, .iadd, 2053, zx0),
  (2053, .iaload, 2054, zx0),
  (2054, .invokevirtual 190, 2057, (164, 3, 0, [11])),
  (2057, .pop, 2058, zx0),
  (2058, .aload_n ⟨2, zfin2⟩, 2059, zx0),
  (2059, .aload_n ⟨0, zfin0⟩, 2060, zx0),
  (2060, .iload_n ⟨3, zfin3⟩, 2061, zx0),
  (2061, .iconst 1, 2062, zx0),
  (2062, .iadd, 2063, zx0),
  (2063, .iaload, 2064, zx0),
  (2064, .aload_n ⟨0, zfin0⟩, 2065, zx0),
  (2065, .iload_n ⟨3, zfin3⟩, 2066, zx0),
  (2066, .iconst 2, 2067, zx0),
  (2067, .iadd, 2068, zx0),
  (2068, .iaload, 2069, zx0),
  (2069, .invokevirtual 193, 2072, (289, 3, 0, [12])),
  (2072, .pop, 2073, zx0),
  (2073, .goto (85), 2076, (2158, 0, 0, []))]
set_option maxRecDepth 100000 in
theorem sh_41 : zSeg zk_L_law sg_41 := zSeg_of 1553 27 2043 (by decide +kernel) rfl (by decide +kernel)
set_option maxRecDepth 100000 in
theorem qL_41 (hY : qY M) (hn : n ≤ 4096) (hi : 0 ≤ i ∧ i + 8 ≤ n) (K : ∀ M', qY M' → zG n (114, 4080270) 300 311 (2158, [zR 0, zR 8, zR 97, .inl i], []) M' qLQ) : zG n (114, 4080270) 300 311 (2043, [zR 0, zR 8, zR 97, .inl i], []) M qLQ := by
  have hz := zp_311
  have hg := sh_41
  have hJ := hY.1
  have hX := hY.2.1
  have hU := hY.2.2
  refine zG_blk (c' := (2048, [zR 0, zR 8, zR 97, .inl i], [.inl (i + 1), zR 0, zR 8])) 5 (by decide) hz (zsteps_seg hg (by rw [show (.inl (i + 1) : zV) = .inl (w32 (i + 1)) from by rw [w32_id (by omega)]]; rfl)) ?_
  refine zG_iald (by decide) hz (hg _ _ rfl) rfl (.inr rfl) (by omega) ?_
  obtain ⟨x1, hx1⟩ : ∃ x : Int, x = M 0 (i + 1).toNat := ⟨_, rfl⟩
  rw [← hx1]
  have hr1 : qin x1 := by rw [hx1]; exact hJ.1.rng 0 _ (by decide) (by decide)
  show zG n (114, 4080270) 300 311 (2049, [zR 0, zR 8, zR 97, .inl i], [.inl x1, zR 8]) M _
  refine zG_blk (c' := (2053, [zR 0, zR 8, zR 97, .inl i], [.inl (i + 2), zR 0, .inl x1, zR 8])) 4 (by decide) hz (zsteps_seg hg (by rw [show (.inl (i + 2) : zV) = .inl (w32 (i + 2)) from by rw [w32_id (by omega)]]; rfl)) ?_
  refine zG_iald (by decide) hz (hg _ _ rfl) rfl (.inr rfl) (by omega) ?_
  obtain ⟨x2, hx2⟩ : ∃ x : Int, x = M 0 (i + 2).toNat := ⟨_, rfl⟩
  rw [← hx2]
  have hr2 : qin x2 := by rw [hx2]; exact hJ.1.rng 0 _ (by decide) (by decide)
  show zG n (114, 4080270) 300 311 (2054, [zR 0, zR 8, zR 97, .inl i], [.inl x2, .inl x1, zR 8]) M _
  refine zG_call (by decide) hz zp_164 (hg _ _ rfl) rfl (Nat.le_of_ble_eq_true rfl) ⟨Nat.le_of_ble_eq_true rfl, Nat.le_of_ble_eq_true rfl⟩ (qm_164_8 (by decide) hJ.1 x1 (by omega) x2 (by omega)) (fun vr M1 hr => ?_)
  obtain ⟨⟨hCM1, hFM1⟩, hr⟩ := hr
  have hJM1 : qJ M1 := hJ.cls hCM1 hFM1 rfl rfl
  have hXM1 : qX M1 := hX.cls hFM1 rfl; have hUM1 : qU M1 := hU.cg (hFM1.hi rfl)
  have hc0 : ∀ j, M1 0 j = M 0 j := fun j => hFM1 0 j (by decide)
  obtain ⟨r1, rfl, -⟩ := hr
  show zG n (114, 4080270) 300 311 (2057, [zR 0, zR 8, zR 97, .inl i], [.inl r1]) M1 _
  refine zG_blk (c' := (2063, [zR 0, zR 8, zR 97, .inl i], [.inl (i + 1), zR 0, zR 97])) 6 (by decide) hz (zsteps_seg hg (by rw [show (.inl (i + 1) : zV) = .inl (w32 (i + 1)) from by rw [w32_id (by omega)]]; rfl)) ?_
  refine zG_iald (by decide) hz (hg _ _ rfl) rfl (.inr rfl) (by omega) ?_
  rw [show M1 0 (i + 1).toNat = x1 from (hc0 _).trans hx1.symm]
  show zG n (114, 4080270) 300 311 (2064, [zR 0, zR 8, zR 97, .inl i], [.inl x1, zR 97]) M1 _
  refine zG_blk (c' := (2068, [zR 0, zR 8, zR 97, .inl i], [.inl (i + 2), zR 0, .inl x1, zR 97])) 4 (by decide) hz (zsteps_seg hg (by rw [show (.inl (i + 2) : zV) = .inl (w32 (i + 2)) from by rw [w32_id (by omega)]]; rfl)) ?_
  refine zG_iald (by decide) hz (hg _ _ rfl) rfl (.inr rfl) (by omega) ?_
  rw [show M1 0 (i + 2).toNat = x2 from (hc0 _).trans hx2.symm]
  show zG n (114, 4080270) 300 311 (2069, [zR 0, zR 8, zR 97, .inl i], [.inl x2, .inl x1, zR 97]) M1 _
  refine zG_call (by decide) hz zp_289 (hg _ _ rfl) rfl (Nat.le_of_ble_eq_true rfl) ⟨Nat.le_of_ble_eq_true rfl, Nat.le_of_ble_eq_true rfl⟩ (qm_289_97 (by decide) hJM1.2.1 x1 (by omega) x2 (by omega)) (fun vr M2 hr => ?_)
  obtain ⟨hq, hr⟩ := hr
  replace hq := hq.symm; subst hq
  obtain ⟨r2, hv9⟩ := hr
  first | (obtain ⟨rfl, -⟩ := hv9) | (obtain rfl := hv9)
  show zG n (114, 4080270) 300 311 (2072, [zR 0, zR 8, zR 97, .inl i], [.inl r2]) M1 _
  refine zG_blk (c' := (2158, [zR 0, zR 8, zR 97, .inl i], [])) 2 (by decide) hz (zsteps_seg hg rfl) ?_
  exact K M1 ⟨hJM1, hXM1, hUM1⟩
noncomputable def sg_42 : List zE := [(2076, .aload_n ⟨1, zfin1⟩, 2077, zx0),
  (2077, .aload_n ⟨0, zfin0⟩, 2078, zx0),
  (2078, .iload_n ⟨3, zfin3⟩, 2079, zx0),
  (2079, .iconst 1, 2080, zx0),
  (2080, .iadd, 2081, zx0),
  (2081, .iaload, 2082, zx0),
  (2082, .invokevirtual 194, 2085, (165, 2, 0, [11])),
  (2085, .pop, 2086, zx0),
  (2086, .aload_n ⟨2, zfin2⟩, 2087, zx0),
  (2087, .aload_n ⟨0, zfin0⟩, 2088, zx0),
  (2088, .iload_n ⟨3, zfin3⟩, 2089, zx0),
  (2089, .iconst 1, 2090, zx0),
  (2090, .iadd, 2091, zx0),
  (2091, .iaload, 2092, zx0),
  (2092, .invokevirtual 197, 2095, (290, 2, 0, [12])),
  (2095, .pop, 2096, zx0),
  (2096, .goto (62), 2099, (2158, 0, 0, []))]
set_option maxRecDepth 100000 in
theorem sh_42 : zSeg zk_L_law sg_42 := zSeg_of 1580 17 2076 (by decide +kernel) rfl (by decide +kernel)
set_option maxRecDepth 100000 in
theorem qL_42_0 (hY : qY M) (hn : n ≤ 4096) (hi : 0 ≤ i ∧ i + 8 ≤ n) (K : ∀ M', qY M' → zG n (114, 4080270) 300 311 (2158, [zR 0, zR 8, zR 97, .inl i], []) M' qLQ) (hA : ∀ x, x = M 0 (i + 1).toNat → x = 0) : zG n (114, 4080270) 300 311 (2076, [zR 0, zR 8, zR 97, .inl i], []) M qLQ := by
  have hz := zp_311
  have hg := sh_42
  have hJ := hY.1
  have hX := hY.2.1
  have hU := hY.2.2
  refine zG_blk (c' := (2081, [zR 0, zR 8, zR 97, .inl i], [.inl (i + 1), zR 0, zR 8])) 5 (by decide) hz (zsteps_seg hg (by rw [show (.inl (i + 1) : zV) = .inl (w32 (i + 1)) from by rw [w32_id (by omega)]]; rfl)) ?_
  refine zG_iald (by decide) hz (hg _ _ rfl) rfl (.inr rfl) (by omega) ?_
  obtain ⟨x1, hx1⟩ : ∃ x : Int, x = M 0 (i + 1).toNat := ⟨_, rfl⟩
  rw [← hx1]
  have hr1 : qin x1 := by rw [hx1]; exact hJ.1.rng 0 _ (by decide) (by decide)
  obtain rfl : x1 = 0 := hA x1 hx1
  show zG n (114, 4080270) 300 311 (2082, [zR 0, zR 8, zR 97, .inl i], [.inl 0, zR 8]) M _
  refine zG_call (by decide) hz zp_165 (hg _ _ rfl) rfl (Nat.le_of_ble_eq_true rfl) ⟨Nat.le_of_ble_eq_true rfl, Nat.le_of_ble_eq_true rfl⟩ (zG.andH (qe_165_8 (by decide) hJ.1 0 (by omega)) fh_165_8_L0) (fun vr M1 hr => ?_)
  obtain ⟨⟨⟨hC1, hF1⟩, -⟩, rfl, hM1⟩ := hr
  have hi := hF1.hi rfl
  have hI := hJ.2.1.same hi
  have hc0 : ∀ j, M1 0 j = M 0 j := fun j => hF1 0 j (by decide)
  have hX1 : qX M1 := hX.cls hF1 rfl; have hU1 : qU M1 := hU.cg (hF1.hi rfl)
  show zG n (114, 4080270) 300 311 (2085, [zR 0, zR 8, zR 97, .inl i], [.inl (hf_165_8_L0 M).1]) M1 _
  refine zG_blk (c' := (2091, [zR 0, zR 8, zR 97, .inl i], [.inl (i + 1), zR 0, zR 97])) 6 (by decide) hz (zsteps_seg hg (by rw [show (.inl (i + 1) : zV) = .inl (w32 (i + 1)) from by rw [w32_id (by omega)]]; rfl)) ?_
  refine zG_iald (by decide) hz (hg _ _ rfl) rfl (.inr rfl) (by omega) ?_
  rw [show M1 0 (i + 1).toNat = 0 from (hc0 _).trans hx1.symm]
  show zG n (114, 4080270) 300 311 (2092, [zR 0, zR 8, zR 97, .inl i], [.inl 0, zR 97]) M1 _
  refine zG_call (by decide) hz zp_290 (hg _ _ rfl) rfl (Nat.le_of_ble_eq_true rfl) ⟨Nat.le_of_ble_eq_true rfl, Nat.le_of_ble_eq_true rfl⟩ (qx_image (by decide) hI 0 (by omega)) (fun vr M2 hr => ?_)
  obtain ⟨⟨hC2, hF2⟩, h2⟩ := hr
  have lo := hF2.lo rfl
  have eL : ∀ r, r < 97 → M2 r = M1 r := fun r hr => funext fun k => lo r k hr
  obtain ⟨g1, g2, g3, g4⟩ := hJ.2.2
  obtain ⟨k1, k2, k3, k4⟩ := hm_165_0 hJ.1 g1
  rw [← hM1] at k2 k3 k4
  obtain ⟨rfl, ⟨v1, v2⟩, v3, v4⟩ : vr = some (.inl 1) ∧ (M2 100 (0 : Int).toNat = 1 ∧ ∀ j, j ≠ (0 : Int).toNat → M2 100 j = M1 100 j) ∧ (∀ j : Nat, j < 5664 → M2 99 ((5664 * 0 : Int).toNat + j) = M1 98 j) ∧ (∀ j : Nat, (j < (5664 * 0 : Int).toNat ∨ (5664 * 0 : Int).toNat + 5664 ≤ j) → M2 99 j = M1 99 j) := by rcases h2 with ⟨-, h, -⟩ | ⟨h, -, h3, h4, h5⟩; exact absurd (by decide) h; exact ⟨h, h3, h4, h5⟩
  have n98 : ∀ j, M2 98 j = M 98 j := fun j => (hF2.ar 98 j (by decide) (by decide)).trans (hi 98 j (by decide))
  have v1 : M2 100 0 = 1 := v1
  have v2 : M2 100 1 = M 100 1 := (v2 1 (by decide)).trans (hi 100 1 (by decide))
  have eA : ∀ r, (r < 26 ∨ 43 ≤ r) → r ≠ 8 → r < 97 → M2 r = M r := fun r h1 h2 h3 => (eL r h3).trans (k4 r h1 h2)
  have p0 := hJ.2.1.bl100 0
  have p1 := hJ.2.1.bl100 1
  have hJ2 : qJ M2 := by
    refine ⟨hC1.same lo, hC2, ?_, ?_, ?_, ?_⟩
    · exact g1.fr (fun r hr => eA r (by omega) (by omega) (by omega)) (fun j _ => n98 j)
    · refine fun _ => k2.fr (fun r hr => eL r (by omega)) (fun j hj => ?_)
      have q := v3 j hj
      rw [show ((5664 * 0 : Int).toNat + j) = j by omega] at q
      exact q.trans (hi 98 j (by decide))
    · refine fun hk => (g3 (by rw [← v2]; exact hk)).fr (fun r hr => eA r (by omega) (by omega) (by omega)) (fun j hj => ?_)
      exact (v4 (5664 + j) (.inr (by omega))).trans (hi 99 _ (by decide))
    · have m8 : M2 8 3 = zbor (M 8 3) (zbshl 1 0) := (lo 8 3 (by decide)).trans k3
      have z5 : M2 8 3 = 1 + 2 * M 100 1 := by
        rw [m8, g4.2.2]
        rcases p0 with h | h <;> rcases p1 with h' | h' <;> rw [h, h'] <;> decide
      omega
  have hX2 : qX M2 := hX1.mdl hF2 rfl
  have hU2 : qU M2 := hU.img (a := 0) (by decide) n98 v1 (fun b b1 b2 => by rw [show b = 1 by omega]; exact v2) (fun j hj => by have q := v3 j hj; rw [show ((5664 * 0 : Int).toNat + j) = 5664 * 0 + j by omega] at q; exact q.trans (hi 98 j (by decide))) (fun j hj => (v4 j (by omega)).trans (hi 99 j (by decide))) hJ.2.1.cnt0 ((hF2 97 31 (by decide)).trans (hi 97 31 (by decide))) ((hF2 97 33 (by decide)).trans (hi 97 33 (by decide))) ((hF2.fn 114 (by decide) (by decide)).trans (funext fun j => hi 114 j (by decide))) (fun b b1 b2 => hJ.2.1.im0 b1 b2)
  show zG n (114, 4080270) 300 311 (2095, [zR 0, zR 8, zR 97, .inl i], [.inl 1]) M2 _
  refine zG_blk (c' := (2158, [zR 0, zR 8, zR 97, .inl i], [])) 2 (by decide) hz (zsteps_seg hg rfl) ?_
  exact K M2 ⟨hJ2, hX2, hU2⟩
set_option maxRecDepth 100000 in
theorem qL_42_1 (hY : qY M) (hn : n ≤ 4096) (hi : 0 ≤ i ∧ i + 8 ≤ n) (K : ∀ M', qY M' → zG n (114, 4080270) 300 311 (2158, [zR 0, zR 8, zR 97, .inl i], []) M' qLQ) (hA : ∀ x, x = M 0 (i + 1).toNat → x = 1) : zG n (114, 4080270) 300 311 (2076, [zR 0, zR 8, zR 97, .inl i], []) M qLQ := by
  have hz := zp_311
  have hg := sh_42
  have hJ := hY.1
  have hX := hY.2.1
  have hU := hY.2.2
  refine zG_blk (c' := (2081, [zR 0, zR 8, zR 97, .inl i], [.inl (i + 1), zR 0, zR 8])) 5 (by decide) hz (zsteps_seg hg (by rw [show (.inl (i + 1) : zV) = .inl (w32 (i + 1)) from by rw [w32_id (by omega)]]; rfl)) ?_
  refine zG_iald (by decide) hz (hg _ _ rfl) rfl (.inr rfl) (by omega) ?_
  obtain ⟨x1, hx1⟩ : ∃ x : Int, x = M 0 (i + 1).toNat := ⟨_, rfl⟩
  rw [← hx1]
  have hr1 : qin x1 := by rw [hx1]; exact hJ.1.rng 0 _ (by decide) (by decide)
  obtain rfl : x1 = 1 := hA x1 hx1
  show zG n (114, 4080270) 300 311 (2082, [zR 0, zR 8, zR 97, .inl i], [.inl 1, zR 8]) M _
  refine zG_call (by decide) hz zp_165 (hg _ _ rfl) rfl (Nat.le_of_ble_eq_true rfl) ⟨Nat.le_of_ble_eq_true rfl, Nat.le_of_ble_eq_true rfl⟩ (zG.andH (qe_165_8 (by decide) hJ.1 1 (by omega)) fh_165_8_L1) (fun vr M1 hr => ?_)
  obtain ⟨⟨⟨hC1, hF1⟩, -⟩, rfl, hM1⟩ := hr
  have hi := hF1.hi rfl
  have hI := hJ.2.1.same hi
  have hc0 : ∀ j, M1 0 j = M 0 j := fun j => hF1 0 j (by decide)
  have hX1 : qX M1 := hX.cls hF1 rfl; have hU1 : qU M1 := hU.cg (hF1.hi rfl)
  show zG n (114, 4080270) 300 311 (2085, [zR 0, zR 8, zR 97, .inl i], [.inl (hf_165_8_L1 M).1]) M1 _
  refine zG_blk (c' := (2091, [zR 0, zR 8, zR 97, .inl i], [.inl (i + 1), zR 0, zR 97])) 6 (by decide) hz (zsteps_seg hg (by rw [show (.inl (i + 1) : zV) = .inl (w32 (i + 1)) from by rw [w32_id (by omega)]]; rfl)) ?_
  refine zG_iald (by decide) hz (hg _ _ rfl) rfl (.inr rfl) (by omega) ?_
  rw [show M1 0 (i + 1).toNat = 1 from (hc0 _).trans hx1.symm]
  show zG n (114, 4080270) 300 311 (2092, [zR 0, zR 8, zR 97, .inl i], [.inl 1, zR 97]) M1 _
  refine zG_call (by decide) hz zp_290 (hg _ _ rfl) rfl (Nat.le_of_ble_eq_true rfl) ⟨Nat.le_of_ble_eq_true rfl, Nat.le_of_ble_eq_true rfl⟩ (qx_image (by decide) hI 1 (by omega)) (fun vr M2 hr => ?_)
  obtain ⟨⟨hC2, hF2⟩, h2⟩ := hr
  have lo := hF2.lo rfl
  have eL : ∀ r, r < 97 → M2 r = M1 r := fun r hr => funext fun k => lo r k hr
  obtain ⟨g1, g2, g3, g4⟩ := hJ.2.2
  obtain ⟨k1, k2, k3, k4⟩ := hm_165_1 hJ.1 g1
  rw [← hM1] at k2 k3 k4
  obtain ⟨rfl, ⟨v1, v2⟩, v3, v4⟩ : vr = some (.inl 1) ∧ (M2 100 (1 : Int).toNat = 1 ∧ ∀ j, j ≠ (1 : Int).toNat → M2 100 j = M1 100 j) ∧ (∀ j : Nat, j < 5664 → M2 99 ((5664 * 1 : Int).toNat + j) = M1 98 j) ∧ (∀ j : Nat, (j < (5664 * 1 : Int).toNat ∨ (5664 * 1 : Int).toNat + 5664 ≤ j) → M2 99 j = M1 99 j) := by rcases h2 with ⟨-, h, -⟩ | ⟨h, -, h3, h4, h5⟩; exact absurd (by decide) h; exact ⟨h, h3, h4, h5⟩
  have n98 : ∀ j, M2 98 j = M 98 j := fun j => (hF2.ar 98 j (by decide) (by decide)).trans (hi 98 j (by decide))
  have v1 : M2 100 1 = 1 := v1
  have v2 : M2 100 0 = M 100 0 := (v2 0 (by decide)).trans (hi 100 0 (by decide))
  have eA : ∀ r, (r < 43 ∨ 60 ≤ r) → r ≠ 8 → r < 97 → M2 r = M r := fun r h1 h2 h3 => (eL r h3).trans (k4 r h1 h2)
  have p0 := hJ.2.1.bl100 0
  have p1 := hJ.2.1.bl100 1
  have hJ2 : qJ M2 := by
    refine ⟨hC1.same lo, hC2, ?_, ?_, ?_, ?_⟩
    · exact g1.fr (fun r hr => eA r (by omega) (by omega) (by omega)) (fun j _ => n98 j)
    · refine fun hk => (g2 (by rw [← v2]; exact hk)).fr (fun r hr => eA r (by omega) (by omega) (by omega)) (fun j hj => ?_)
      exact (v4 j (.inl (by omega))).trans (hi 99 _ (by decide))
    · refine fun _ => k2.fr (fun r hr => eL r (by omega)) (fun j hj => ?_)
      have q := v3 j hj
      rw [show ((5664 * 1 : Int).toNat + j) = 5664 + j by omega] at q
      exact q.trans (hi 98 j (by decide))
    · have m8 : M2 8 3 = zbor (M 8 3) (zbshl 1 1) := (lo 8 3 (by decide)).trans k3
      have z5 : M2 8 3 = M 100 0 + 2 := by
        rw [m8, g4.2.2]
        rcases p0 with h | h <;> rcases p1 with h' | h' <;> rw [h, h'] <;> decide
      omega
  have hX2 : qX M2 := hX1.mdl hF2 rfl
  have hU2 : qU M2 := hU.img (a := 1) (by decide) n98 v1 (fun b b1 b2 => by rw [show b = 0 by omega]; exact v2) (fun j hj => by have q := v3 j hj; rw [show ((5664 * 1 : Int).toNat + j) = 5664 * 1 + j by omega] at q; exact q.trans (hi 98 j (by decide))) (fun j hj => (v4 j (by omega)).trans (hi 99 j (by decide))) hJ.2.1.cnt0 ((hF2 97 31 (by decide)).trans (hi 97 31 (by decide))) ((hF2 97 33 (by decide)).trans (hi 97 33 (by decide))) ((hF2.fn 114 (by decide) (by decide)).trans (funext fun j => hi 114 j (by decide))) (fun b b1 b2 => hJ.2.1.im0 b1 b2)
  show zG n (114, 4080270) 300 311 (2095, [zR 0, zR 8, zR 97, .inl i], [.inl 1]) M2 _
  refine zG_blk (c' := (2158, [zR 0, zR 8, zR 97, .inl i], [])) 2 (by decide) hz (zsteps_seg hg rfl) ?_
  exact K M2 ⟨hJ2, hX2, hU2⟩
set_option maxRecDepth 100000 in
theorem qL_42_n (hY : qY M) (hn : n ≤ 4096) (hi : 0 ≤ i ∧ i + 8 ≤ n) (K : ∀ M', qY M' → zG n (114, 4080270) 300 311 (2158, [zR 0, zR 8, zR 97, .inl i], []) M' qLQ) (hA : ∀ x, x = M 0 (i + 1).toNat → ¬ (0 ≤ x ∧ x ≤ 1)) : zG n (114, 4080270) 300 311 (2076, [zR 0, zR 8, zR 97, .inl i], []) M qLQ := by
  have hz := zp_311
  have hg := sh_42
  have hJ := hY.1
  have hX := hY.2.1
  have hU := hY.2.2
  refine zG_blk (c' := (2081, [zR 0, zR 8, zR 97, .inl i], [.inl (i + 1), zR 0, zR 8])) 5 (by decide) hz (zsteps_seg hg (by rw [show (.inl (i + 1) : zV) = .inl (w32 (i + 1)) from by rw [w32_id (by omega)]]; rfl)) ?_
  refine zG_iald (by decide) hz (hg _ _ rfl) rfl (.inr rfl) (by omega) ?_
  obtain ⟨x1, hx1⟩ : ∃ x : Int, x = M 0 (i + 1).toNat := ⟨_, rfl⟩
  rw [← hx1]
  have hr1 : qin x1 := by rw [hx1]; exact hJ.1.rng 0 _ (by decide) (by decide)
  have hA9 := hA x1 hx1
  show zG n (114, 4080270) 300 311 (2082, [zR 0, zR 8, zR 97, .inl i], [.inl x1, zR 8]) M _
  refine zG_call (by decide) hz zp_165 (hg _ _ rfl) rfl (Nat.le_of_ble_eq_true rfl) ⟨Nat.le_of_ble_eq_true rfl, Nat.le_of_ble_eq_true rfl⟩ (qe_165_8 (by decide) hJ.1 x1 (by omega)) (fun vr M1 hr => ?_)
  obtain ⟨⟨hC1, hF1⟩, h1⟩ := hr
  have h1' : vr = some (.inl (-2)) ∧ M1 = M := by rcases h1 with ⟨h, -, h'⟩ | ⟨-, h, -⟩; exact ⟨h, h'⟩; all_goals exact absurd h hA9
  obtain ⟨rfl, hM1⟩ := h1'
  have hi := hF1.hi rfl
  have hI := hJ.2.1.same hi
  have hc0 : ∀ j, M1 0 j = M 0 j := fun j => hF1 0 j (by decide)
  have hX1 : qX M1 := hX.cls hF1 rfl; have hU1 : qU M1 := hU.cg (hF1.hi rfl)
  show zG n (114, 4080270) 300 311 (2085, [zR 0, zR 8, zR 97, .inl i], [.inl (-2)]) M1 _
  refine zG_blk (c' := (2091, [zR 0, zR 8, zR 97, .inl i], [.inl (i + 1), zR 0, zR 97])) 6 (by decide) hz (zsteps_seg hg (by rw [show (.inl (i + 1) : zV) = .inl (w32 (i + 1)) from by rw [w32_id (by omega)]]; rfl)) ?_
  refine zG_iald (by decide) hz (hg _ _ rfl) rfl (.inr rfl) (by omega) ?_
  rw [show M1 0 (i + 1).toNat = x1 from (hc0 _).trans hx1.symm]
  show zG n (114, 4080270) 300 311 (2092, [zR 0, zR 8, zR 97, .inl i], [.inl x1, zR 97]) M1 _
  refine zG_call (by decide) hz zp_290 (hg _ _ rfl) rfl (Nat.le_of_ble_eq_true rfl) ⟨Nat.le_of_ble_eq_true rfl, Nat.le_of_ble_eq_true rfl⟩ (qx_image (by decide) hI x1 (by omega)) (fun vr M2 hr => ?_)
  obtain ⟨⟨hC2, hF2⟩, h2⟩ := hr
  have lo := hF2.lo rfl
  have eL : ∀ r, r < 97 → M2 r = M1 r := fun r hr => funext fun k => lo r k hr
  obtain ⟨g1, g2, g3, g4⟩ := hJ.2.2
  have h2' : vr = some (.inl (-2)) ∧ M2 = M1 := by rcases h2 with ⟨h, -, h'⟩ | ⟨-, h, -⟩; exact ⟨h, h'⟩; all_goals exact absurd h hA9
  obtain ⟨rfl, hM2⟩ := h2'
  have hJ2 : qJ M2 := by rw [hM2, hM1]; exact hJ
  have hX2 : qX M2 := hX1.mdl hF2 rfl
  have hU2 : qU M2 := by rw [hM2, hM1]; exact hU
  show zG n (114, 4080270) 300 311 (2095, [zR 0, zR 8, zR 97, .inl i], [.inl (-2)]) M2 _
  refine zG_blk (c' := (2158, [zR 0, zR 8, zR 97, .inl i], [])) 2 (by decide) hz (zsteps_seg hg rfl) ?_
  exact K M2 ⟨hJ2, hX2, hU2⟩
theorem qL_42 (hY : qY M) (hn : n ≤ 4096) (hi : 0 ≤ i ∧ i + 8 ≤ n) (K : ∀ M', qY M' → zG n (114, 4080270) 300 311 (2158, [zR 0, zR 8, zR 97, .inl i], []) M' qLQ) : zG n (114, 4080270) 300 311 (2076, [zR 0, zR 8, zR 97, .inl i], []) M qLQ := by
  by_cases h0 : M 0 (i + 1).toNat = 0
  · exact qL_42_0 hY hn hi K (fun x hx => hx.trans h0)
  · by_cases h1 : M 0 (i + 1).toNat = 1
    · exact qL_42_1 hY hn hi K (fun x hx => hx.trans h1)
    · exact qL_42_n hY hn hi K (fun x hx => by omega)
noncomputable def sg_43 : List zE := [(2099, .aload_n ⟨1, zfin1⟩, 2100, zx0),
  (2100, .aload_n ⟨0, zfin0⟩, 2101, zx0),
  (2101, .iload_n ⟨3, zfin3⟩, 2102, zx0),
  (2102, .iconst 1, 2103, zx0),
  (2103, .iadd, 2104, zx0),
  (2104, .iaload, 2105, zx0),
  (2105, .invokevirtual 198, 2108, (166, 2, 0, [11])),
  (2108, .pop, 2109, zx0),
  (2109, .aload_n ⟨2, zfin2⟩, 2110, zx0),
  (2110, .aload_n ⟨0, zfin0⟩, 2111, zx0),
  (2111, .iload_n ⟨3, zfin3⟩, 2112, zx0),
  (2112, .iconst 1, 2113, zx0),
  (2113, .iadd, 2114, zx0),
  (2114, .iaload, 2115, zx0),
  (2115, .invokevirtual 201, 2118, (291, 2, 0, [12])),
  (2118, .pop, 2119, zx0),
  (2119, .goto (39), 2122, (2158, 0, 0, []))]
set_option maxRecDepth 100000 in
theorem sh_43 : zSeg zk_L_law sg_43 := zSeg_of 1597 17 2099 (by decide +kernel) rfl (by decide +kernel)
set_option maxRecDepth 100000 in
theorem qL_43_0 (hY : qY M) (hn : n ≤ 4096) (hi : 0 ≤ i ∧ i + 8 ≤ n) (K : ∀ M', qY M' → zG n (114, 4080270) 300 311 (2158, [zR 0, zR 8, zR 97, .inl i], []) M' qLQ) (hA : ∀ x, x = M 0 (i + 1).toNat → x = 0) : zG n (114, 4080270) 300 311 (2099, [zR 0, zR 8, zR 97, .inl i], []) M qLQ := by
  have hz := zp_311
  have hg := sh_43
  have hJ := hY.1
  have hX := hY.2.1
  have hU := hY.2.2
  refine zG_blk (c' := (2104, [zR 0, zR 8, zR 97, .inl i], [.inl (i + 1), zR 0, zR 8])) 5 (by decide) hz (zsteps_seg hg (by rw [show (.inl (i + 1) : zV) = .inl (w32 (i + 1)) from by rw [w32_id (by omega)]]; rfl)) ?_
  refine zG_iald (by decide) hz (hg _ _ rfl) rfl (.inr rfl) (by omega) ?_
  obtain ⟨x1, hx1⟩ : ∃ x : Int, x = M 0 (i + 1).toNat := ⟨_, rfl⟩
  rw [← hx1]
  have hr1 : qin x1 := by rw [hx1]; exact hJ.1.rng 0 _ (by decide) (by decide)
  obtain rfl : x1 = 0 := hA x1 hx1
  show zG n (114, 4080270) 300 311 (2105, [zR 0, zR 8, zR 97, .inl i], [.inl 0, zR 8]) M _
  refine zG_call (by decide) hz zp_166 (hg _ _ rfl) rfl (Nat.le_of_ble_eq_true rfl) ⟨Nat.le_of_ble_eq_true rfl, Nat.le_of_ble_eq_true rfl⟩ (zG.andH (qe_166_8 (by decide) hJ.1 0 (by omega)) fh_166_8_L0) (fun vr M1 hr => ?_)
  obtain ⟨⟨⟨hC1, hF1⟩, -⟩, rfl, hM1⟩ := hr
  have hi := hF1.hi rfl
  have hI := hJ.2.1.same hi
  have hc0 : ∀ j, M1 0 j = M 0 j := fun j => hF1 0 j (by decide)
  have hX1 : qX M1 := hX.cls hF1 rfl; have hU1 : qU M1 := hU.cg (hF1.hi rfl)
  show zG n (114, 4080270) 300 311 (2108, [zR 0, zR 8, zR 97, .inl i], [.inl (hf_166_8_L0 M).1]) M1 _
  refine zG_blk (c' := (2114, [zR 0, zR 8, zR 97, .inl i], [.inl (i + 1), zR 0, zR 97])) 6 (by decide) hz (zsteps_seg hg (by rw [show (.inl (i + 1) : zV) = .inl (w32 (i + 1)) from by rw [w32_id (by omega)]]; rfl)) ?_
  refine zG_iald (by decide) hz (hg _ _ rfl) rfl (.inr rfl) (by omega) ?_
  rw [show M1 0 (i + 1).toNat = 0 from (hc0 _).trans hx1.symm]
  show zG n (114, 4080270) 300 311 (2115, [zR 0, zR 8, zR 97, .inl i], [.inl 0, zR 97]) M1 _
  refine zG_call (by decide) hz zp_291 (hg _ _ rfl) rfl (Nat.le_of_ble_eq_true rfl) ⟨Nat.le_of_ble_eq_true rfl, Nat.le_of_ble_eq_true rfl⟩ (zG.andH (qx_from (by decide) hI 0 (by omega)) (fh_291_97 0)) (fun vr M2 hr => ?_)
  obtain ⟨⟨⟨hC2, hF2⟩, h2⟩, h31⟩ := hr
  have lo := hF2.lo rfl
  have eL : ∀ r, r < 97 → M2 r = M1 r := fun r hr => funext fun k => lo r k hr
  obtain ⟨g1, g2, g3, g4⟩ := hJ.2.2
  have p0 := hJ.2.1.bl100 0
  have p1 := hJ.2.1.bl100 1
  have t0 : zband (zbshr (M 8 3) 0) 1 = M 100 0 := by rw [g4.2.2]; rcases p0 with h | h <;> rcases p1 with h' | h' <;> rw [h, h'] <;> decide
  have s0 : M1 100 (0 : Int).toNat = M 100 0 := hi 100 0 (by decide)
  have n100 : ∀ j, M2 100 j = M 100 j := fun j => (hF2.ar 100 j (by decide) (by decide)).trans (hi 100 j (by decide))
  have n99 : ∀ j, M2 99 j = M 99 j := fun j => (hF2.ar 99 j (by decide) (by decide)).trans (hi 99 j (by decide))
  have hJ2 : qJ M2 := by
    by_cases hk : M 100 0 = 0
    · have e1 : hf_166_8_L0 M = (-3, M) := by
        unfold hf_166_8_L0
        simp only [hq_169, t0, hk]
        (repeat' split) <;> first | omega | (rename_i hq; exact absurd trivial hq) | rfl
      have e2 : M1 = M := by rw [hM1, e1]
      have e3 : M2 = M1 := by
        rcases h2 with ⟨-, -, h⟩ | ⟨-, -, -, h⟩ | ⟨-, -, h, -⟩
        · exact h
        · exact h
        · exact absurd (s0.trans hk) h
      rw [e3, e2]; exact hJ
    · obtain ⟨k1, k2, k3⟩ := hm_166_0 hJ.1 (g2 hk) (by rw [t0]; exact hk)
      rw [← hM1] at k2 k3
      have v3 : ∀ j : Nat, j < 5664 → M2 98 j = M1 99 ((5664 * 0 : Int).toNat + j) := by
        rcases h2 with ⟨-, h, -⟩ | ⟨-, -, h, -⟩ | ⟨-, -, -, h⟩
        · exact absurd (by decide) h
        · exact absurd (s0.symm.trans h) hk
        · exact h
      have eA : ∀ r, (r < 9 ∨ 26 ≤ r) → r < 97 → M2 r = M r := fun r h1 h3 => (eL r h3).trans (k3 r h1)
      refine ⟨hC1.same lo, hC2, ?_, ?_, ?_, ?_⟩
      · refine k2.fr (fun r hr => eL r (by omega)) (fun j hj => ?_)
        have q := v3 j hj
        rw [show ((5664 * 0 : Int).toNat + j) = j by omega] at q
        exact q.trans (hi 99 _ (by decide))
      · rw [n100]; exact fun hk => (g2 hk).fr (fun r hr => eA r (by omega) (by omega)) (fun j hj => n99 _)
      · rw [n100]; exact fun hk => (g3 hk).fr (fun r hr => eA r (by omega) (by omega)) (fun j hj => n99 _)
      · rw [n100, n100, eA 8 (by decide) (by decide)]; exact g4
  have hv2 : ∃ x : Int, vr = some (.inl x) := by rcases h2 with ⟨h, -⟩ | ⟨h, -⟩ | ⟨h, -⟩ <;> exact ⟨_, h⟩
  obtain ⟨r2, rfl⟩ := hv2
  have hX2 : qX M2 := hX1.mdl hF2 rfl
  have hU2 : qU M2 := by
    by_cases hk : M 100 0 = 0
    · have e1 : hf_166_8_L0 M = (-3, M) := by
        unfold hf_166_8_L0
        simp only [hq_169, t0, hk]
        (repeat' split) <;> first | omega | (rename_i hq; exact absurd trivial hq) | rfl
      have e3 : M2 = M1 := by
        rcases h2 with ⟨-, -, h⟩ | ⟨-, -, -, h⟩ | ⟨-, -, h, -⟩
        · exact h
        · exact h
        · exact absurd (s0.trans hk) h
      rw [e3, hM1, e1]; exact hU
    · have v3 : ∀ j : Nat, j < 5664 → M2 98 j = M1 99 ((5664 * 0 : Int).toNat + j) := by
        rcases h2 with ⟨-, h, -⟩ | ⟨-, -, h, -⟩ | ⟨-, -, -, h⟩
        · exact absurd (by decide) h
        · exact absurd (s0.symm.trans h) hk
        · exact h
      have e31 : M2 97 31 = -1 := by
        rcases h31 with h | h
        · exfalso
          rcases h2 with ⟨-, w, -⟩ | ⟨-, -, w, -⟩ | ⟨w, -, -, -⟩
          · exact absurd (by decide) w
          · exact absurd (s0.symm.trans w) hk
          · exact h.2 w
        · exact h
      exact hU.frm (a := 0) (by decide) hk n99 n100 (fun j hj => by have q := v3 j hj; rw [show ((5664 * 0 : Int).toNat + j) = 5664 * 0 + j by omega] at q; exact q.trans (hi 99 _ (by decide))) e31 (hJ.2.1.im0 (b := 0) (by decide) hk)
  show zG n (114, 4080270) 300 311 (2118, [zR 0, zR 8, zR 97, .inl i], [.inl r2]) M2 _
  refine zG_blk (c' := (2158, [zR 0, zR 8, zR 97, .inl i], [])) 2 (by decide) hz (zsteps_seg hg rfl) ?_
  exact K M2 ⟨hJ2, hX2, hU2⟩
set_option maxRecDepth 100000 in
theorem qL_43_1 (hY : qY M) (hn : n ≤ 4096) (hi : 0 ≤ i ∧ i + 8 ≤ n) (K : ∀ M', qY M' → zG n (114, 4080270) 300 311 (2158, [zR 0, zR 8, zR 97, .inl i], []) M' qLQ) (hA : ∀ x, x = M 0 (i + 1).toNat → x = 1) : zG n (114, 4080270) 300 311 (2099, [zR 0, zR 8, zR 97, .inl i], []) M qLQ := by
  have hz := zp_311
  have hg := sh_43
  have hJ := hY.1
  have hX := hY.2.1
  have hU := hY.2.2
  refine zG_blk (c' := (2104, [zR 0, zR 8, zR 97, .inl i], [.inl (i + 1), zR 0, zR 8])) 5 (by decide) hz (zsteps_seg hg (by rw [show (.inl (i + 1) : zV) = .inl (w32 (i + 1)) from by rw [w32_id (by omega)]]; rfl)) ?_
  refine zG_iald (by decide) hz (hg _ _ rfl) rfl (.inr rfl) (by omega) ?_
  obtain ⟨x1, hx1⟩ : ∃ x : Int, x = M 0 (i + 1).toNat := ⟨_, rfl⟩
  rw [← hx1]
  have hr1 : qin x1 := by rw [hx1]; exact hJ.1.rng 0 _ (by decide) (by decide)
  obtain rfl : x1 = 1 := hA x1 hx1
  show zG n (114, 4080270) 300 311 (2105, [zR 0, zR 8, zR 97, .inl i], [.inl 1, zR 8]) M _
  refine zG_call (by decide) hz zp_166 (hg _ _ rfl) rfl (Nat.le_of_ble_eq_true rfl) ⟨Nat.le_of_ble_eq_true rfl, Nat.le_of_ble_eq_true rfl⟩ (zG.andH (qe_166_8 (by decide) hJ.1 1 (by omega)) fh_166_8_L1) (fun vr M1 hr => ?_)
  obtain ⟨⟨⟨hC1, hF1⟩, -⟩, rfl, hM1⟩ := hr
  have hi := hF1.hi rfl
  have hI := hJ.2.1.same hi
  have hc0 : ∀ j, M1 0 j = M 0 j := fun j => hF1 0 j (by decide)
  have hX1 : qX M1 := hX.cls hF1 rfl; have hU1 : qU M1 := hU.cg (hF1.hi rfl)
  show zG n (114, 4080270) 300 311 (2108, [zR 0, zR 8, zR 97, .inl i], [.inl (hf_166_8_L1 M).1]) M1 _
  refine zG_blk (c' := (2114, [zR 0, zR 8, zR 97, .inl i], [.inl (i + 1), zR 0, zR 97])) 6 (by decide) hz (zsteps_seg hg (by rw [show (.inl (i + 1) : zV) = .inl (w32 (i + 1)) from by rw [w32_id (by omega)]]; rfl)) ?_
  refine zG_iald (by decide) hz (hg _ _ rfl) rfl (.inr rfl) (by omega) ?_
  rw [show M1 0 (i + 1).toNat = 1 from (hc0 _).trans hx1.symm]
  show zG n (114, 4080270) 300 311 (2115, [zR 0, zR 8, zR 97, .inl i], [.inl 1, zR 97]) M1 _
  refine zG_call (by decide) hz zp_291 (hg _ _ rfl) rfl (Nat.le_of_ble_eq_true rfl) ⟨Nat.le_of_ble_eq_true rfl, Nat.le_of_ble_eq_true rfl⟩ (zG.andH (qx_from (by decide) hI 1 (by omega)) (fh_291_97 1)) (fun vr M2 hr => ?_)
  obtain ⟨⟨⟨hC2, hF2⟩, h2⟩, h31⟩ := hr
  have lo := hF2.lo rfl
  have eL : ∀ r, r < 97 → M2 r = M1 r := fun r hr => funext fun k => lo r k hr
  obtain ⟨g1, g2, g3, g4⟩ := hJ.2.2
  have p0 := hJ.2.1.bl100 0
  have p1 := hJ.2.1.bl100 1
  have t0 : zband (zbshr (M 8 3) 1) 1 = M 100 1 := by rw [g4.2.2]; rcases p0 with h | h <;> rcases p1 with h' | h' <;> rw [h, h'] <;> decide
  have s0 : M1 100 (1 : Int).toNat = M 100 1 := hi 100 1 (by decide)
  have n100 : ∀ j, M2 100 j = M 100 j := fun j => (hF2.ar 100 j (by decide) (by decide)).trans (hi 100 j (by decide))
  have n99 : ∀ j, M2 99 j = M 99 j := fun j => (hF2.ar 99 j (by decide) (by decide)).trans (hi 99 j (by decide))
  have hJ2 : qJ M2 := by
    by_cases hk : M 100 1 = 0
    · have e1 : hf_166_8_L1 M = (-3, M) := by
        unfold hf_166_8_L1
        simp only [hq_169, t0, hk]
        (repeat' split) <;> first | omega | (rename_i hq; exact absurd trivial hq) | rfl
      have e2 : M1 = M := by rw [hM1, e1]
      have e3 : M2 = M1 := by
        rcases h2 with ⟨-, -, h⟩ | ⟨-, -, -, h⟩ | ⟨-, -, h, -⟩
        · exact h
        · exact h
        · exact absurd (s0.trans hk) h
      rw [e3, e2]; exact hJ
    · obtain ⟨k1, k2, k3⟩ := hm_166_1 hJ.1 (g3 hk) (by rw [t0]; exact hk)
      rw [← hM1] at k2 k3
      have v3 : ∀ j : Nat, j < 5664 → M2 98 j = M1 99 ((5664 * 1 : Int).toNat + j) := by
        rcases h2 with ⟨-, h, -⟩ | ⟨-, -, h, -⟩ | ⟨-, -, -, h⟩
        · exact absurd (by decide) h
        · exact absurd (s0.symm.trans h) hk
        · exact h
      have eA : ∀ r, (r < 9 ∨ 26 ≤ r) → r < 97 → M2 r = M r := fun r h1 h3 => (eL r h3).trans (k3 r h1)
      refine ⟨hC1.same lo, hC2, ?_, ?_, ?_, ?_⟩
      · refine k2.fr (fun r hr => eL r (by omega)) (fun j hj => ?_)
        have q := v3 j hj
        rw [show ((5664 * 1 : Int).toNat + j) = (5664 + j) by omega] at q
        exact q.trans (hi 99 _ (by decide))
      · rw [n100]; exact fun hk => (g2 hk).fr (fun r hr => eA r (by omega) (by omega)) (fun j hj => n99 _)
      · rw [n100]; exact fun hk => (g3 hk).fr (fun r hr => eA r (by omega) (by omega)) (fun j hj => n99 _)
      · rw [n100, n100, eA 8 (by decide) (by decide)]; exact g4
  have hv2 : ∃ x : Int, vr = some (.inl x) := by rcases h2 with ⟨h, -⟩ | ⟨h, -⟩ | ⟨h, -⟩ <;> exact ⟨_, h⟩
  obtain ⟨r2, rfl⟩ := hv2
  have hX2 : qX M2 := hX1.mdl hF2 rfl
  have hU2 : qU M2 := by
    by_cases hk : M 100 1 = 0
    · have e1 : hf_166_8_L1 M = (-3, M) := by
        unfold hf_166_8_L1
        simp only [hq_169, t0, hk]
        (repeat' split) <;> first | omega | (rename_i hq; exact absurd trivial hq) | rfl
      have e3 : M2 = M1 := by
        rcases h2 with ⟨-, -, h⟩ | ⟨-, -, -, h⟩ | ⟨-, -, h, -⟩
        · exact h
        · exact h
        · exact absurd (s0.trans hk) h
      rw [e3, hM1, e1]; exact hU
    · have v3 : ∀ j : Nat, j < 5664 → M2 98 j = M1 99 ((5664 * 1 : Int).toNat + j) := by
        rcases h2 with ⟨-, h, -⟩ | ⟨-, -, h, -⟩ | ⟨-, -, -, h⟩
        · exact absurd (by decide) h
        · exact absurd (s0.symm.trans h) hk
        · exact h
      have e31 : M2 97 31 = -1 := by
        rcases h31 with h | h
        · exfalso
          rcases h2 with ⟨-, w, -⟩ | ⟨-, -, w, -⟩ | ⟨w, -, -, -⟩
          · exact absurd (by decide) w
          · exact absurd (s0.symm.trans w) hk
          · exact h.2 w
        · exact h
      exact hU.frm (a := 1) (by decide) hk n99 n100 (fun j hj => by have q := v3 j hj; rw [show ((5664 * 1 : Int).toNat + j) = 5664 * 1 + j by omega] at q; exact q.trans (hi 99 _ (by decide))) e31 (hJ.2.1.im0 (b := 1) (by decide) hk)
  show zG n (114, 4080270) 300 311 (2118, [zR 0, zR 8, zR 97, .inl i], [.inl r2]) M2 _
  refine zG_blk (c' := (2158, [zR 0, zR 8, zR 97, .inl i], [])) 2 (by decide) hz (zsteps_seg hg rfl) ?_
  exact K M2 ⟨hJ2, hX2, hU2⟩
set_option maxRecDepth 100000 in
theorem qL_43_n (hY : qY M) (hn : n ≤ 4096) (hi : 0 ≤ i ∧ i + 8 ≤ n) (K : ∀ M', qY M' → zG n (114, 4080270) 300 311 (2158, [zR 0, zR 8, zR 97, .inl i], []) M' qLQ) (hA : ∀ x, x = M 0 (i + 1).toNat → ¬ (0 ≤ x ∧ x ≤ 1)) : zG n (114, 4080270) 300 311 (2099, [zR 0, zR 8, zR 97, .inl i], []) M qLQ := by
  have hz := zp_311
  have hg := sh_43
  have hJ := hY.1
  have hX := hY.2.1
  have hU := hY.2.2
  refine zG_blk (c' := (2104, [zR 0, zR 8, zR 97, .inl i], [.inl (i + 1), zR 0, zR 8])) 5 (by decide) hz (zsteps_seg hg (by rw [show (.inl (i + 1) : zV) = .inl (w32 (i + 1)) from by rw [w32_id (by omega)]]; rfl)) ?_
  refine zG_iald (by decide) hz (hg _ _ rfl) rfl (.inr rfl) (by omega) ?_
  obtain ⟨x1, hx1⟩ : ∃ x : Int, x = M 0 (i + 1).toNat := ⟨_, rfl⟩
  rw [← hx1]
  have hr1 : qin x1 := by rw [hx1]; exact hJ.1.rng 0 _ (by decide) (by decide)
  have hA9 := hA x1 hx1
  show zG n (114, 4080270) 300 311 (2105, [zR 0, zR 8, zR 97, .inl i], [.inl x1, zR 8]) M _
  refine zG_call (by decide) hz zp_166 (hg _ _ rfl) rfl (Nat.le_of_ble_eq_true rfl) ⟨Nat.le_of_ble_eq_true rfl, Nat.le_of_ble_eq_true rfl⟩ (qe_166_8 (by decide) hJ.1 x1 (by omega)) (fun vr M1 hr => ?_)
  obtain ⟨⟨hC1, hF1⟩, h1⟩ := hr
  have h1' : vr = some (.inl (-2)) ∧ M1 = M := by rcases h1 with ⟨h, -, h'⟩ | ⟨-, h, -⟩ | ⟨-, h, -⟩; exact ⟨h, h'⟩; all_goals exact absurd h hA9
  obtain ⟨rfl, hM1⟩ := h1'
  have hi := hF1.hi rfl
  have hI := hJ.2.1.same hi
  have hc0 : ∀ j, M1 0 j = M 0 j := fun j => hF1 0 j (by decide)
  have hX1 : qX M1 := hX.cls hF1 rfl; have hU1 : qU M1 := hU.cg (hF1.hi rfl)
  show zG n (114, 4080270) 300 311 (2108, [zR 0, zR 8, zR 97, .inl i], [.inl (-2)]) M1 _
  refine zG_blk (c' := (2114, [zR 0, zR 8, zR 97, .inl i], [.inl (i + 1), zR 0, zR 97])) 6 (by decide) hz (zsteps_seg hg (by rw [show (.inl (i + 1) : zV) = .inl (w32 (i + 1)) from by rw [w32_id (by omega)]]; rfl)) ?_
  refine zG_iald (by decide) hz (hg _ _ rfl) rfl (.inr rfl) (by omega) ?_
  rw [show M1 0 (i + 1).toNat = x1 from (hc0 _).trans hx1.symm]
  show zG n (114, 4080270) 300 311 (2115, [zR 0, zR 8, zR 97, .inl i], [.inl x1, zR 97]) M1 _
  refine zG_call (by decide) hz zp_291 (hg _ _ rfl) rfl (Nat.le_of_ble_eq_true rfl) ⟨Nat.le_of_ble_eq_true rfl, Nat.le_of_ble_eq_true rfl⟩ (qx_from (by decide) hI x1 (by omega)) (fun vr M2 hr => ?_)
  obtain ⟨⟨hC2, hF2⟩, h2⟩ := hr
  have lo := hF2.lo rfl
  have eL : ∀ r, r < 97 → M2 r = M1 r := fun r hr => funext fun k => lo r k hr
  obtain ⟨g1, g2, g3, g4⟩ := hJ.2.2
  have h2' : vr = some (.inl (-2)) ∧ M2 = M1 := by rcases h2 with ⟨h, -, h'⟩ | ⟨-, h, -⟩ | ⟨-, h, -⟩; exact ⟨h, h'⟩; all_goals exact absurd h hA9
  obtain ⟨rfl, hM2⟩ := h2'
  have hJ2 : qJ M2 := by rw [hM2, hM1]; exact hJ
  have hX2 : qX M2 := hX1.mdl hF2 rfl
  have hU2 : qU M2 := by rw [hM2, hM1]; exact hU
  show zG n (114, 4080270) 300 311 (2118, [zR 0, zR 8, zR 97, .inl i], [.inl (-2)]) M2 _
  refine zG_blk (c' := (2158, [zR 0, zR 8, zR 97, .inl i], [])) 2 (by decide) hz (zsteps_seg hg rfl) ?_
  exact K M2 ⟨hJ2, hX2, hU2⟩
theorem qL_43 (hY : qY M) (hn : n ≤ 4096) (hi : 0 ≤ i ∧ i + 8 ≤ n) (K : ∀ M', qY M' → zG n (114, 4080270) 300 311 (2158, [zR 0, zR 8, zR 97, .inl i], []) M' qLQ) : zG n (114, 4080270) 300 311 (2099, [zR 0, zR 8, zR 97, .inl i], []) M qLQ := by
  by_cases h0 : M 0 (i + 1).toNat = 0
  · exact qL_43_0 hY hn hi K (fun x hx => hx.trans h0)
  · by_cases h1 : M 0 (i + 1).toNat = 1
    · exact qL_43_1 hY hn hi K (fun x hx => hx.trans h1)
    · exact qL_43_n hY hn hi K (fun x hx => by omega)
noncomputable def sg_44 : List zE := [(2122, .aload_n ⟨1, zfin1⟩, 2123, zx0),
  (2123, .aload_n ⟨0, zfin0⟩, 2124, zx0),
  (2124, .iload_n ⟨3, zfin3⟩, 2125, zx0),
  (2125, .iconst 1, 2126, zx0),
  (2126, .iadd, 2127, zx0),
  (2127, .iaload, 2128, zx0),
  (2128, .invokevirtual 202, 2131, (167, 2, 0, [11])),
  (2131, .pop, 2132, zx0),
  (2132, .aload_n ⟨2, zfin2⟩, 2133, zx0),
  (2133, .aload_n ⟨0, zfin0⟩, 2134, zx0),
  (2134, .iload_n ⟨3, zfin3⟩, 2135, zx0),
  (2135, .iconst 1, 2136, zx0),
  (2136, .iadd, 2137, zx0),
  (2137, .iaload, 2138, zx0),
  (2138, .invokevirtual 205, 2141, (293, 2, 0, [12])),
  (2141, .pop, 2142, zx0),
  (2142, .goto (16), 2145, (2158, 0, 0, []))]
set_option maxRecDepth 100000 in
theorem sh_44 : zSeg zk_L_law sg_44 := zSeg_of 1614 17 2122 (by decide +kernel) rfl (by decide +kernel)
set_option maxRecDepth 100000 in
theorem qL_44 (hY : qY M) (hn : n ≤ 4096) (hi : 0 ≤ i ∧ i + 8 ≤ n) (K : ∀ M', qY M' → zG n (114, 4080270) 300 311 (2158, [zR 0, zR 8, zR 97, .inl i], []) M' qLQ) : zG n (114, 4080270) 300 311 (2122, [zR 0, zR 8, zR 97, .inl i], []) M qLQ := by
  have hz := zp_311
  have hg := sh_44
  have hJ := hY.1
  have hX := hY.2.1
  have hU := hY.2.2
  refine zG_blk (c' := (2127, [zR 0, zR 8, zR 97, .inl i], [.inl (i + 1), zR 0, zR 8])) 5 (by decide) hz (zsteps_seg hg (by rw [show (.inl (i + 1) : zV) = .inl (w32 (i + 1)) from by rw [w32_id (by omega)]]; rfl)) ?_
  refine zG_iald (by decide) hz (hg _ _ rfl) rfl (.inr rfl) (by omega) ?_
  obtain ⟨x1, hx1⟩ : ∃ x : Int, x = M 0 (i + 1).toNat := ⟨_, rfl⟩
  rw [← hx1]
  have hr1 : qin x1 := by rw [hx1]; exact hJ.1.rng 0 _ (by decide) (by decide)
  show zG n (114, 4080270) 300 311 (2128, [zR 0, zR 8, zR 97, .inl i], [.inl x1, zR 8]) M _
  refine zG_call (by decide) hz zp_167 (hg _ _ rfl) rfl (Nat.le_of_ble_eq_true rfl) ⟨Nat.le_of_ble_eq_true rfl, Nat.le_of_ble_eq_true rfl⟩ (qm_167_8 (by decide) hJ.1 x1 (by omega)) (fun vr M1 hr => ?_)
  obtain ⟨hq, hr⟩ := hr
  replace hq := hq.symm; subst hq
  have hc0 : ∀ j, M 0 j = M 0 j := fun _ => rfl
  obtain ⟨r1, rfl, -⟩ := hr
  show zG n (114, 4080270) 300 311 (2131, [zR 0, zR 8, zR 97, .inl i], [.inl r1]) M _
  refine zG_blk (c' := (2137, [zR 0, zR 8, zR 97, .inl i], [.inl (i + 1), zR 0, zR 97])) 6 (by decide) hz (zsteps_seg hg (by rw [show (.inl (i + 1) : zV) = .inl (w32 (i + 1)) from by rw [w32_id (by omega)]]; rfl)) ?_
  refine zG_iald (by decide) hz (hg _ _ rfl) rfl (.inr rfl) (by omega) ?_
  rw [show M 0 (i + 1).toNat = x1 from hx1.symm]
  show zG n (114, 4080270) 300 311 (2138, [zR 0, zR 8, zR 97, .inl i], [.inl x1, zR 97]) M _
  refine zG_call (by decide) hz zp_293 (hg _ _ rfl) rfl (Nat.le_of_ble_eq_true rfl) ⟨Nat.le_of_ble_eq_true rfl, Nat.le_of_ble_eq_true rfl⟩ (qm_293_97 (by decide) hJ.2.1 x1 (by omega)) (fun vr M2 hr => ?_)
  obtain ⟨hq, hr⟩ := hr
  replace hq := hq.symm; subst hq
  obtain ⟨r2, hv9⟩ := hr
  first | (obtain ⟨rfl, -⟩ := hv9) | (obtain rfl := hv9)
  show zG n (114, 4080270) 300 311 (2141, [zR 0, zR 8, zR 97, .inl i], [.inl r2]) M _
  refine zG_blk (c' := (2158, [zR 0, zR 8, zR 97, .inl i], [])) 2 (by decide) hz (zsteps_seg hg rfl) ?_
  exact K M ⟨hJ, hX, hU⟩
noncomputable def sg_45 : List zE := [(2145, .aload_n ⟨1, zfin1⟩, 2146, zx0),
  (2146, .invokevirtual 206, 2149, (168, 1, 0, [11])),
  (2149, .pop2, 2150, zx0),
  (2150, .aload_n ⟨2, zfin2⟩, 2151, zx0),
  (2151, .invokevirtual 210, 2154, (295, 1, 0, [12])),
  (2154, .pop2, 2155, zx0),
  (2155, .goto (3), 2158, (2158, 0, 0, []))]
set_option maxRecDepth 100000 in
theorem sh_45 : zSeg zk_L_law sg_45 := zSeg_of 1631 7 2145 (by decide +kernel) rfl (by decide +kernel)
set_option maxRecDepth 100000 in
theorem qL_45 (hY : qY M) (hn : n ≤ 4096) (hi : 0 ≤ i ∧ i + 8 ≤ n) (K : ∀ M', qY M' → zG n (114, 4080270) 300 311 (2158, [zR 0, zR 8, zR 97, .inl i], []) M' qLQ) : zG n (114, 4080270) 300 311 (2145, [zR 0, zR 8, zR 97, .inl i], []) M qLQ := by
  have hz := zp_311
  have hg := sh_45
  have hJ := hY.1
  have hX := hY.2.1
  have hU := hY.2.2
  refine zG_blk (c' := (2146, [zR 0, zR 8, zR 97, .inl i], [zR 8])) 1 (by decide) hz (zsteps_seg hg rfl) ?_
  refine zG_call (by decide) hz zp_168 (hg _ _ rfl) rfl (Nat.le_of_ble_eq_true rfl) ⟨Nat.le_of_ble_eq_true rfl, Nat.le_of_ble_eq_true rfl⟩ (qm_168_8 (by decide) hJ.1 ) (fun vr M1 hr => ?_)
  obtain ⟨hq, hr⟩ := hr
  replace hq := hq.symm; subst hq
  have hc0 : ∀ j, M 0 j = M 0 j := fun _ => rfl
  obtain ⟨r1, rfl⟩ := hr
  show zG n (114, 4080270) 300 311 (2149, [zR 0, zR 8, zR 97, .inl i], [(.inr (.inl r1))]) M _
  refine zG_blk (c' := (2151, [zR 0, zR 8, zR 97, .inl i], [zR 97])) 2 (by decide) hz (zsteps_seg hg rfl) ?_
  refine zG_call (by decide) hz zp_295 (hg _ _ rfl) rfl (Nat.le_of_ble_eq_true rfl) ⟨Nat.le_of_ble_eq_true rfl, Nat.le_of_ble_eq_true rfl⟩ (qm_295_97 (by decide) hJ.2.1 ) (fun vr M2 hr => ?_)
  obtain ⟨hq, hr⟩ := hr
  replace hq := hq.symm; subst hq
  obtain ⟨r2, hv9⟩ := hr
  first | (obtain ⟨rfl, -⟩ := hv9) | (obtain rfl := hv9)
  show zG n (114, 4080270) 300 311 (2154, [zR 0, zR 8, zR 97, .inl i], [(.inr (.inl r2))]) M _
  refine zG_blk (c' := (2158, [zR 0, zR 8, zR 97, .inl i], [])) 2 (by decide) hz (zsteps_seg hg rfl) ?_
  exact K M ⟨hJ, hX, hU⟩
set_option maxRecDepth 100000 in
theorem qL_all (hn : n ≤ 4096) : ∀ (N : Nat) (i : Int) (M : zM), ((n : Int) + 8 - i).toNat < N → 0 ≤ i ∧ i ≤ n + 8 → qY M → zG n (114, 4080270) 300 311 (18, [zR 0, zR 8, zR 97, .inl i], []) M qLQ := by
  have hz := zp_311
  intro N
  induction N with
  | zero => intro i M hN; exact absurd hN (Nat.not_lt_zero _)
  | succ N ih =>
    intro i M hN hi hJ
    refine zG_blk (c' := (20, [zR 0, zR 8, zR 97, .inl i], [zR 0, .inl i])) 2 (by decide) hz rfl ?_
    refine zG_alen (by decide) hz rfl rfl ?_
    refine zG_blk (c' := (24, [zR 0, zR 8, zR 97, .inl i], [.inl ((n : Int) - 8), .inl i])) 2 (by decide) hz (by rw [show (.inl ((n : Int) - 8) : zV) = .inl (w32 ((n : Int) - 8)) from by rw [w32_id (by omega)]]; rfl) ?_
    refine zG_icmp_gt (by decide) hz rfl (fun hb => ?_) (fun hb => ?_)
    · refine zG_blk (c' := (2165, [zR 0, zR 8, zR 97, .inl i], [.inl 1])) 1 (by decide) hz rfl ?_
      exact zG_zret (by decide) hz rfl (.inr rfl) rfl
    · have K : ∀ M', qY M' → zG n (114, 4080270) 300 311 (2158, [zR 0, zR 8, zR 97, .inl i], []) M' qLQ := by
        intro M' hJ'
        refine zG_blk (c' := (18, [zR 0, zR 8, zR 97, .inl (i + 8)], [])) 2 (by decide) hz (by rw [show (.inl (i + 8) : zV) = .inl (w32 (i + 8)) from by rw [w32_id (by omega)]]; rfl) ?_
        exact ih (i + 8) M' (by omega) (by omega) hJ'
      have hi8 : 0 ≤ i ∧ i + 8 ≤ n := by omega
      refine zG_blk (c' := (29, [zR 0, zR 8, zR 97, .inl i], [.inl i, zR 0])) 2 (by decide) hz rfl ?_
      refine zG_iald (by decide) hz rfl rfl (.inr rfl) (by omega) ?_
      refine zG_blk (c' := (33, [zR 0, zR 8, zR 97, .inl i], [.inl (zband (M 0 i.toNat) 63)])) 2 (by decide) hz rfl ?_
      refine zG_sw (by decide) hz rfl ?_
      refine zts_all (P := fun t => zG n (114, 4080270) 300 311 (t, [zR 0, zR 8, zR 97, .inl i], []) M _) (K M hJ) ?_
      intro t ht
      simp only [List.mem_cons, List.not_mem_nil, or_false] at ht
      rcases ht with rfl | rfl | rfl | rfl | rfl | rfl | rfl | rfl | rfl | rfl | rfl | rfl | rfl | rfl | rfl | rfl | rfl | rfl | rfl | rfl | rfl | rfl | rfl | rfl | rfl | rfl | rfl | rfl | rfl | rfl | rfl | rfl | rfl | rfl | rfl | rfl | rfl | rfl | rfl | rfl | rfl | rfl | rfl | rfl | rfl | rfl
      · exact qL_0 hJ hn hi8 K
      · exact qL_1 hJ hn hi8 K
      · exact qL_2 hJ hn hi8 K
      · exact qL_3 hJ hn hi8 K
      · exact qL_4 hJ hn hi8 K
      · exact qL_5 hJ hn hi8 K
      · exact qL_6 hJ hn hi8 K
      · exact qL_7 hJ hn hi8 K
      · exact qL_8 hJ hn hi8 K
      · exact qL_9 hJ hn hi8 K
      · exact qL_10 hJ hn hi8 K
      · exact qL_11 hJ hn hi8 K
      · exact qL_12 hJ hn hi8 K
      · exact qL_13 hJ hn hi8 K
      · exact qL_14 hJ hn hi8 K
      · exact qL_15 hJ hn hi8 K
      · exact qL_16 hJ hn hi8 K
      · exact qL_17 hJ hn hi8 K
      · exact qL_18 hJ hn hi8 K
      · exact qL_19 hJ hn hi8 K
      · exact qL_20 hJ hn hi8 K
      · exact qL_21 hJ hn hi8 K
      · exact qL_22 hJ hn hi8 K
      · exact qL_23 hJ hn hi8 K
      · exact qL_24 hJ hn hi8 K
      · exact qL_25 hJ hn hi8 K
      · exact qL_26 hJ hn hi8 K
      · exact qL_27 hJ hn hi8 K
      · exact qL_28 hJ hn hi8 K
      · exact qL_29 hJ hn hi8 K
      · exact qL_30 hJ hn hi8 K
      · exact qL_31 hJ hn hi8 K
      · exact qL_32 hJ hn hi8 K
      · exact qL_33 hJ hn hi8 K
      · exact qL_34 hJ hn hi8 K
      · exact qL_35 hJ hn hi8 K
      · exact qL_36 hJ hn hi8 K
      · exact qL_37 hJ hn hi8 K
      · exact qL_38 hJ hn hi8 K
      · exact qL_39 hJ hn hi8 K
      · exact qL_40 hJ hn hi8 K
      · exact qL_41 hJ hn hi8 K
      · exact qL_42 hJ hn hi8 K
      · exact qL_43 hJ hn hi8 K
      · exact qL_44 hJ hn hi8 K
      · exact qL_45 hJ hn hi8 K
end LW

