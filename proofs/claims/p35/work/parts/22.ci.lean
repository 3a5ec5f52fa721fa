/-! THE CLASS'S INVARIANT, FRAMES, RULES OVER THEM -/
abbrev qin (x : Int) : Prop := -2147483648 ≤ x ∧ x ≤ 2147483647
/-- the tables: cell, limit, columns; what they hold lies in the next cell -/
def qRTL : List (Nat × Nat × Nat) := [(10, 14, 4), (12, 20, 3), (14, 4, 2), (16, 40, 5), (18, 250, 11), (20, 8, 81), (22, 10, 164), (24, 12, 2), (27, 14, 4), (29, 20, 3), (31, 4, 2), (33, 40, 5), (35, 250, 11), (37, 8, 81), (39, 10, 164), (41, 12, 2), (44, 14, 4), (46, 20, 3), (48, 4, 2), (50, 40, 5), (52, 250, 11), (54, 8, 81), (56, 10, 164), (58, 12, 2), (61, 250, 4), (63, 280, 4), (65, 250, 1), (68, 1, 81), (70, 80, 1), (77, 1, 164), (79, 20, 3), (83, 14, 1), (85, 8, 1)]
def qRZ (r : Nat) : Bool := qRTL.any (fun t => t.1 == r)
def qLG : List Nat := [73, 74, 93, 94]
def qSP (r k : Nat) : Bool := (qRZ r && (k == 0 || k == 1 || k == 3)) || (r == 72 && (k == 3 || k == 5)) || (r == 87 && k == 5) || ((r == 4 || r == 6) && k == 1)
def qCI (M : zM) : Prop := (∀ r l c, (r, l, c) ∈ qRTL → M r 0 = l ∧ M r 1 = c ∧ 0 ≤ M r 3 ∧ M r 3 ≤ l) ∧ (0 ≤ M 72 3 ∧ M 72 3 ≤ 14) ∧ (M 72 5 = 0 ∨ M 72 5 = 1) ∧ (0 ≤ M 87 5 ∧ M 87 5 ≤ 9) ∧ (∀ r k, r < 97 → r ∉ qLG → qin (M r k)) ∧ (M 4 1 = 0 ∧ M 6 1 = 0)
theorem qCI.rows {M : zM} (h : qCI M) : ∀ r l c, (r, l, c) ∈ qRTL → M r 0 = l ∧ M r 1 = c ∧ 0 ≤ M r 3 ∧ M r 3 ≤ l := h.1
theorem qCI.rk {M : zM} (h : qCI M) : 0 ≤ M 72 3 ∧ M 72 3 ≤ 14 := h.2.1
theorem qCI.um {M : zM} (h : qCI M) : M 72 5 = 0 ∨ M 72 5 = 1 := h.2.2.1
theorem qCI.pp {M : zM} (h : qCI M) : 0 ≤ M 87 5 ∧ M 87 5 ≤ 9 := h.2.2.2.1
theorem qCI.rng {M : zM} (h : qCI M) : ∀ r k, r < 97 → r ∉ qLG → qin (M r k) := h.2.2.2.2.1
theorem qCI.st {M : zM} (h : qCI M) : M 4 1 = 0 ∧ M 6 1 = 0 := h.2.2.2.2.2
def qFr (g : List Nat) (M M' : zM) : Prop := ∀ i j, i ∉ g → M' i j = M i j
def qWf (C : zM → Prop) (g : List Nat) (M M' : zM) : Prop := C M' ∧ qFr g M M'
theorem qFr.rfl {g : List Nat} {M : zM} : qFr g M M := fun _ _ _ => Eq.refl _
theorem qFr.tr {g g' : List Nat} {M M1 M2 : zM} (h : qFr g M M1) (h' : qFr g' M1 M2) (hs : g' ⊆ g) : qFr g M M2 := fun i j hi => (h' i j (fun hx => hi (hs hx))).trans (h i j hi)
theorem qFr.put {g : List Nat} {M M1 : zM} {r k : Nat} {x : Int} (h : qFr g M M1) (hr : r ∈ g) : qFr g M (zput M1 r k x) := fun i j hi => by
  have : i ≠ r := fun e => hi (e ▸ hr)
  simp only [zput, if_neg this]
  exact h i j hi
theorem qWf.tr {C : zM → Prop} {g g' : List Nat} {M M1 M2 : zM} (h : qWf C g M M1) (h' : qWf C g' M1 M2) (hs : g' ⊆ g) : qWf C g M M2 := ⟨h'.1, h.2.tr h'.2 hs⟩
theorem qput_ne {M : zM} {r k i j : Nat} {x : Int} (h : i ≠ r) : zput M r k x i j = M i j := by simp only [zput, if_neg h]
theorem qput_nk {M : zM} {r k i j : Nat} {x : Int} (h : j ≠ k) : zput M r k x i j = M i j := by
  simp only [zput, if_neg h]; split <;> rfl
theorem qput_eq {M : zM} {r k : Nat} {x : Int} : zput M r k x r k = x := by simp only [zput, if_pos]
theorem qput_or (M : zM) (r k i j : Nat) (x : Int) : zput M r k x i j = M i j ∨ (i = r ∧ j = k ∧ zput M r k x i j = x) := by
  by_cases h : i = r
  · by_cases h' : j = k
    · subst h; subst h'; exact .inr ⟨rfl, rfl, qput_eq⟩
    · exact .inl (qput_nk h')
  · exact .inl (qput_ne h)
theorem qRTL_one : ∀ a ∈ qRTL, ∀ b ∈ qRTL, a.1 = b.1 → a = b := by decide +kernel
theorem qRTL_rz : ∀ a ∈ qRTL, qRZ a.1 = true ∧ a.2.1 ≤ 1000 ∧ a.1 < 97 ∧ a.1 ≠ 72 ∧ a.1 ≠ 87 ∧ a.1 ∉ qLG ∧ a.1 ≠ 4 ∧ a.1 ≠ 6 := by decide +kernel
theorem qCI.put {M : zM} {r k : Nat} {x : Int} (h : qCI M) (hs : qSP r k = false) (hx : qin x ∨ r ∈ qLG ∨ 97 ≤ r) : qCI (zput M r k x) := by
  have key : ∀ i j, qSP i j = true → zput M r k x i j = M i j := by
    intro i j hi
    rcases qput_or M r k i j x with e | ⟨rfl, rfl, -⟩
    · exact e
    · rw [hs] at hi; cases hi
  refine ⟨fun i l c hm => ?_, ?_, ?_, ?_, fun i j hi hl => ?_, ?_⟩
  · have hz := (qRTL_rz _ hm).1
    have := h.rows i l c hm
    rw [key i 0 (by simp [qSP, hz]), key i 1 (by simp [qSP, hz]), key i 3 (by simp [qSP, hz])]
    exact this
  · rw [key 72 3 (by decide)]; exact h.rk
  · rw [key 72 5 (by decide)]; exact h.um
  · rw [key 87 5 (by decide)]; exact h.pp
  · rcases qput_or M r k i j x with e | ⟨rfl, rfl, e⟩
    · rw [e]; exact h.rng i j hi hl
    · rw [e]; rcases hx with hx | hx | hx
      · exact hx
      · exact absurd hx hl
      · omega
  · rw [key 4 1 (by decide), key 6 1 (by decide)]; exact h.st
theorem qCI.putU {M : zM} {r l c : Nat} {x : Int} (h : qCI M) (hm : (r, l, c) ∈ qRTL) (hx : 0 ≤ x ∧ x ≤ l) : qCI (zput M r 3 x) := by
  have hz := qRTL_rz _ hm
  refine ⟨fun i l' c' hm' => ?_, ?_, ?_, ?_, fun i j hi hl => ?_, ?_⟩
  · have := h.rows i l' c' hm'
    rw [qput_nk (by decide), qput_nk (by decide)]
    refine ⟨this.1, this.2.1, ?_⟩
    rcases qput_or M r 3 i 3 x with e | ⟨rfl, -, e⟩
    · rw [e]; exact this.2.2
    · rw [e]
      have := qRTL_one _ hm _ hm' rfl
      cases this
      exact hx
  · rw [qput_ne hz.2.2.2.1.symm]; exact h.rk
  · rw [qput_ne hz.2.2.2.1.symm]; exact h.um
  · rw [qput_ne hz.2.2.2.2.1.symm]; exact h.pp
  · rcases qput_or M r 3 i j x with e | ⟨rfl, rfl, e⟩
    · rw [e]; exact h.rng i j hi hl
    · rw [e]; have := hz.2.1; simp only at this; omega
  · rw [qput_ne hz.2.2.2.2.2.2.1.symm, qput_ne hz.2.2.2.2.2.2.2.symm]; exact h.st
theorem qCI.putRk {M : zM} {x : Int} (h : qCI M) (hx : 0 ≤ x ∧ x ≤ 14) : qCI (zput M 72 3 x) := by
  refine ⟨fun i l c hm => ?_, ?_, ?_, ?_, fun i j hi hl => ?_, ?_⟩
  · have hz := qRTL_rz _ hm
    rw [qput_ne hz.2.2.2.1, qput_ne hz.2.2.2.1, qput_ne hz.2.2.2.1]; exact h.rows i l c hm
  · rw [qput_eq]; exact hx
  · rw [qput_nk (by decide)]; exact h.um
  · rw [qput_ne (by decide)]; exact h.pp
  · rcases qput_or M 72 3 i j x with e | ⟨rfl, rfl, e⟩
    · rw [e]; exact h.rng i j hi hl
    · rw [e]; omega
  · rw [qput_ne (by decide), qput_ne (by decide)]; exact h.st
theorem qCI.putUm {M : zM} {x : Int} (h : qCI M) (hx : x = 0 ∨ x = 1) : qCI (zput M 72 5 x) := by
  refine ⟨fun i l c hm => ?_, ?_, ?_, ?_, fun i j hi hl => ?_, ?_⟩
  · have hz := qRTL_rz _ hm
    rw [qput_ne hz.2.2.2.1, qput_ne hz.2.2.2.1, qput_ne hz.2.2.2.1]; exact h.rows i l c hm
  · rw [qput_nk (by decide)]; exact h.rk
  · rw [qput_eq]; exact hx
  · rw [qput_ne (by decide)]; exact h.pp
  · rcases qput_or M 72 5 i j x with e | ⟨rfl, rfl, e⟩
    · rw [e]; exact h.rng i j hi hl
    · rw [e]; omega
  · rw [qput_ne (by decide), qput_ne (by decide)]; exact h.st
theorem qCI.putPp {M : zM} {x : Int} (h : qCI M) (hx : 0 ≤ x ∧ x ≤ 9) : qCI (zput M 87 5 x) := by
  refine ⟨fun i l c hm => ?_, ?_, ?_, ?_, fun i j hi hl => ?_, ?_⟩
  · have hz := qRTL_rz _ hm
    rw [qput_ne hz.2.2.2.2.1, qput_ne hz.2.2.2.2.1, qput_ne hz.2.2.2.2.1]; exact h.rows i l c hm
  · rw [qput_ne (by decide)]; exact h.rk
  · rw [qput_ne (by decide)]; exact h.um
  · rw [qput_eq]; exact hx
  · rcases qput_or M 87 5 i j x with e | ⟨rfl, rfl, e⟩
    · rw [e]; exact h.rng i j hi hl
    · rw [e]; omega
  · rw [qput_ne (by decide), qput_ne (by decide)]; exact h.st
theorem qCI.copy {M : zM} {a b s e k : Nat} (h : qCI M) (hb : qRZ b = false ∧ b ≠ 72 ∧ b ≠ 87 ∧ b ≠ 4 ∧ b ≠ 6) (ha : a < 97 ∧ a ∉ qLG) : qCI (zcopy M a b s e k) := by
  have key : ∀ i j, i ≠ b → zcopy M a b s e k i j = M i j := fun i j hi => by simp only [zcopy, if_neg hi]
  refine ⟨fun i l c hm => ?_, ?_, ?_, ?_, fun i j hi hl => ?_, ?_⟩
  · have hz := (qRTL_rz _ hm).1
    have hn : i ≠ b := fun e => by subst e; rw [hb.1] at hz; cases hz
    rw [key i 0 hn, key i 1 hn, key i 3 hn]; exact h.rows i l c hm
  · rw [key 72 3 (Ne.symm hb.2.1)]; exact h.rk
  · rw [key 72 5 (Ne.symm hb.2.1)]; exact h.um
  · rw [key 87 5 (Ne.symm hb.2.2.1)]; exact h.pp
  · simp only [zcopy]
    split
    · split
      · exact h.rng _ _ ha.1 ha.2
      · exact h.rng i j hi hl
    · exact h.rng i j hi hl
  · rw [key 4 1 (Ne.symm hb.2.2.2.1), key 6 1 (Ne.symm hb.2.2.2.2)]; exact h.st
/-- a method is good: it returns, keeps C, changes no cell but those of g -/
def qOkM (n d μ : Nat) (as : List zV) (mL : Nat) (C : zM → Prop) (g : List Nat) (M : zM) (R : Option zV → Prop) : Prop :=
  zG n (0, 0) d μ (0, zini as mL, []) M (fun v M' => qWf C g M M' ∧ R v)
/-- it returns and changes nothing -/
def qOkP (n d μ : Nat) (as : List zV) (mL : Nat) (M : zM) (R : Option zV → Prop) : Prop :=
  zG n (0, 0) d μ (0, zini as mL, []) M (fun v M' => M' = M ∧ R v)
def qRi (P : Int → Prop) : Option zV → Prop := fun v => ∃ x : Int, v = some (.inl x) ∧ P x
def qRl : Option zV → Prop := fun v => ∃ x : Int, v = some (.inr (.inl x))
def qRn : Option zV → Prop := fun v => v = none
