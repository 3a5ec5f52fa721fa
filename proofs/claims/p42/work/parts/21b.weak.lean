/-! WHAT A LOCAL HOLDS THAT NOBODY ASKS FOR DOES NOT MATTER -/
def zLe : List zV → List zV → Prop
  | [], [] => True
  | a :: l, b :: l' => (a = zN ∨ a = b) ∧ zLe l l'
  | _, _ => False
theorem zLe.rfl : ∀ (L : List zV), zLe L L
  | [] => trivial
  | _ :: l => ⟨.inr (Eq.refl _), zLe.rfl l⟩
theorem zLe.len : ∀ {L L' : List zV}, zLe L L' → L.length = L'.length
  | [], [], _ => Eq.refl _
  | _ :: _, _ :: _, h => by simp [zLe.len h.2]
  | [], _ :: _, h => h.elim
  | _ :: _, [], h => h.elim
theorem zLe.get : ∀ {L L' : List zV} {i : Nat} {a : zV}, zLe L L' → L[i]? = some a → a ≠ zN → L'[i]? = some a
  | [], [], _, _, _, h, _ => by simp at h
  | b :: l, c :: l', 0, a, h, e, hn => by
    simp at e; subst e
    rcases h.1 with h1 | h1
    · exact absurd h1 hn
    · simp [h1]
  | b :: l, c :: l', i + 1, a, h, e, hn => by
    simp at e ⊢; exact zLe.get h.2 e hn
  | [], _ :: _, _, _, h, _, _ => h.elim
  | _ :: _, [], _, _, h, _, _ => h.elim
theorem zLe.set : ∀ {L L' : List zV} {i : Nat} {v : zV}, zLe L L' → zLe (L.set i v) (L'.set i v)
  | [], [], _, _, _ => trivial
  | b :: l, c :: l', 0, v, h => ⟨.inr (Eq.refl _), h.2⟩
  | b :: l, c :: l', i + 1, v, h => ⟨h.1, zLe.set h.2⟩
  | [], _ :: _, _, _, h => h.elim
  | _ :: _, [], _, _, h => h.elim
theorem zLe.setR : ∀ {L L' : List zV} {i : Nat}, zLe L L' → L[i]? = some zN → zLe L (L'.set i zN)
  | [], [], _, _, h => by simp at h
  | b :: l, c :: l', 0, h, e => by
    simp at e; exact ⟨.inr e, h.2⟩
  | b :: l, c :: l', i + 1, h, e => by
    simp at e; exact ⟨h.1, zLe.setR h.2 e⟩
  | [], _ :: _, _, h, _ => h.elim
  | _ :: _, [], _, h, _ => h.elim
theorem zLe.none {L L' : List zV} {i : Nat} (h : zLe L L') (e : L[i]? = none) : L'[i]? = none := by
  have := h.len
  rw [List.getElem?_eq_none_iff] at e ⊢
  omega
theorem zLe.clr {L L' : List zV} {i : Nat} (h : zLe L L') : zLe (zclr L i) (zclr L' i) := by
  unfold zclr
  cases i with
  | zero => exact h
  | succ j =>
    simp only
    cases e : L[j]? with
    | none => rw [h.none e]; exact h
    | some a =>
      rcases a with x | x | x
      · rw [h.get e (by intro hh; cases hh)]; exact h
      · rw [h.get e (by intro hh; cases hh)]; exact h.set
      · cases x with
        | some r => rw [h.get e (by intro hh; cases hh)]; exact h
        | none =>
          simp only
          split
          · exact h.setR e
          · exact h
theorem zLe.sto {L L' : List zV} {i : Nat} {v : zV} (h : zLe L L') : zLe (zsto L i v) (zsto L' i v) := h.clr.set
theorem zLe.stl {L L' : List zV} {i : Nat} {v : zV} (h : zLe L L') : zLe (zstl L i v) (zstl L' i v) := h.clr.set.set
def zOle : ((zC × zW) ⊕ (Option zV ⊕ (Nat × List zV × zC))) → ((zC × zW) ⊕ (Option zV ⊕ (Nat × List zV × zC))) → Prop
  | .inl (c, w), .inl (c', w') => c'.1 = c.1 ∧ zLe c.2.1 c'.2.1 ∧ c'.2.2 = c.2.2 ∧ w' = w
  | .inr (.inl v), .inr (.inl v') => v' = v
  | .inr (.inr (y, as, c)), .inr (.inr (y', as', c')) => y' = y ∧ as' = as ∧ c'.1 = c.1 ∧ zLe c.2.1 c'.2.1 ∧ c'.2.2 = c.2.2
  | _, _ => False
def zOl (o o' : zO) : Prop := ∀ x, o = some x → ∃ x', o' = some x' ∧ zOle x x'
theorem zOl.none {o' : zO} : zOl none o' := fun _ h => nomatch h
theorem zOl.go {n : Nat} {L L' st : List zV} {w : zW} (h : zLe L L') : zOl (zgo n L st w) (zgo n L' st w) := fun x e => by
  cases e; exact ⟨_, rfl, rfl, h, rfl, rfl⟩
theorem zOl.ld {L L' st : List zV} {i n k : Nat} {w : zW} (h : zLe L L') : zOl (zld L i n k st w) (zld L' i n k st w) := by
  unfold zld
  cases e : L[i]? with
  | none => exact zOl.none
  | some a =>
    rcases a with x | x | x
    · rw [h.get e (by intro hh; cases hh)]; split <;> first | exact zOl.go h | exact zOl.none
    · rw [h.get e (by intro hh; cases hh)]; split <;> first | exact zOl.go h | exact zOl.none
    · cases x with
      | some r => rw [h.get e (by intro hh; cases hh)]; split <;> first | exact zOl.go h | exact zOl.none
      | none => exact zOl.none
theorem zOl.ss {L L' st : List zV} {i n k : Nat} {w : zW} (h : zLe L L') : zOl (zss L i n k st w) (zss L' i n k st w) := by
  have hl := h.len
  unfold zss
  split
  · rw [hl]; split <;> first | exact zOl.go h.sto | exact zOl.none
  · rw [hl]; split <;> first | exact zOl.go h.stl | exact zOl.none
  · rw [hl]; split <;> first | exact zOl.go h.sto | exact zOl.none
  · exact zOl.none
