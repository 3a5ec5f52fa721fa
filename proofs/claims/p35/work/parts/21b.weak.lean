/-! WHAT A LOCAL HOLDS THAT NOBODY ASKS FOR DOES NOT MATTER -/
def zLe : List zV → List zV → Prop
  | [], [] => True
  | a :: l, b :: l' => (a = zN ∨ a = b) ∧ zLe l l'
  | _, _ => False
theorem zLe.rfl : ∀ (L : List zV), zLe L L
  | [] => trivial
  | _ :: l => ⟨.inr (Eq.refl _), zLe.rfl l⟩
theorem zLe.len : ∀ {L L' : List zV}, zLe L L' → L.length = L'.length
  | [], [], _ => Eq.refl _
  | _ :: _, _ :: _, h => by simp [zLe.len h.2]
  | [], _ :: _, h => h.elim
  | _ :: _, [], h => h.elim
theorem zLe.get : ∀ {L L' : List zV} {i : Nat} {a : zV}, zLe L L' → L[i]? = some a → a ≠ zN → L'[i]? = some a
  | [], [], _, _, _, h, _ => by simp at h
  | b :: l, c :: l', 0, a, h, e, hn => by
    simp at e; subst e
    rcases h.1 with h1 | h1
    · exact absurd h1 hn
    · simp [h1]
  | b :: l, c :: l', i + 1, a, h, e, hn => by
    simp at e ⊢; exact zLe.get h.2 e hn
  | [], _ :: _, _, _, h, _, _ => h.elim
  | _ :: _, [], _, _, h, _, _ => h.elim
theorem zLe.set : ∀ {L L' : List zV} {i : Nat} {v : zV}, zLe L L' → zLe (L.set i v) (L'.set i v)
  | [], [], _, _, _ => trivial
  | b :: l, c :: l', 0, v, h => ⟨.inr (Eq.refl _), h.2⟩
  | b :: l, c :: l', i + 1, v, h => ⟨h.1, zLe.set h.2⟩
  | [], _ :: _, _, _, h => h.elim
  | _ :: _, [], _, _, h => h.elim
theorem zLe.setR : ∀ {L L' : List zV} {i : Nat}, zLe L L' → L[i]? = some zN → zLe L (L'.set i zN)
  | [], [], _, _, h => by simp at h
  | b :: l, c :: l', 0, h, e => by
    simp at e; exact ⟨.inr e, h.2⟩
  | b :: l, c :: l', i + 1, h, e => by
    simp at e; exact ⟨h.1, zLe.setR h.2 e⟩
  | [], _ :: _, _, h, _ => h.elim
  | _ :: _, [], _, h, _ => h.elim
theorem zLe.none {L L' : List zV} {i : Nat} (h : zLe L L') (e : L[i]? = none) : L'[i]? = none := by
  have := h.len
  rw [List.getElem?_eq_none_iff] at e ⊢
  omega
theorem zLe.clr {L L' : List zV} {i : Nat} (h : zLe L L') : zLe (zclr L i) (zclr L' i) := by
  unfold zclr
  cases i with
  | zero => exact h
  | succ j =>
    simp only
    cases e : L[j]? with
    | none => rw [h.none e]; exact h
    | some a =>
      rcases a with x | x | x
      · rw [h.get e (by intro hh; cases hh)]; exact h
      · rw [h.get e (by intro hh; cases hh)]; exact h.set
      · cases x with
        | some r => rw [h.get e (by intro hh; cases hh)]; exact h
        | none =>
          simp only
          split
          · exact h.setR e
          · exact h
theorem zLe.sto {L L' : List zV} {i : Nat} {v : zV} (h : zLe L L') : zLe (zsto L i v) (zsto L' i v) := h.clr.set
theorem zLe.stl {L L' : List zV} {i : Nat} {v : zV} (h : zLe L L') : zLe (zstl L i v) (zstl L' i v) := h.clr.set.set
def zOle : ((zC × zW) ⊕ (Option zV ⊕ (Nat × List zV × zC))) → ((zC × zW) ⊕ (Option zV ⊕ (Nat × List zV × zC))) → Prop
  | .inl (c, w), .inl (c', w') => c'.1 = c.1 ∧ zLe c.2.1 c'.2.1 ∧ c'.2.2 = c.2.2 ∧ w' = w
  | .inr (.inl v), .inr (.inl v') => v' = v
  | .inr (.inr (y, as, c)), .inr (.inr (y', as', c')) => y' = y ∧ as' = as ∧ c'.1 = c.1 ∧ zLe c.2.1 c'.2.1 ∧ c'.2.2 = c.2.2
  | _, _ => False
def zOl (o o' : zO) : Prop := ∀ x, o = some x → ∃ x', o' = some x' ∧ zOle x x'
theorem zOl.none {o' : zO} : zOl none o' := fun _ h => nomatch h
theorem zOl.go {n : Nat} {L L' st : List zV} {w : zW} (h : zLe L L') : zOl (zgo n L st w) (zgo n L' st w) := fun x e => by
  cases e; exact ⟨_, rfl, rfl, h, rfl, rfl⟩
theorem zOl.ld {L L' st : List zV} {i n k : Nat} {w : zW} (h : zLe L L') : zOl (zld L i n k st w) (zld L' i n k st w) := by
  unfold zld
  cases e : L[i]? with
  | none => exact zOl.none
  | some a =>
    rcases a with x | x | x
    · rw [h.get e (by intro hh; cases hh)]; split <;> first | exact zOl.go h | exact zOl.none
    · rw [h.get e (by intro hh; cases hh)]; split <;> first | exact zOl.go h | exact zOl.none
    · cases x with
      | some r => rw [h.get e (by intro hh; cases hh)]; split <;> first | exact zOl.go h | exact zOl.none
      | none => exact zOl.none
theorem zOl.ss {L L' st : List zV} {i n k : Nat} {w : zW} (h : zLe L L') : zOl (zss L i n k st w) (zss L' i n k st w) := by
  have hl := h.len
  unfold zss
  split
  · rw [hl]; split <;> first | exact zOl.go h.sto | exact zOl.none
  · rw [hl]; split <;> first | exact zOl.go h.stl | exact zOl.none
  · rw [hl]; split <;> first | exact zOl.go h.sto | exact zOl.none
  · exact zOl.none
theorem zOl.q_zi2 {g : Int → Int → Int} {n : Nat} {L L' st : List zV} {w : zW} (h : zLe L L') : zOl (zi2 g n L st w) (zi2 g n L' st w) := by
  unfold zi2
  repeat' split
  all_goals first | exact zOl.none | exact zOl.go h | contradiction | (simp_all; done)
theorem zOl.q_zl2 {g : Int → Int → Int} {n : Nat} {L L' st : List zV} {w : zW} (h : zLe L L') : zOl (zl2 g n L st w) (zl2 g n L' st w) := by
  unfold zl2
  repeat' split
  all_goals first | exact zOl.none | exact zOl.go h | contradiction | (simp_all; done)
theorem zOl.q_zli {g : Int → Int → Int} {n : Nat} {L L' st : List zV} {w : zW} (h : zLe L L') : zOl (zli g n L st w) (zli g n L' st w) := by
  unfold zli
  repeat' split
  all_goals first | exact zOl.none | exact zOl.go h | contradiction | (simp_all; done)
theorem zOl.q_zi2d {g : Int → Int → Int} {n : Nat} {L L' st : List zV} {w : zW} (h : zLe L L') : zOl (zi2d g n L st w) (zi2d g n L' st w) := by
  unfold zi2d
  repeat' split
  all_goals first | exact zOl.none | exact zOl.go h | contradiction | (simp_all; done)
theorem zOl.q_zl2d {g : Int → Int → Int} {n : Nat} {L L' st : List zV} {w : zW} (h : zLe L L') : zOl (zl2d g n L st w) (zl2d g n L' st w) := by
  unfold zl2d
  repeat' split
  all_goals first | exact zOl.none | exact zOl.go h | contradiction | (simp_all; done)
theorem zOl.q_zjmp {b : Bool} {n t : Nat} {L L' st : List zV} {w : zW} (h : zLe L L') : zOl (zjmp b n t L st w) (zjmp b n t L' st w) := by
  unfold zjmp
  repeat' split
  all_goals first | exact zOl.none | exact zOl.go h | contradiction | (simp_all; done)
theorem zOl.q_zget {c k n : Nat} {L L' st : List zV} {w : zW} (h : zLe L L') : zOl (zget c k n L st w) (zget c k n L' st w) := by
  unfold zget
  repeat' split
  all_goals first | exact zOl.none | exact zOl.go h | contradiction | (simp_all; done)
theorem zOl.q_zpf {c k n : Nat} {L L' st : List zV} {w : zW} (h : zLe L L') : zOl (zpf c k n L st w) (zpf c k n L' st w) := by
  unfold zpf
  repeat' split
  all_goals first | exact zOl.none | exact zOl.go h | contradiction | (simp_all; done)
theorem zOl.q_zal {n : Nat} {L L' st : List zV} {w : zW} (h : zLe L L') : zOl (zal n L st w) (zal n L' st w) := by
  unfold zal
  repeat' split
  all_goals first | exact zOl.none | exact zOl.go h | contradiction | (simp_all; done)
theorem zOl.q_zar {t u n : Nat} {L L' st : List zV} {w : zW} (h : zLe L L') : zOl (zar t u n L st w) (zar t u n L' st w) := by
  unfold zar
  repeat' split
  all_goals first | exact zOl.none | exact zOl.go h | contradiction | (simp_all; done)
theorem zOl.q_zas {t n : Nat} {L L' st : List zV} {w : zW} (h : zLe L L') : zOl (zas t n L st w) (zas t n L' st w) := by
  unfold zas
  repeat' split
  all_goals first | exact zOl.none | exact zOl.go h | contradiction | (simp_all; done)
theorem zOl.q_zna {B : Nat × Nat} {t : Option Nat} {n : Nat} {L L' st : List zV} {w : zW} (h : zLe L L') : zOl (zna B t n L st w) (zna B t n L' st w) := by
  unfold zna
  repeat' split
  all_goals first | exact zOl.none | exact zOl.go h | contradiction | (simp_all; done)
theorem zOl.q_znew {B : Nat × Nat} {c : Nat} {ts : List Nat} {n : Nat} {L L' st : List zV} {w : zW} (h : zLe L L') : zOl (znew B c ts n L st w) (znew B c ts n L' st w) := by
  unfold znew
  repeat' split
  all_goals first | exact zOl.none | exact zOl.go h | contradiction | (simp_all; done)
theorem zOl.q_zint {a n : Nat} {L L' st : List zV} {w : zW} (h : zLe L L') : zOl (zint a n L st w) (zint a n L' st w) := by
  unfold zint
  repeat' split
  all_goals first | exact zOl.none | exact zOl.go h | contradiction | (simp_all; done)
theorem zOl.q_zinv {d : Bool} {z a b n : Nat} {L L' st : List zV} {w : zW} (h : zLe L L') : zOl (zinv d z a b n L st w) (zinv d z a b n L' st w) := by
  unfold zinv
  split
  · exact zOl.none
  · split
    · exact zOl.q_zint h
    · split
      · exact fun x e => by cases e; exact ⟨_, rfl, rfl, rfl, rfl, h, rfl⟩
      · exact zOl.none
theorem zOl.same {o : zO} (ho : ∀ c w, o ≠ some (.inl (c, w))) (hc : ∀ y as c, o ≠ some (.inr (.inr (y, as, c)))) : zOl o o := fun x e => by
  subst e
  rcases x with ⟨c, w⟩ | v | ⟨y, as, c⟩
  · exact absurd rfl (ho c w)
  · exact ⟨_, rfl, rfl⟩
  · exact absurd rfl (hc y as c)
theorem zOl.st {d : Bool} {B : Nat × Nat} {e : zE} {L L' st : List zV} {w : zW} (h : zLe L L') : zOl (zst d B e L st w) (zst d B e L' st w) := by
  obtain ⟨p, i, n, x⟩ := e
  cases i <;> first
    | exact zOl.none
    | exact zOl.go h
    | exact zOl.ld h
    | exact zOl.ss h
    | exact zOl.q_zi2 h
    | exact zOl.q_zl2 h
    | exact zOl.q_zli h
    | exact zOl.q_zi2d h
    | exact zOl.q_zl2d h
    | exact zOl.q_zget h
    | exact zOl.q_zpf h
    | exact zOl.q_zal h
    | exact zOl.q_zar h
    | exact zOl.q_zas h
    | exact zOl.q_zna h
    | exact zOl.q_znew h
    | exact zOl.q_zinv h
    | (unfold zst; dsimp only; (repeat' split) <;> first | exact zOl.none | exact zOl.go h | exact zOl.q_zjmp h | contradiction | (simp_all; done))
    | (intro q e; refine ⟨q, e, ?_⟩; unfold zst at e; dsimp only at e; (repeat' split at e) <;> first | contradiction | (cases e; exact Eq.refl _))
    | (rename_i i k
       unfold zst; dsimp only
       cases e : L[i]? with
       | none => exact zOl.none
       | some a =>
         rcases a with y | y | y
         · rw [h.get e (by intro hh; cases hh)]; exact zOl.go h.sto
         · exact zOl.none
         · exact zOl.none)
theorem zrun_le (P : Nat → zMd) : ∀ (f : Nat) {d μ pc : Nat} {L L' st : List zV} {w : zW} {q : Option zV × zW}, zrun P f d μ (pc, L, st) w = some q → zLe L L' → zrun P f d μ (pc, L', st) w = some q := by
  intro f
  induction f with
  | zero => intro d μ pc L L' st w q h; cases h
  | succ f ih =>
    intro d μ pc L L' st w q h hL
    rw [zrun_succ] at h ⊢
    dsimp only at h ⊢
    cases he : zat (P μ).1 pc with
    | none => rw [he] at h; cases h
    | some e =>
      rw [he] at h
      dsimp only at h ⊢
      cases hz : zst (d != 0) (P μ).2.2 e L st w with
      | none => rw [hz] at h; cases h
      | some o =>
        rw [hz] at h
        obtain ⟨o', ho', hr⟩ := zOl.st hL o hz
        rw [ho']
        rcases o with ⟨⟨p1, L1, s1⟩, w1⟩ | v | ⟨y, as, ⟨p1, L1, s1⟩⟩ <;> rcases o' with ⟨⟨p2, L2, s2⟩, w2⟩ | v2 | ⟨y2, as2, ⟨p2, L2, s2⟩⟩ <;> first | exact hr.elim | skip
        · obtain ⟨h1, h2, h3, h4⟩ := hr
          dsimp only at h1 h2 h3 h4
          subst h1; subst h3; subst h4
          exact ih h h2
        · have h1 : v2 = v := hr
          subst h1; exact h
        · obtain ⟨h1, h2, h3, h4, h5⟩ := hr
          dsimp only at h3 h4 h5
          subst h1; subst h2; subst h3; subst h5
          dsimp only at h ⊢
          by_cases hc : zsum as2 ≤ (P y2).2.1 ∧ w.2.2.1 + (P y2).2.2.1 ≤ (P μ).2.2.1 ∧ w.2.2.2 + (P y2).2.2.2 ≤ (P μ).2.2.2
          · rw [if_pos hc] at h ⊢
            cases hq : zrun P f (d - 1) y2 (0, zini as2 (P y2).2.1, []) (w.1, w.2.1, 0, 0) with
            | none => rw [hq] at h; cases h
            | some q1 =>
              rw [hq] at h
              exact ih h h4
          · rw [if_neg hc] at h; cases h
theorem zG_weak {n : Nat} {ct : Nat × Nat} {d μ pc : Nat} {Q : Option zV → zM → Prop} {M : zM} {L L' st : List zV} (h : zG n ct d μ (pc, L, st) M Q) (hL : zLe L L') : zG n ct d μ (pc, L', st) M Q := by
  obtain ⟨f, r, M', h1, h2⟩ := h
  exact ⟨f, r, M', zrun_le zP f h1 hL, h2⟩
