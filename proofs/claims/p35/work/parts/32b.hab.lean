/-! PAIRS OF MARKS AND SECONDS -/
def qcn (p : Nat → Bool) : Nat → Nat
  | 0 => 0
  | n + 1 => qcn p n + (if p n then 1 else 0)
theorem qcn_le {p q : Nat → Bool} (h : ∀ i, p i = true → q i = true) : ∀ n, qcn p n ≤ qcn q n
  | 0 => Nat.le_refl _
  | n + 1 => by
    have h1 := qcn_le h n
    have h2 := h n
    show qcn p n + (if p n then 1 else 0) ≤ qcn q n + (if q n then 1 else 0)
    split
    · rename_i hp; rw [if_pos (h2 hp)]; omega
    · omega
theorem qcn_or (p q : Nat → Bool) : ∀ n, qcn (fun i => p i || q i) n ≤ qcn p n + qcn q n
  | 0 => Nat.le_refl _
  | n + 1 => by
    have h1 := qcn_or p q n
    show qcn _ n + (if (p n || q n) = true then 1 else 0) ≤ (qcn p n + (if p n then 1 else 0)) + (qcn q n + (if q n then 1 else 0))
    cases hp : p n <;> cases hq : q n <;> simp <;> omega
theorem qcn_dis {p q : Nat → Bool} (h : ∀ i, p i = true → q i = true → False) : ∀ n, qcn p n + qcn q n ≤ n
  | 0 => Nat.le_refl _
  | n + 1 => by
    have h1 := qcn_dis h n
    have h2 := h n
    show (qcn p n + (if p n then 1 else 0)) + (qcn q n + (if q n then 1 else 0)) ≤ n + 1
    cases hp : p n <;> cases hq : q n <;> simp
    · omega
    · omega
    · omega
    · exact absurd hq (fun e => h2 hp e)
theorem qcn_none {p : Nat → Bool} (h : ∀ i, p i = false) : ∀ n, qcn p n = 0
  | 0 => rfl
  | n + 1 => by show qcn p n + (if p n then 1 else 0) = 0; rw [qcn_none h n, h n]; rfl
theorem qcn_one (b : Bool) (g : Int) : ∀ n, qcn (fun i => b && decide (g = (i : Int))) n ≤ (if b = true ∧ g < n then 1 else 0)
  | 0 => Nat.zero_le _
  | n + 1 => by
    have h1 := qcn_one b g n
    show qcn _ n + (if (b && decide (g = (n : Int))) = true then 1 else 0) ≤ _
    cases b
    · rw [qcn_none (by simp)]; simp
    · simp only [Bool.true_and, decide_eq_true_eq, true_and] at h1 ⊢
      split at h1 <;> split <;> split <;> omega
theorem qcn_inj (R : Nat → Bool) (g : Nat → Int) (n : Nat) : ∀ m, qcn (fun a => (List.range m).any (fun s => R s && decide (g s = (a : Int)))) n ≤ qcn R m
  | 0 => by rw [qcn_none (by simp)]; exact Nat.zero_le _
  | m + 1 => by
    have h1 := qcn_inj R g n m
    have h2 := qcn_one (R m) (g m) n
    have h3 := qcn_or (fun a => (List.range m).any (fun s => R s && decide (g s = (a : Int)))) (fun a => R m && decide (g m = (a : Int))) n
    have e : (fun a : Nat => (List.range (m + 1)).any (fun s => R s && decide (g s = (a : Int)))) = fun a : Nat => (List.range m).any (fun s => R s && decide (g s = (a : Int))) || (R m && decide (g m = (a : Int))) := by
      funext a; rw [List.range_succ, List.any_append]; simp
    rw [e]
    show _ ≤ qcn R m + (if R m then 1 else 0)
    have h4 : (if R m = true ∧ g m < n then 1 else 0) ≤ (if R m then 1 else 0 : Nat) := by
      split
      · rename_i h; rw [if_pos h.1]; exact Nat.le_refl _
      · omega
    omega
def qSc (M : zM) (s : Nat) : Bool := decide (qA M s 0 = 1)
def qPb (M : zM) (a : Nat) : Bool := decide (a < 250) && decide (qA M a 0 = 0) && (List.range 250).any (fun s => qSc M s && decide (qA M s 6 = (a : Int)))
def qPc (M : zM) (n : Nat) : Nat := qcn (qPb M) n
theorem qPc_b (M : zM) (n : Nat) : qPc M n ≤ 125 := by
  have h250 : ∀ k, qcn (qPb M) k ≤ qcn (qPb M) 250 := by
    intro k
    induction k with
    | zero => exact Nat.zero_le _
    | succ k ih =>
      by_cases hk : k < 250
      · have mono : ∀ i j, i ≤ j → qcn (qPb M) i ≤ qcn (qPb M) j := by
          intro i j hij
          induction hij with
          | refl => exact Nat.le_refl _
          | step _ ih => exact Nat.le_trans ih (Nat.le_add_right _ _)
        exact mono _ _ hk
      · show qcn (qPb M) k + (if qPb M k then 1 else 0) ≤ _
        rw [if_neg (by simp [qPb, hk])]; exact ih
  have h1 := qcn_inj (qSc M) (fun s => qA M s 6) 250 250
  have h2 : qcn (qPb M) 250 ≤ qcn (fun a => (List.range 250).any (fun s => qSc M s && decide (qA M s 6 = (a : Int)))) 250 := qcn_le (fun i hi => by
    unfold qPb at hi
    rw [Bool.and_eq_true] at hi
    exact hi.2) 250
  have h3 := qcn_dis (p := qPb M) (q := qSc M) (fun i hp hq => by
    unfold qPb at hp; unfold qSc at hq
    rw [Bool.and_eq_true, Bool.and_eq_true, decide_eq_true_eq, decide_eq_true_eq] at hp
    rw [decide_eq_true_eq] at hq
    omega) 250
  have h4 := h250 n
  unfold qPc
  omega
theorem qPc_m (M : zM) {a : Int} (ha : 0 ≤ a) : qPc M a.toNat ≤ qPc M (a + 1).toNat := by
  rw [show (a + 1).toNat = a.toNat + 1 by omega]
  exact Nat.le_add_right _ _
theorem qPc_s (M : zM) {a s : Int} (ha : 0 ≤ a ∧ a < 250) (hs : 0 ≤ s ∧ s < 250) (h0 : qA M a 0 = 0) (h1 : qA M s 0 = 1) (h6 : qA M s 6 = a) : qPc M (a + 1).toNat = qPc M a.toNat + 1 := by
  rw [show (a + 1).toNat = a.toNat + 1 by omega]
  show qcn (qPb M) a.toNat + (if qPb M a.toNat then 1 else 0) = _
  rw [if_pos]
  · rfl
  · unfold qPb qSc
    rw [Int.toNat_of_nonneg ha.1]
    simp only [Bool.and_eq_true, decide_eq_true_eq, List.any_eq_true, List.mem_range]
    exact ⟨⟨by omega, h0⟩, s.toNat, by omega, by rw [Int.toNat_of_nonneg hs.1]; exact ⟨h1, h6⟩⟩
