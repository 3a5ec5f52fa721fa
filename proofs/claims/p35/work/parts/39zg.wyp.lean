/-! WAYS: THE FEWEST TERMS, AS SUCH -/
section WY
variable {ln tm : Nat → Nat} {n : Nat}
/-- every one of a is one of b -/
noncomputable def wSub (a b : Nat) : Prop := ∀ i, a.testBit i = true → b.testBit i = true
/-- how many of the first k -/
noncomputable def wC (m : Nat) : Nat → Nat
  | 0 => 0
  | k + 1 => wC m k + (if m.testBit k = true then 1 else 0)
theorem wC_s (m k : Nat) : wC m (k + 1) = wC m k + (if m.testBit k = true then 1 else 0) := rfl
theorem wC_le (m : Nat) : ∀ k, wC m k ≤ k
  | 0 => Nat.le_refl _
  | k + 1 => by have q := wC_le m k; rw [wC_s]; split <;> omega
theorem wC_cg {a b : Nat} : ∀ k, (∀ j, j < k → a.testBit j = b.testBit j) → wC a k = wC b k
  | 0, _ => rfl
  | k + 1, h => by rw [wC_s, wC_s, wC_cg k (fun j hj => h j (by omega)), h k (by omega)]
theorem wC_sub {a b : Nat} (h : wSub a b) : ∀ k, wC a k ≤ wC b k
  | 0 => Nat.le_refl _
  | k + 1 => by
    have q := wC_sub h k
    have r := h k
    rw [wC_s, wC_s]
    by_cases e : a.testBit k = true
    · rw [if_pos e, if_pos (r e)]; omega
    · rw [if_neg e]; split <;> omega
theorem wC_z {m : Nat} : ∀ k, (∀ i, i < k → ¬ m.testBit i = true) → wC m k = 0
  | 0, _ => rfl
  | k + 1, h => by rw [wC_s, wC_z k (fun i hi => h i (by omega)), if_neg (h k (by omega))]
theorem wC_pos {m i : Nat} : ∀ k, i < k → m.testBit i = true → 1 ≤ wC m k
  | 0, h, _ => absurd h (Nat.not_lt_zero _)
  | k + 1, h, e => by
    rw [wC_s]
    by_cases z : i = k
    · rw [← z, if_pos e]; omega
    · have q := wC_pos k (show i < k by omega) e; omega
theorem wC_gap {a b : Nat} : ∀ k, wC a k < wC b k → ∃ i, i < k ∧ b.testBit i = true ∧ ¬ a.testBit i = true
  | 0, h => absurd h (Nat.lt_irrefl _)
  | k + 1, h => by
    rw [wC_s, wC_s] at h
    by_cases z : b.testBit k = true ∧ ¬ a.testBit k = true
    · exact ⟨k, by omega, z.1, z.2⟩
    · have q : wC a k < wC b k := by
        by_cases y : b.testBit k = true
        · have y2 : a.testBit k = true := Decidable.byContradiction (fun w => z ⟨y, w⟩)
          rw [if_pos y, if_pos y2] at h; omega
        · rw [if_neg y] at h; omega
      obtain ⟨i, i1, i2⟩ := wC_gap k q
      exact ⟨i, by omega, i2⟩
theorem wb_or (a i j : Nat) : (a ||| 2 ^ i).testBit j = true ↔ (a.testBit j = true ∨ i = j) := by
  rw [Nat.testBit_or, Nat.testBit_two_pow, Bool.or_eq_true, decide_eq_true_eq]
theorem wb_and (a b j : Nat) : (a &&& b).testBit j = true ↔ (a.testBit j = true ∧ b.testBit j = true) := by
  rw [Nat.testBit_and, Bool.and_eq_true]
theorem wb_xor {a s : Nat} (h : wSub s a) (j : Nat) : (a ^^^ s).testBit j = true ↔ (a.testBit j = true ∧ ¬ s.testBit j = true) := by
  have q := h j
  rw [Nat.testBit_xor]
  cases ha : a.testBit j <;> cases hs : s.testBit j <;> rw [ha, hs] at q <;> simp_all
theorem wb_z {m : Nat} (h : ∀ i, ¬ m.testBit i = true) : m = 0 := by
  refine Nat.eq_of_testBit_eq (fun i => ?_)
  rw [Nat.zero_testBit]
  exact Bool.eq_false_iff.mpr (h i)
theorem wb_0 {i : Nat} : ¬ (0 : Nat).testBit i = true := by rw [Nat.zero_testBit]; exact Bool.false_ne_true
theorem wb_lt {m i : Nat} (h : m < 2 ^ 14) (b : m.testBit i = true) : i < 14 := by
  have q := Nat.ge_two_pow_of_testBit b
  rcases Nat.lt_or_ge i 14 with z | z
  · exact z
  · have := Nat.pow_le_pow_right (n := 2) (by decide) z; omega
theorem wb_andz {a b : Nat} : a &&& b = 0 ↔ ∀ i, a.testBit i = true → ¬ b.testBit i = true := by
  constructor
  · intro h i ha hb
    have q := (wb_and a b i).mpr ⟨ha, hb⟩
    rw [h] at q
    exact wb_0 q
  · intro h
    exact wb_z (fun i q => h i ((wb_and a b i).mp q).1 ((wb_and a b i).mp q).2)
theorem wC_0 {m : Nat} (hm : m < 2 ^ 14) (h : wC m 14 = 0) : m = 0 := wb_z (fun i q => by
  have := wC_pos 14 (wb_lt hm q) q
  omega)
theorem wC_or {a i : Nat} (h : ¬ a.testBit i = true) : ∀ k, i < k → wC (a ||| 2 ^ i) k = wC a k + 1
  | 0, hk => absurd hk (Nat.not_lt_zero _)
  | k + 1, hk => by
    rw [wC_s, wC_s]
    by_cases z : i = k
    · have c : wC (a ||| 2 ^ i) k = wC a k := wC_cg k (fun j hj => by
        rw [Nat.testBit_or, Nat.testBit_two_pow_of_ne (show i ≠ j by omega), Bool.or_false])
      subst z
      rw [c, if_pos ((wb_or a i i).mpr (.inr rfl)), if_neg h]
    · have q := wC_or h k (by omega)
      have e : (a ||| 2 ^ i).testBit k = a.testBit k := by rw [Nat.testBit_or, Nat.testBit_two_pow_of_ne z, Bool.or_false]
      rw [q, e]; omega
theorem wC_xor {a s : Nat} (h : wSub s a) : ∀ k, wC (a ^^^ s) k + wC s k = wC a k
  | 0 => rfl
  | k + 1 => by
    have q := wC_xor h k
    have r := wb_xor h k
    have b := h k
    rw [wC_s, wC_s, wC_s]
    by_cases ea : a.testBit k = true
    · by_cases es : s.testBit k = true
      · rw [if_neg (fun w => (r.mp w).2 es), if_pos es, if_pos ea]; omega
      · rw [if_pos (r.mpr ⟨ea, es⟩), if_neg es, if_pos ea]; omega
    · rw [if_neg (fun w => ea (r.mp w).1), if_neg (fun w => ea (b w)), if_neg ea]; omega
theorem wSub.lt {a b : Nat} (h : wSub a b) (hb : b < 2 ^ 14) : a < 2 ^ 14 := by
  have q := Nat.le_of_testBit h
  omega
theorem wSub.tr {a b c : Nat} (h : wSub a b) (g : wSub b c) : wSub a c := fun i hi => g i (h i hi)
theorem wSub.xor {a s : Nat} (h : wSub s a) : wSub (a ^^^ s) a := fun i hi => ((wb_xor h i).mp hi).1
/-- a set between two others with as many as one likes -/
theorem wExt {F m : Nat} (hF : F < 2 ^ 14) : ∀ (d S : Nat), wSub S F → wC S 14 + d = m → m ≤ wC F 14 → ∃ S', wSub S S' ∧ wSub S' F ∧ wC S' 14 = m
  | 0, S, h, e, _ => ⟨S, fun _ q => q, h, e⟩
  | d + 1, S, h, e, l => by
    obtain ⟨i, i1, i2, i3⟩ := wC_gap 14 (show wC S 14 < wC F 14 by omega)
    have c := wC_or i3 14 i1
    obtain ⟨S', s1, s2, s3⟩ := wExt hF d (S ||| 2 ^ i) (fun j q => by
      rcases (wb_or S i j).mp q with z | z
      · exact h j z
      · rw [← z]; exact i2) (by omega) l
    exact ⟨S', fun j q => s1 j ((wb_or S i j).mpr (.inl q)), s2, s3⟩
/-- what may be taken in a term -/
noncomputable def wF (ln tm : Nat → Nat) (left t : Nat) : Nat → Nat
  | 0 => 0
  | c + 1 => if left.testBit c = true ∧ ln c &&& left = 0 ∧ (tm c).testBit t = true then wF ln tm left t c ||| 2 ^ c else wF ln tm left t c
theorem wF_s (left t c : Nat) : wF ln tm left t (c + 1) = if left.testBit c = true ∧ ln c &&& left = 0 ∧ (tm c).testBit t = true then wF ln tm left t c ||| 2 ^ c else wF ln tm left t c := rfl
theorem wF_b (left t i : Nat) : ∀ k, (wF ln tm left t k).testBit i = true ↔ (i < k ∧ left.testBit i = true ∧ ln i &&& left = 0 ∧ (tm i).testBit t = true)
  | 0 => ⟨fun q => absurd q wb_0, fun q => absurd q.1 (Nat.not_lt_zero _)⟩
  | k + 1 => by
    have q := wF_b left t i k
    rw [wF_s]
    by_cases e : left.testBit k = true ∧ ln k &&& left = 0 ∧ (tm k).testBit t = true
    · rw [if_pos e, wb_or, q]
      constructor
      · rintro (h | h)
        · exact ⟨by omega, h.2⟩
        · rw [← h]; exact ⟨by omega, e⟩
      · intro h
        by_cases z : k = i
        · exact .inr z
        · exact .inl ⟨by omega, h.2⟩
    · rw [if_neg e, q]
      constructor
      · intro h; exact ⟨by omega, h.2⟩
      · intro h
        refine ⟨?_, h.2⟩
        by_cases z : i = k
        · rw [z] at h; exact absurd h.2 e
        · omega
theorem wF_lt (left t : Nat) : wF ln tm left t 14 < 2 ^ 14 := by
  refine Nat.lt_pow_two_of_testBit _ (fun i hi => Bool.eq_false_iff.mpr (fun q => ?_))
  have := ((wF_b left t i 14).mp q).1
  omega
theorem wF_sb (left t : Nat) : wSub (wF ln tm left t 14) left := fun i q => ((wF_b left t i 14).mp q).2.1
/-- a full set of a term -/
noncomputable def wFull (ln tm : Nat → Nat) (n left t S : Nat) : Prop := wSub S (wF ln tm left t 14) ∧ wC S 14 = min n (wC (wF ln tm left t 14) 14)
/-- all that is left can be taken in k terms -/
noncomputable def wCan (ln tm : Nat → Nat) (n : Nat) : Nat → Nat → Nat → Prop
  | 0, left, _ => left = 0
  | k + 1, left, t => left = 0 ∨ ∃ S, wFull ln tm n left t S ∧ wCan ln tm n k (left ^^^ S) ((t + 1) % 3)
theorem wCan_s (k left t : Nat) : wCan ln tm n (k + 1) left t ↔ (left = 0 ∨ ∃ S, wFull ln tm n left t S ∧ wCan ln tm n k (left ^^^ S) ((t + 1) % 3)) := Iff.rfl
theorem wCan_0 (k t : Nat) : wCan ln tm n k 0 t := by
  cases k with
  | zero => exact rfl
  | succ k => exact .inl rfl
theorem wCan_up : ∀ (k : Nat) {left t : Nat}, wCan ln tm n k left t → wCan ln tm n (k + 1) left t
  | 0, _, _, h => .inl h
  | k + 1, _, _, h => by
    rcases h with h | ⟨S, s1, s2⟩
    · exact .inl h
    · exact .inr ⟨S, s1, wCan_up k s2⟩
theorem wCan_mo {j k left t : Nat} (h : j ≤ k) (c : wCan ln tm n j left t) : wCan ln tm n k left t := by
  induction k with
  | zero => rw [show j = 0 by omega] at c; exact c
  | succ k ih =>
    by_cases z : j = k + 1
    · rw [← z]; exact c
    · exact wCan_up k (ih (by omega))
/-- fewer are no worse -/
theorem wCan_sub : ∀ (k : Nat) {l l' t : Nat}, wSub l' l → wCan ln tm n k l t → wCan ln tm n k l' t
  | 0, l, l', t, h, c => wb_z (fun i q => by
      have e : l = 0 := c
      have r := h i q
      rw [e] at r
      exact wb_0 r)
  | k + 1, l, l', t, h, c => by
    rcases c with c | ⟨S, ⟨s1, s2⟩, s3⟩
    · exact .inl (wb_z (fun i q => by have r := h i q; rw [c] at r; exact wb_0 r))
    · have F0 : wSub (S &&& l') (wF ln tm l' t 14) := fun i q => by
        have q2 := (wb_and S l' i).mp q
        have q3 := (wF_b l t i 14).mp (s1 i q2.1)
        refine (wF_b l' t i 14).mpr ⟨q3.1, q2.2, wb_andz.mpr (fun j a b => ?_), q3.2.2.2⟩
        exact wb_andz.mp q3.2.2.1 j a (h j b)
      have n1 := wC_sub F0 14
      have n2 := wC_sub (a := S &&& l') (b := S) (fun i q => ((wb_and S l' i).mp q).1) 14
      obtain ⟨S', p1, p2, p3⟩ := wExt (F := wF ln tm l' t 14) (m := min n (wC (wF ln tm l' t 14) 14)) (wF_lt l' t) (min n (wC (wF ln tm l' t 14) 14) - wC (S &&& l') 14) (S &&& l') F0 (by omega) (by omega)
      refine .inr ⟨S', ⟨p2, p3⟩, wCan_sub k (fun i q => ?_) s3⟩
      have a := (wb_xor (p2.tr (wF_sb l' t)) i).mp q
      refine (wb_xor (s1.tr (wF_sb l t)) i).mpr ⟨h i a.1, fun z => a.2 (p1 i ((wb_and S l' i).mpr ⟨z, a.1⟩))⟩
theorem wFull_ex (left t : Nat) : ∃ S, wFull ln tm n left t S := by
  have z : wC 0 14 = 0 := wC_z 14 (fun _ _ => wb_0)
  obtain ⟨S, -, s2, s3⟩ := wExt (F := wF ln tm left t 14) (m := min n (wC (wF ln tm left t 14) 14)) (wF_lt left t) (min n (wC (wF ln tm left t 14) 14)) 0 (fun i q => absurd q wb_0) (by omega) (by omega)
  exact ⟨S, s2, s3⟩
theorem wFull.sub {left t S : Nat} (h : wFull ln tm n left t S) : wSub S left := h.1.tr (wF_sb left t)
/-- to wait is no better -/
theorem wCan_wait {k left t : Nat} (c : wCan ln tm n k left ((t + 1) % 3)) : wCan ln tm n (k + 1) left t := by
  obtain ⟨S, hS⟩ := wFull_ex (ln := ln) (tm := tm) (n := n) left t
  exact .inr ⟨S, hS, wCan_sub k hS.sub.xor c⟩
/-- the least one -/
theorem wLow {left : Nat} (z : left ≠ 0) : ∃ c, left.testBit c = true ∧ ∀ j, j < c → ¬ left.testBit j = true := by
  obtain ⟨i, hi⟩ := Nat.exists_testBit_of_ne_zero z
  have key : ∀ k, (∃ c, c < k ∧ left.testBit c = true ∧ ∀ j, j < c → ¬ left.testBit j = true) ∨ ∀ j, j < k → ¬ left.testBit j = true := fun k => by
    induction k with
    | zero => exact .inr (fun j hj => absurd hj (Nat.not_lt_zero _))
    | succ k ih =>
      rcases ih with ⟨c, c1, c2⟩ | ih
      · exact .inl ⟨c, by omega, c2⟩
      · by_cases y : left.testBit k = true
        · exact .inl ⟨k, by omega, y, ih⟩
        · refine .inr (fun j hj => ?_)
          by_cases x : j = k
          · rw [x]; exact y
          · exact ih j (by omega)
  rcases key (i + 1) with ⟨c, -, c2⟩ | q
  · exact ⟨c, c2⟩
  · exact absurd hi (q i (by omega))
/-- all can be taken within three terms a course -/
theorem wCan_ub (hn : 1 ≤ n) (hl : ∀ i, i < 14 → ∀ j, (ln i).testBit j = true → j < i) : ∀ (m : Nat) {left t : Nat}, left < 2 ^ 14 → t < 3 → (∀ i, left.testBit i = true → (tm i).testBit 0 = true ∨ (tm i).testBit 1 = true ∨ (tm i).testBit 2 = true) → wC left 14 ≤ m → wCan ln tm n (3 * m) left t
  | 0, left, t, h, _, _, c => wC_0 h (by omega)
  | m + 1, left, t, h, ht, hx, c => by
    by_cases z : left = 0
    · rw [z]; exact wCan_0 _ _
    · obtain ⟨c0, k1, k2⟩ := wLow z
      have k4 := wb_lt h k1
      have k3 : ln c0 &&& left = 0 := wb_andz.mpr (fun j a b => k2 j (hl c0 k4 j a) b)
      have tk : ∀ u, u < 3 → 1 ≤ wC (wF ln tm left u 14) 14 → wCan ln tm n (3 * m + 1) left u := fun u hu q => by
        obtain ⟨S, hS⟩ := wFull_ex (ln := ln) (tm := tm) (n := n) left u
        have x := wC_xor hS.sub 14
        have y := hS.2
        exact .inr ⟨S, hS, wCan_ub hn hl m (hS.sub.xor.lt h) (Nat.mod_lt _ (by decide)) (fun i q => hx i (hS.sub.xor i q)) (by omega)⟩
      have fr : ∀ u, (tm c0).testBit u = true → 1 ≤ wC (wF ln tm left u 14) 14 := fun u q => wC_pos 14 k4 ((wF_b left u c0 14).mpr ⟨k4, k1, k3, q⟩)
      have s3 : ∃ j, j < 3 ∧ (tm c0).testBit ((t + j) % 3) = true := by
        rcases hx c0 k1 with q | q | q
        · exact ⟨(3 - t) % 3, by omega, by rw [show (t + (3 - t) % 3) % 3 = 0 by omega]; exact q⟩
        · exact ⟨(4 - t) % 3, by omega, by rw [show (t + (4 - t) % 3) % 3 = 1 by omega]; exact q⟩
        · exact ⟨(5 - t) % 3, by omega, by rw [show (t + (5 - t) % 3) % 3 = 2 by omega]; exact q⟩
      obtain ⟨j, j1, j2⟩ := s3
      have w := tk ((t + j) % 3) (by omega) (fr _ j2)
      rcases (by omega : j = 0 ∨ j = 1 ∨ j = 2) with e | e | e
      · rw [e, show (t + 0) % 3 = t by omega] at w
        exact wCan_mo (by omega) w
      · rw [e] at w
        exact wCan_mo (by omega) (wCan_wait w)
      · rw [e, show (t + 2) % 3 = ((t + 1) % 3 + 1) % 3 by omega] at w
        exact wCan_mo (by omega) (wCan_wait (wCan_wait w))
/-- the fewest -/
noncomputable def wFw (ln tm : Nat → Nat) (n left t v : Nat) : Prop := wCan ln tm n v left t ∧ ∀ j, j < v → ¬ wCan ln tm n j left t
theorem wFw_u {left t v w : Nat} (h : wFw ln tm n left t v) (g : wFw ln tm n left t w) : v = w := by
  rcases Nat.lt_trichotomy v w with z | z | z
  · exact absurd h.1 (g.2 v z)
  · exact z
  · exact absurd g.1 (h.2 w z)
theorem wFw_le {left t v k : Nat} (h : wFw ln tm n left t v) (c : wCan ln tm n k left t) : v ≤ k := by
  rcases Nat.lt_or_ge k v with z | z
  · exact absurd c (h.2 k z)
  · exact z
theorem wFw_ex : ∀ (k : Nat) {left t : Nat}, wCan ln tm n k left t → ∃ v, v ≤ k ∧ wFw ln tm n left t v := by
  intro k left t c
  have key : ∀ m, (∃ v, v < m ∧ wFw ln tm n left t v) ∨ ∀ j, j < m → ¬ wCan ln tm n j left t := fun m => by
    induction m with
    | zero => exact .inr (fun j hj => absurd hj (Nat.not_lt_zero _))
    | succ m ih =>
      rcases ih with ⟨v, v1, v2⟩ | ih
      · exact .inl ⟨v, by omega, v2⟩
      · by_cases y : wCan ln tm n m left t
        · exact .inl ⟨m, by omega, y, ih⟩
        · refine .inr (fun j hj => ?_)
          by_cases x : j = m
          · rw [x]; exact y
          · exact ih j (by omega)
  rcases key (k + 1) with ⟨v, v1, v2⟩ | q
  · exact ⟨v, by omega, v2⟩
  · exact absurd c (q k (by omega))
theorem wFw_0 (t : Nat) : wFw ln tm n 0 t 0 := ⟨rfl, fun j hj => absurd hj (Nat.not_lt_zero _)⟩
theorem wFw_z {left t : Nat} (h : wFw ln tm n left t 0) : left = 0 := h.1
theorem wFw_pos {left t v : Nat} (h : wFw ln tm n left t v) (z : left ≠ 0) : 1 ≤ v := by
  rcases Nat.eq_zero_or_pos v with e | e
  · rw [e] at h; exact absurd (wFw_z h) z
  · exact e
/-- the least over the full sets -/
theorem wFw_mk {left t v : Nat} (z : left ≠ 0) (h1 : ∃ S u, wFull ln tm n left t S ∧ wFw ln tm n (left ^^^ S) ((t + 1) % 3) u ∧ v = u + 1) (h2 : ∀ S u, wFull ln tm n left t S → wFw ln tm n (left ^^^ S) ((t + 1) % 3) u → v ≤ u + 1) : wFw ln tm n left t v := by
  obtain ⟨S, u, s1, s2, s3⟩ := h1
  refine ⟨by rw [s3]; exact .inr ⟨S, s1, s2.1⟩, fun j hj c => ?_⟩
  cases j with
  | zero => exact z c
  | succ j =>
    rcases c with c | ⟨S', p1, p2⟩
    · exact z c
    · obtain ⟨w, w1, w2⟩ := wFw_ex j p2
      have := h2 S' w p1 w2
      omega
theorem wFw_st {left t v : Nat} (z : left ≠ 0) (h : wFw ln tm n left t v) : ∃ S u, wFull ln tm n left t S ∧ wFw ln tm n (left ^^^ S) ((t + 1) % 3) u ∧ v = u + 1 := by
  have p := wFw_pos h z
  obtain ⟨k, rfl⟩ : ∃ k, v = k + 1 := ⟨v - 1, by omega⟩
  rcases h.1 with c | ⟨S, s1, s2⟩
  · exact absurd c z
  · obtain ⟨u, u1, u2⟩ := wFw_ex k s2
    refine ⟨S, u, s1, u2, ?_⟩
    rcases Nat.lt_or_ge u k with y | y
    · exact absurd (.inr ⟨S, s1, u2.1⟩) (h.2 (u + 1) (by omega))
    · omega
theorem wFw_ge {left t v S u : Nat} (h : wFw ln tm n left t v) (s : wFull ln tm n left t S) (g : wFw ln tm n (left ^^^ S) ((t + 1) % 3) u) : v ≤ u + 1 := wFw_le h (.inr ⟨S, s, g.1⟩)
/-- what may be left behind j terms -/
noncomputable def wRe (ln tm : Nat → Nat) (n : Nat) : Nat → Nat → Nat → Nat → Prop
  | 0, left, _, x => x = left
  | j + 1, left, t, x => ∃ S, wFull ln tm n left t S ∧ wRe ln tm n j (left ^^^ S) ((t + 1) % 3) x
theorem wCan_re : ∀ (k : Nat) {left t : Nat}, wCan ln tm n k left t → ∃ j, j ≤ k ∧ wRe ln tm n j left t 0
  | 0, _, _, h => ⟨0, Nat.le_refl _, Eq.symm h⟩
  | k + 1, left, t, h => by
    rcases h with h | ⟨S, s1, s2⟩
    · exact ⟨0, Nat.zero_le _, h.symm⟩
    · obtain ⟨j, j1, j2⟩ := wCan_re k s2
      exact ⟨j + 1, by omega, S, s1, j2⟩
/-- a course that is gone was taken in a term in which it may be -/
theorem wRe_tk {c : Nat} : ∀ (j : Nat) {left t x : Nat}, t < 3 → wRe ln tm n j left t x → left.testBit c = true → ¬ x.testBit c = true → ∃ i l, i < j ∧ wRe ln tm n i left t l ∧ (wF ln tm l ((t + i) % 3) 14).testBit c = true
  | 0, left, t, x, _, h, a, b => by
    have e : x = left := h
    rw [e] at b
    exact absurd a b
  | j + 1, left, t, x, ht, h, a, b => by
    obtain ⟨S, s1, s2⟩ := h
    by_cases z : S.testBit c = true
    · exact ⟨0, left, by omega, rfl, by rw [show (t + 0) % 3 = t by omega]; exact s1.1 c z⟩
    · obtain ⟨i, l, i1, i2, i3⟩ := wRe_tk j (Nat.mod_lt _ (by decide)) s2 ((wb_xor s1.sub c).mpr ⟨a, z⟩) b
      exact ⟨i + 1, l, by omega, ⟨S, s1, i2⟩, by rw [show (t + (i + 1)) % 3 = ((t + 1) % 3 + i) % 3 by omega]; exact i3⟩
/-- no way has c taken before its v-th term -/
noncomputable def wLb (ln tm : Nat → Nat) (n left t c v : Nat) : Prop := ∀ j x, wRe ln tm n j left t x → ¬ x.testBit c = true → v ≤ j
theorem wLb_st {left t c v : Nat} {g : Nat → Nat} (ht : t < 3) (hc : left.testBit c = true) (hg : ∀ o, (ln c &&& left).testBit o = true → wLb ln tm n left t o (g o)) (hv : ∀ i, (∀ o, (ln c &&& left).testBit o = true → g o ≤ i) → (tm c).testBit ((t + i) % 3) = true → v ≤ i + 1) : wLb ln tm n left t c v := fun j x hr hx => by
  obtain ⟨i, l, i1, i2, i3⟩ := wRe_tk j ht hr hc hx
  have q := (wF_b l ((t + i) % 3) c 14).mp i3
  have r := hv i (fun o ho => hg o ho i l i2 (wb_andz.mp q.2.2.1 o ((wb_and _ _ o).mp ho).1)) q.2.2.2
  omega
theorem wLb_le {left t c v k : Nat} (h : wLb ln tm n left t c v) (h2 : wCan ln tm n k left t) : v ≤ k := by
  obtain ⟨j, j1, j2⟩ := wCan_re k h2
  have := h j 0 j2 wb_0
  omega
/-- those left that are taught in no other terms -/
noncomputable def wN (tm : Nat → Nat) (left mask : Nat) : Nat → Nat
  | 0 => 0
  | c + 1 => wN tm left mask c + (if left.testBit c = true ∧ tm c &&& mask = tm c then 1 else 0)
theorem wN_s (left mask c : Nat) : wN tm left mask (c + 1) = wN tm left mask c + (if left.testBit c = true ∧ tm c &&& mask = tm c then 1 else 0) := rfl
theorem wN_0 (mask : Nat) : ∀ c, wN tm 0 mask c = 0
  | 0 => rfl
  | c + 1 => by rw [wN_s, wN_0 mask c, if_neg (fun q => wb_0 q.1)]
theorem wN_st {left t S mask : Nat} (h : wFull ln tm n left t S) : ∀ c, wN tm left mask c ≤ wN tm (left ^^^ S) mask c + (if mask.testBit t = true then wC S c else 0)
  | 0 => Nat.zero_le _
  | c + 1 => by
    have q := wN_st h (mask := mask) c
    have x := wb_xor h.sub c
    rw [wN_s, wN_s, wC_s]
    by_cases e : left.testBit c = true ∧ tm c &&& mask = tm c
    · rw [if_pos e]
      by_cases es : S.testBit c = true
      · have f := (wF_b left t c 14).mp (h.1 c es)
        have g : mask.testBit t = true := by
          have y := f.2.2.2
          rw [← e.2] at y
          exact ((wb_and _ _ t).mp y).2
        rw [if_pos g] at q ⊢
        rw [if_pos es]
        omega
      · rw [if_pos (⟨x.mpr ⟨e.1, es⟩, e.2⟩ : (left ^^^ S).testBit c = true ∧ tm c &&& mask = tm c), if_neg es]
        split at q <;> split <;> omega
    · rw [if_neg e]
      split at q <;> (repeat' split) <;> omega
/-- how many of the next k terms are of these -/
noncomputable def wR (mask t : Nat) : Nat → Nat
  | 0 => 0
  | k + 1 => wR mask t k + (if mask.testBit ((t + k) % 3) = true then 1 else 0)
theorem wR_s (mask t k : Nat) : wR mask t (k + 1) = wR mask t k + (if mask.testBit ((t + k) % 3) = true then 1 else 0) := rfl
theorem wR_f {mask t : Nat} (ht : t < 3) : ∀ k, wR mask t (k + 1) = (if mask.testBit t = true then 1 else 0) + wR mask ((t + 1) % 3) k
  | 0 => by rw [wR_s, show (t + 0) % 3 = t by omega]; show 0 + _ = _ + 0; omega
  | k + 1 => by
    have q := wR_f ht k (mask := mask)
    rw [wR_s mask t (k + 1), q, wR_s mask ((t + 1) % 3) k, show (t + (k + 1)) % 3 = ((t + 1) % 3 + k) % 3 by omega]
    omega
theorem wR_mo {mask t j k : Nat} (h : j ≤ k) : wR mask t j ≤ wR mask t k := by
  induction k with
  | zero => rw [show j = 0 by omega]; exact Nat.le_refl _
  | succ k ih =>
    by_cases z : j = k + 1
    · rw [z]; exact Nat.le_refl _
    · have := ih (by omega); rw [wR_s]; omega
theorem wCap {mask : Nat} : ∀ (j : Nat) {left t : Nat}, t < 3 → wRe ln tm n j left t 0 → wN tm left mask 14 ≤ n * wR mask t j
  | 0, left, t, _, h => by
    have e : 0 = left := h
    rw [← e, wN_0]; exact Nat.zero_le _
  | j + 1, left, t, ht, h => by
    obtain ⟨S, s1, s2⟩ := h
    have q := wCap j (mask := mask) (Nat.mod_lt _ (by decide)) s2
    have r := wN_st s1 (mask := mask) 14
    have c := s1.2
    rw [wR_f ht, Nat.mul_add]
    split at r
    · rw [if_pos (by assumption), Nat.mul_one]; omega
    · rw [if_neg (by assumption), Nat.mul_zero]; omega
theorem wCap_k {mask k left t : Nat} (ht : t < 3) (h : wCan ln tm n k left t) : wN tm left mask 14 ≤ n * wR mask t k := by
  obtain ⟨j, j1, j2⟩ := wCan_re k h
  exact Nat.le_trans (wCap j ht j2) (Nat.mul_le_mul_left n (wR_mo j1))
/-- those left that are taught in just these terms -/
noncomputable def wW (tm : Nat → Nat) (left x : Nat) : Nat → Nat
  | 0 => 0
  | c + 1 => wW tm left x c + (if left.testBit c = true ∧ tm c = x then 1 else 0)
theorem wW_s (left x c : Nat) : wW tm left x (c + 1) = wW tm left x c + (if left.testBit c = true ∧ tm c = x then 1 else 0) := rfl
theorem wW_le (left x : Nat) : ∀ c, wW tm left x c ≤ c
  | 0 => Nat.le_refl _
  | c + 1 => by have q := wW_le left x c; rw [wW_s]; split <;> omega
noncomputable def wS (tm : Nat → Nat) (left mask c : Nat) : Nat → Nat
  | 0 => 0
  | m + 1 => wS tm left mask c m + (if (m + 1) &&& mask = m + 1 then wW tm left (m + 1) c else 0)
theorem wS_s (left mask c m : Nat) : wS tm left mask c (m + 1) = wS tm left mask c m + (if (m + 1) &&& mask = m + 1 then wW tm left (m + 1) c else 0) := rfl
theorem wS_0 (left mask : Nat) : ∀ m, wS tm left mask 0 m = 0
  | 0 => rfl
  | m + 1 => by rw [wS_s, wS_0 left mask m]; show 0 + (if _ then 0 else 0) = 0; split <;> rfl
theorem wS_c (left mask c : Nat) : ∀ m, wS tm left mask (c + 1) m ≤ wS tm left mask c m + (if left.testBit c = true ∧ tm c &&& mask = tm c ∧ tm c ≤ m then 1 else 0)
  | 0 => Nat.zero_le _
  | m + 1 => by
    have q := wS_c left mask c m
    rw [wS_s, wS_s, wW_s]
    by_cases e : left.testBit c = true ∧ tm c = m + 1
    · rw [if_pos e]
      have z : ¬ (left.testBit c = true ∧ tm c &&& mask = tm c ∧ tm c ≤ m) := fun w => by omega
      rw [if_neg z] at q
      by_cases y : (m + 1) &&& mask = m + 1
      · rw [if_pos y, if_pos y, if_pos (⟨e.1, by rw [e.2]; exact y, by omega⟩ : left.testBit c = true ∧ tm c &&& mask = tm c ∧ tm c ≤ m + 1)]; omega
      · rw [if_neg y, if_neg y]; omega
    · rw [if_neg e, Nat.add_zero (wW tm left (m + 1) c)]
      have z : (left.testBit c = true ∧ tm c &&& mask = tm c ∧ tm c ≤ m) → (left.testBit c = true ∧ tm c &&& mask = tm c ∧ tm c ≤ m + 1) := fun w => ⟨w.1, w.2.1, by omega⟩
      by_cases y : left.testBit c = true ∧ tm c &&& mask = tm c ∧ tm c ≤ m
      · rw [if_pos y] at q; rw [if_pos (z y)]; omega
      · rw [if_neg y] at q; omega
theorem wS_N (left mask m : Nat) : ∀ c, wS tm left mask c m ≤ wN tm left mask c
  | 0 => by rw [wS_0]; exact Nat.zero_le _
  | c + 1 => by
    have q := wS_N left mask m c
    have r := wS_c (tm := tm) left mask c m
    rw [wN_s]
    by_cases y : left.testBit c = true ∧ tm c &&& mask = tm c ∧ tm c ≤ m
    · rw [if_pos y] at r; rw [if_pos (⟨y.1, y.2.1⟩ : left.testBit c = true ∧ tm c &&& mask = tm c)]; omega
    · rw [if_neg y] at r; omega
end WY
