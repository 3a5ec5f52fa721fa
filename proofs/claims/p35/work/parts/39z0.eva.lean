/-! A CODE WORKED: WHAT IT COMES TO; THE CLASS, THE MODEL -/
/-- names by kinds, how many are ranked, these, more -/
abbrev eEn : Type := (Int → Int) × Int × (Nat → Int) × Int
noncomputable def eSm (g : Nat → Int) : Nat → Int
  | 0 => 0
  | n + 1 => w64 (eSm g n + g n)
noncomputable def eBst (rk : Int) (g : Nat → Int) (x : Int) : Int := if x < 1 ∨ rk < x then 0 else w64 ((w64 (eSm g x.toNat * 100)).tdiv x)
noncomputable def eTw (d a b : Int) : Int := if d = 0 then (if b = 0 then a else 0) else if d = 3 then (if a = 0 ∧ b = 0 then 0 else 1) else if d = 4 then (if a = 0 ∨ b = 0 then 0 else 1) else if d = 15 then (if a < b then 1 else 0) else if d = 16 then (if b < a then 1 else 0) else if d = 17 then (if a = b then 1 else 0) else if d = 18 then w64 (a + b) else if d = 19 then w64 (a - b) else if d = 20 then w64 (a * b) else if d = 21 then (if b = 0 then 0 else w64 (a.tdiv b)) else 0
noncomputable def eOp (e : eEn) (k : Int) (s : List Int) : List Int :=
  if 0 ≤ k then k :: s
  else if -15 ≤ k ∧ k ≤ -8 then e.1 (-k - 1) :: s
  else if k = -7 then w64 (eBst e.2.1 e.2.2.1 (s.headD 0) + e.2.2.2) :: s.tail
  else if k = -6 then (if s.headD 0 = 0 then 1 else 0) :: s.tail
  else if k = -27 then w64 (-(s.headD 0)) :: s.tail
  else if k = -3 then (if s.tail.headD 0 = 0 then s.headD 0 else s.tail.tail.headD 0) :: s.tail.tail.tail
  else eTw (-k - 1) (s.tail.headD 0) (s.headD 0) :: s.tail.tail
noncomputable def eRun (e : eEn) : List Int → List Int
  | [] => []
  | k :: O => eOp e k (eRun e O)
noncomputable def eVal (e : eEn) (O : List Int) : Int := (eRun e O).headD 0
noncomputable def eUse : List Int → Int
  | [] => 0
  | k :: O => if k = -14 ∨ k = -7 then 1 else eUse O
theorem eOp_len (e : eEn) (k : Int) (s : List Int) : (eOp e k s).length ≤ s.length + 1 := by
  unfold eOp
  (repeat' split) <;> (simp only [List.length_cons, List.length_tail]; omega)
theorem eRun_len (e : eEn) : ∀ O : List Int, (eRun e O).length ≤ O.length
  | [] => Nat.le_refl _
  | k :: O => by have := eOp_len e k (eRun e O); have := eRun_len e O; rw [List.length_cons]; show (eOp e k (eRun e O)).length ≤ _; omega
theorem eUse_01 : ∀ O : List Int, eUse O = 0 ∨ eUse O = 1
  | [] => .inl rfl
  | k :: O => by unfold eUse; split; exact .inr rfl; exact eUse_01 O
/-- alike on what is asked -/
noncomputable def eAl (e f : eEn) : Prop := (∀ k : Int, 7 ≤ k → k ≤ 14 → e.1 k = f.1 k) ∧ e.2.1 = f.2.1 ∧ (∀ j : Nat, (j : Int) < e.2.1 → e.2.2.1 j = f.2.2.1 j) ∧ e.2.2.2 = f.2.2.2
theorem eSm_cg {g h : Nat → Int} : ∀ n : Nat, (∀ j, j < n → g j = h j) → eSm g n = eSm h n
  | 0, _ => rfl
  | n + 1, q => by unfold eSm; rw [eSm_cg n (fun j hj => q j (by omega)), q n (by omega)]
theorem eBst_cg {rk : Int} {g h : Nat → Int} (q : ∀ j : Nat, (j : Int) < rk → g j = h j) (x : Int) : eBst rk g x = eBst rk h x := by
  unfold eBst
  by_cases c : x < 1 ∨ rk < x
  · rw [if_pos c, if_pos c]
  · rw [if_neg c, if_neg c, eSm_cg x.toNat (fun j hj => q j (by omega))]
theorem eOp_cg {e f : eEn} (h : eAl e f) (k : Int) (s : List Int) : eOp e k s = eOp f k s := by
  obtain ⟨h1, h2, h3, h4⟩ := h
  unfold eOp
  by_cases c0 : 0 ≤ k
  · rw [if_pos c0, if_pos c0]
  · rw [if_neg c0, if_neg c0]
    by_cases c1 : -15 ≤ k ∧ k ≤ -8
    · rw [if_pos c1, if_pos c1, h1 (-k - 1) (by omega) (by omega)]
    · rw [if_neg c1, if_neg c1]
      by_cases c2 : k = -7
      · rw [if_pos c2, if_pos c2, eBst_cg h3, h2, h4]
      · rw [if_neg c2, if_neg c2]
theorem eRun_cg {e f : eEn} (h : eAl e f) : ∀ O : List Int, eRun e O = eRun f O
  | [] => rfl
  | k :: O => by show eOp e k (eRun e O) = eOp f k (eRun f O); rw [eRun_cg h O, eOp_cg h]
/-- nobody asks mean or best: more is the same to all -/
theorem eRun_no {e f : eEn} (h1 : ∀ k : Int, 7 ≤ k → k ≤ 14 → k ≠ 13 → e.1 k = f.1 k) : ∀ O : List Int, eUse O = 0 → eRun e O = eRun f O
  | [], _ => rfl
  | k :: O, hu => by
    unfold eUse at hu
    split at hu
    · exact absurd hu (by decide)
    · rename_i c
      show eOp e k (eRun e O) = eOp f k (eRun f O)
      rw [eRun_no h1 O hu]
      unfold eOp
      by_cases c0 : 0 ≤ k
      · rw [if_pos c0, if_pos c0]
      · rw [if_neg c0, if_neg c0]
        by_cases c1 : -15 ≤ k ∧ k ≤ -8
        · rw [if_pos c1, if_pos c1, h1 (-k - 1) (by omega) (by omega) (by omega)]
        · have c2 : ¬ k = -7 := by omega
          rw [if_neg c1, if_neg c1, if_neg c2, if_neg c2]
/-! which codes a reading tells, how deep they go -/
noncomputable def eOk (k : Int) : Prop := 0 ≤ k ∨ k = -1 ∨ (-22 ≤ k ∧ k ≤ -3) ∨ k = -27
noncomputable def eWt (k : Int) : Int := if k = 2 then 2 else if k = 5 ∨ k = 6 ∨ k = 26 ∨ k = 22 then 0 else 1
noncomputable def eWs : List Int → Int
  | [] => 0
  | k :: W => eWt k + eWs W
noncomputable def eDk (k : Int) : Int := if 0 ≤ k ∨ (-15 ≤ k ∧ k ≤ -8) then 1 else -eWt (-k - 1)
noncomputable def eD : List Int → Int
  | [] => 0
  | k :: O => eD O + eDk k
theorem eK_1 {k : Int} (h : 1 ≤ xrK k) : eOk (-k - 1) ∧ eDk (-k - 1) = -eWt k := by
  have q : k = 0 ∨ k = 2 ∨ k = 3 ∨ k = 4 ∨ k = 5 ∨ k = 6 ∨ k = 26 ∨ k = 15 ∨ k = 16 ∨ k = 17 ∨ k = 18 ∨ k = 19 ∨ k = 20 ∨ k = 21 := by unfold xrK at h; (repeat' split at h) <;> omega
  unfold eOk eDk
  rw [show -(-k - 1) - 1 = k by omega]
  refine ⟨by omega, if_neg (by omega)⟩
/-- what is told so far: all of it may be worked; its depth against what waits -/
noncomputable def eIn (d : Int) (W O : List Int) : Prop := (∀ k ∈ O, eOk k) ∧ eD O = eWs W + d
theorem eIn_E {d r : Int} (hr : 1 ≤ r) : ∀ (W O : List Int), eIn d W O → eIn d (xrE r W O).1 (xrE r W O).2
  | [], O, h => h
  | k :: W, O, h => by
    unfold xrE
    split
    · rename_i c
      have q := eK_1 (k := k) (by omega)
      refine eIn_E hr W _ ⟨fun x hx => ?_, ?_⟩
      · rcases List.mem_cons.mp hx with e | e
        · rw [e]; exact q.1
        · exact h.1 x e
      · have h2 := h.2
        unfold eWs at h2
        show eD O + eDk (-k - 1) = _
        rw [q.2]; omega
    · exact h
theorem eIn_push {d x k : Int} {W O : List Int} (h : eIn d W O) (hx : eWt k + x = d) : eIn x (k :: W) O := ⟨h.1, by show _ = (eWt k + eWs W) + x; have := h.2; omega⟩
theorem eIn_tell {d k : Int} {W O : List Int} (h : eIn d W O) (hk : eOk k) (h1 : eDk k = 1) : eIn (d + 1) W (k :: O) := by
  refine ⟨fun x hx => ?_, ?_⟩
  · rcases List.mem_cons.mp hx with e | e
    · rw [e]; exact hk
    · exact h.1 x e
  · show eD O + eDk k = _
    have := h.2
    omega
theorem eIn_top {d x : Int} {W O : List Int} (h : eIn d W O) (hn : ¬ xrT W = -1) (hx : eWt (xrT W) + d = x) : eIn x W.tail O := by
  cases W with
  | nil => exact absurd rfl hn
  | cons k W =>
    have hx : eWt k + d = x := hx
    refine ⟨h.1, ?_⟩
    have h2 := h.2
    unfold eWs at h2
    show eD O = eWs W + x
    omega
noncomputable def eJ (S : xSt) : Prop := S.2.2.2.2.2.1 = -1 → eIn (if S.2.1 = true then 0 else 1) S.2.2.2.1 S.2.2.2.2.1
theorem eJ_no {S : xSt} (h : ¬ S.2.2.2.2.2.1 = -1) : eJ S := fun q => absurd q h
theorem xVl_0 (c : Nat → Int) {L s : Nat} (hd : 48 ≤ c s ∧ c s ≤ 57) (hs : s < L) (h6 : ¬ 6 < (xEn c L s : Int) - s) : 0 ≤ xVl c L s := by
  have he : xEn c L s = xrD c (L - s) s := by unfold xEn; rw [if_neg (by omega), if_pos hd]
  have hr := xrD_r c (L - s) s
  rw [he] at h6
  unfold xVl
  exact (xrV_b c s _ (fun m hm => xrD_in c (L - s) s (s + m) (by omega) (by omega)) (by omega)).1
theorem eJ_un {s e : Nat} {kd v op : Int} {W O : List Int} (h : eIn 0 W O) (hv : kd = 24 → ¬ 6 < (e : Int) - s → 0 ≤ v) : eJ (xUn s e kd v op W O) := by
  unfold xUn
  split
  · rename_i c
    split
    · exact eJ_no (by show ¬ 10 * (s : Int) + 2 = -1; omega)
    · rename_i c2
      intro _
      exact eIn_tell h (.inl (hv c c2)) (if_pos (.inl (hv c c2)))
  · split
    · rename_i c
      intro _
      exact eIn_tell h (by unfold eOk; omega) (if_pos (.inr (by omega)))
    · split
      · rename_i c
        intro _
        exact eIn_push h (by rcases c with c | c <;> rw [c] <;> rfl)
      · split
        · intro _; exact eIn_push h rfl
        · split
          · split
            · exact eJ_no (by show ¬ 10 * (s : Int) + 3 = -1; omega)
            · intro _; exact eIn_push h rfl
          · exact eJ_no (by show ¬ 10 * (s : Int) + 1 = -1; omega)
theorem eJ_bh {s e : Nat} {kd op : Int} {W O : List Int} (h : eIn 1 W O) : eJ (xBh s e kd op W O) := by
  have f1 : ∀ {a b : Bool} {q : Int} {A B : List Int}, eJ (e, a, q, A, B, 10 * (s : Int) + 1, b) := fun {a b q A B} => eJ_no (by show ¬ 10 * (s : Int) + 1 = -1; omega)
  have h3 := eIn_E (r := 3) (by decide) W O h
  have h13 := eIn_E (r := 1) (by decide) _ _ h3
  have h6 := eIn_E (r := 6) (by decide) W O h
  unfold xBh
  split
  · rename_i c
    intro _
    refine eIn_push (eIn_E (r := xrK kd) ?_ W O h) ?_
    · rcases c with c | c | c | c | c | c <;> rw [c] <;> decide
    · rcases c with c | c | c | c | c | c <;> rw [c] <;> rfl
  · split
    · rename_i c
      split
      · exact f1
      · intro _; exact eIn_push h6 (by rcases c with c | c | c <;> rw [c] <;> rfl)
    · split
      · split
        · exact f1
        · intro _; exact eIn_push h3 rfl
      · split
        · split
          · rename_i c
            intro _
            have q := eIn_top h3 (x := 2) (by omega) (by rw [c]; rfl)
            exact eIn_push q rfl
          · exact f1
        · split
          · split
            · exact f1
            · intro _; exact eIn_push h13 rfl
          · split
            · split
              · exact f1
              · rename_i c
                intro _
                exact eIn_top h13 (by intro q; apply c; right; omega) (by rw [show xrT _ = 22 from Decidable.byContradiction (fun q => c (.inr q))]; rfl)
            · split
              · split
                · exact f1
                · rename_i c
                  intro _
                  have q : (xrE 1 (xrE 3 W O).1 (xrE 3 W O).2).1 = [] := Decidable.byContradiction (fun q => c (.inr q))
                  rw [q] at h13
                  exact h13
              · exact f1
theorem eJ_sp {c : Nat → Int} {L : Nat} {S : xSt} (h : eJ S) (hs : S.1 ≤ L) : eJ (xSp c L S) := by
  unfold xSp
  split
  · exact h
  · rename_i q
    have q1 : S.2.2.2.2.2.1 = -1 := Decidable.byContradiction (fun z => q (.inl z))
    have hi := h q1
    have rb := xrB_r c (L - S.1) S.1
    split
    · rename_i q2
      refine eJ_no ?_
      have := xWy_r c L (xrB c (L - S.1) S.1)
      show ¬ 10 * ((xrB c (L - S.1) S.1 : Nat) : Int) + xWy c L (xrB c (L - S.1) S.1) = -1
      omega
    · split
      · rename_i q3
        rw [if_pos q3] at hi
        refine eJ_un hi (fun k24 h6 => ?_)
        unfold xKd at k24
        split at k24
        · exact absurd k24 (by decide)
        · rename_i s1
          split at k24
          · rename_i s2
            exact xVl_0 c s2 (by omega) h6
          · exfalso
            split at k24
            · have := xrW_r c (xrB c (L - S.1) S.1) (xrL c (L - xrB c (L - S.1) S.1) (xrB c (L - S.1) S.1)); omega
            · have := xrG_is (c := c (xrB c (L - S.1) S.1)); omega
      · rename_i q3
        rw [if_neg q3] at hi
        exact eJ_bh hi
theorem xUn_1 {s e : Nat} {kd v op : Int} {W O : List Int} : (xUn s e kd v op W O).1 = e ∧ (xUn s e kd v op W O).2.2.2.2.2.2 = false := by unfold xUn; (repeat' split) <;> exact ⟨rfl, rfl⟩
theorem xBh_1 {s e : Nat} {kd op : Int} {W O : List Int} : (xBh s e kd op W O).1 = e ∧ (kd ≠ 25 → (xBh s e kd op W O).2.2.2.2.2.2 = false) := by
  unfold xBh
  (repeat' split) <;> first | exact ⟨rfl, fun _ => rfl⟩ | (rename_i q _; exact ⟨rfl, fun h => absurd q h⟩) | (rename_i q; exact ⟨rfl, fun h => absurd q h⟩)
theorem xIt_le (c : Nat → Int) (L : Nat) : ∀ t : Nat, (xIt c L t).1 ≤ L
  | 0 => Nat.zero_le _
  | t + 1 => by
    have q := xIt_le c L t
    show (xSp c L (xIt c L t)).1 ≤ L
    have rb := xrB_r c (L - (xIt c L t).1) (xIt c L t).1
    have re := (xEn_r c (L := L) (s := xrB c (L - (xIt c L t).1) (xIt c L t).1) (by omega)).2.1
    unfold xSp
    split
    · exact q
    · split
      · exact re
      · split
        · rw [xUn_1.1]; exact re
        · rw [xBh_1.1]; exact re
theorem eJ_it (c : Nat → Int) (L : Nat) : ∀ t : Nat, eJ (xIt c L t)
  | 0 => fun _ => ⟨fun k hk => absurd hk List.not_mem_nil, rfl⟩
  | t + 1 => eJ_sp (eJ_it c L t) (xIt_le c L t)
noncomputable def eEd (S : xSt) (t : Nat) : Prop := ¬ S.2.2.2.2.2.1 = -1 ∨ (S.2.2.2.2.2.2 = true ∧ S.2.2.2.1 = [] ∧ S.2.1 = false) ∨ (t ≤ S.1 ∧ S.2.2.2.2.2.2 = false)
theorem eEd_sp {c : Nat → Int} {L t : Nat} {S : xSt} (hs : S.1 ≤ L) (h : eEd S t) : eEd (xSp c L S) (t + 1) := by
  unfold xSp
  split
  · rename_i q
    rcases h with h | h | h
    · exact .inl h
    · exact .inr (.inl h)
    · rcases q with q | q
      · exact .inl q
      · rw [h.2] at q; exact Bool.noConfusion q
  · rename_i q
    have q1 : S.2.2.2.2.2.1 = -1 := Decidable.byContradiction (fun z => q (.inl z))
    have q2 : ¬ S.2.2.2.2.2.2 = true := fun z => q (.inr z)
    have ht : t ≤ S.1 := by
      rcases h with h | h | h
      · exact absurd q1 h
      · exact absurd h.1 q2
      · exact h.1
    have rb := xrB_r c (L - S.1) S.1
    have re := xEn_r c (L := L) (s := xrB c (L - S.1) S.1) (by omega)
    split
    · refine .inl ?_
      have := xWy_r c L (xrB c (L - S.1) S.1)
      show ¬ 10 * ((xrB c (L - S.1) S.1 : Nat) : Int) + xWy c L (xrB c (L - S.1) S.1) = -1
      omega
    · obtain ⟨kd, hkd⟩ : ∃ kd, kd = xKd c L (xrB c (L - S.1) S.1) := ⟨_, rfl⟩
      rw [← hkd]
      rw [← hkd] at re
      split
      · by_cases k25 : kd = 25
        · refine .inl ?_
          unfold xUn
          rw [if_neg (by omega), if_neg (by omega), if_neg (by omega), if_neg (by omega), if_neg (by omega)]
          show ¬ 10 * ((xrB c (L - S.1) S.1 : Nat) : Int) + 1 = -1
          omega
        · exact .inr (.inr ⟨by rw [xUn_1.1]; have := re.2.2 k25; omega, xUn_1.2⟩)
      · by_cases k25 : kd = 25
        · unfold xBh
          rw [if_neg (by omega), if_neg (by omega), if_neg (by omega), if_neg (by omega), if_neg (by omega), if_neg (by omega), if_pos k25]
          split
          · refine .inl ?_
            show ¬ 10 * ((xrB c (L - S.1) S.1 : Nat) : Int) + 1 = -1
            omega
          · exact .inr (.inl ⟨rfl, rfl, rfl⟩)
        · exact .inr (.inr ⟨by rw [xBh_1.1]; have := re.2.2 k25; omega, xBh_1.2 k25⟩)
theorem eEd_it (c : Nat → Int) (L : Nat) : ∀ t : Nat, eEd (xIt c L t) t
  | 0 => .inr (.inr ⟨Nat.le_refl _, rfl⟩)
  | t + 1 => eEd_sp (xIt_le c L t) (eEd_it c L t)
/-- what a text without fault tells: all of it may be worked, one is left -/
theorem xTd_in {c : Nat → Int} {L : Nat} (hL : L ≤ 80) (h : xFt c L = -1) : (∀ k ∈ xTd c L, eOk k) ∧ eD (xTd c L) = 1 := by
  have q1 := eJ_it c L 81 (by rw [← xFt_81]; exact h)
  have hl := xIt_le c L 81
  rcases eEd_it c L 81 with q | ⟨-, qw, qd⟩ | ⟨q, -⟩
  · exact absurd (by rw [← xFt_81]; exact h) q
  · rw [qw, qd] at q1
    rw [xTd_81]
    exact q1
  · exact absurd (Nat.le_trans (Nat.le_trans q hl) hL) (by decide)
theorem xC_at {g : Nat → Int} : ∀ {A : List Int} {k : Int} {B : List Int}, xC g (A ++ k :: B) → g (1 + B.length) = k
  | [], _, _, h => h.1
  | _ :: A, _, _, h => xC_at (A := A) h.2
theorem yC_at {f g : Nat → Int} : ∀ {A : List Int} {k : Int} {B : List Int}, yC f g (A ++ k :: B) → f B.length = ys k ∧ g B.length = yv k
  | [], _, _, h => h.1
  | _ :: A, _, _, h => yC_at (A := A) h.2
theorem eSplit : ∀ {A : List Int}, A ≠ [] → ∃ (A' : List Int) (k : Int), A = A' ++ [k]
  | [], h => absurd rfl h
  | [x], _ => ⟨[], x, rfl⟩
  | x :: y :: B, _ => by
    obtain ⟨A', k, e⟩ := eSplit (A := y :: B) (List.cons_ne_nil _ _)
    exact ⟨x :: A', k, by rw [e]; rfl⟩
theorem elc_eq {a b : Int} : ((if b < a then (1 : Int) else if a = b then 0 else -1) = 0) ↔ a = b := by (repeat' split) <;> constructor <;> intro h <;> omega
theorem elc_lt {a b : Int} : ((if b < a then (1 : Int) else if a = b then 0 else -1) < 0) ↔ a < b := by (repeat' split) <;> constructor <;> intro h <;> omega
theorem elc_ge {a b : Int} : (0 ≤ (if b < a then (1 : Int) else if a = b then 0 else -1)) ↔ b ≤ a := by (repeat' split) <;> constructor <;> intro h <;> omega
theorem elc_gt {a b : Int} : (0 < (if b < a then (1 : Int) else if a = b then 0 else -1)) ↔ b < a := by (repeat' split) <;> constructor <;> intro h <;> omega
theorem elc_le {a b : Int} : ((if b < a then (1 : Int) else if a = b then 0 else -1) ≤ 0) ↔ a ≤ b := by (repeat' split) <;> constructor <;> intro h <;> omega
theorem exnot {k : Int} (h : -27 ≤ k ∧ k < 0) : zbxor k (-1) = -k - 1 := by
  have q : ∀ v : Fin 27, zbxor (-(v.val : Int) - 1) (-1) = (v.val : Int) := by decide
  have := q ⟨(-k - 1).toNat, by omega⟩
  rw [show -(((⟨(-k - 1).toNat, by omega⟩ : Fin 27).val : Nat) : Int) - 1 = k by show -(((-k - 1).toNat : Nat) : Int) - 1 = k; omega] at this
  rw [this]
  show (((-k - 1).toNat : Nat) : Int) = _
  omega
noncomputable def hf_65_72 (M : zM) (a1 : Int) : zM :=
  (if (M 72 4) < 0 then M else (if 80 ≤ (M 72 4) then M else zput (zput M 73 (M 72 4 : Int).toNat a1) 72 4 (w32 (((zput M 73 (M 72 4 : Int).toNat a1) 72 4) + 1))))
set_option maxRecDepth 100000 in
theorem fh_65_72 {n : Nat} {M : zM} (a1 : Int) : zH n (0, 0) 65 (0, zini [zR 72, .inr (.inl a1)] 3, []) M (fun r M' => r = none ∧ M' = hf_65_72 M a1) := by
  have hz := zp_65
  have hE : hf_65_72 M a1 = hf_65_72 M a1 := rfl
  show zH n (0, 0) 65 (0, [zR 72, .inr (.inl a1), zN], []) M _
  refine zH_wf_lt (pc := 4) (n' := 7) (t := 39) (L := [zR 72, .inr (.inl a1), zN]) (st := []) (x := (M 72 4)) 2 hz (by rfl) (fun hb => ?_) (fun hb => ?_)
  · have hE := hE.trans (if_pos hb)
    exact zH_wr (r := none) 0 hz (by rfl) ⟨rfl, hE.symm⟩
  · have hE := hE.trans (if_neg hb)
    refine zH_wi_ge (pc := 16) (n' := 19) (t := 39) (L := [zR 72, .inr (.inl a1), zN]) (st := []) (x := (M 72 4)) (y := 80) 5 hz (by rfl) (fun hb => ?_) (fun hb => ?_)
    · have hE := hE.trans (if_pos hb)
      exact zH_wr (r := none) 0 hz (by rfl) ⟨rfl, hE.symm⟩
    · have hE := hE.trans (if_neg hb)
      refine zH_w (c' := (28, [zR 72, .inr (.inl a1), zN], [.inr (.inl a1), .inl (M 72 4), zR 73])) 5 hz rfl ?_
      refine zH_last hz rfl rfl (fun _ => ?_)
      show zH n (0, 0) 65 (29, [zR 72, .inr (.inl a1), zN], []) (zput M 73 (M 72 4 : Int).toNat a1) _
      refine zH_w (c' := (39, [zR 72, .inr (.inl a1), zN], [])) 6 hz rfl ?_
      exact zH_wr (r := none) 0 hz (by rfl) ⟨rfl, hE.symm⟩
noncomputable def hf_66_72 (M : zM) : Int × zM :=
  (if (M 72 4) < 1 then (0, M) else (if (M 72 4) ≤ 80 then ((zput M 72 4 (w32 ((M 72 4) - 1))) 73 ((zput M 72 4 (w32 ((M 72 4) - 1))) 72 4 : Int).toNat, zput M 72 4 (w32 ((M 72 4) - 1))) else (0, M)))
set_option maxRecDepth 100000 in
theorem fh_66_72 {n : Nat} {M : zM} : zH n (0, 0) 66 (0, zini [zR 72] 1, []) M (fun r M' => r = some (.inr (.inl (hf_66_72 M).1)) ∧ M' = (hf_66_72 M).2) := by
  have hz := zp_66
  have hE : hf_66_72 M = hf_66_72 M := rfl
  show zH n (0, 0) 66 (0, [zR 72], []) M _
  refine zH_wi_lt (pc := 5) (n' := 8) (t := 20) (L := [zR 72]) (st := []) (x := (M 72 4)) (y := 1) 3 hz (by rfl) (fun hb => ?_) (fun hb => ?_)
  · have hE := hE.trans (if_pos hb)
    exact zH_wr (r := some (.inr (.inl 0))) 1 hz (by rfl) (hfinBj hE)
  · have hE := hE.trans (if_neg hb)
    refine zH_wi_le (pc := 17) (n' := 20) (t := 22) (L := [zR 72]) (st := []) (x := (M 72 4)) (y := 80) 5 hz (by rfl) (fun hb => ?_) (fun hb => ?_)
    · have hE := hE.trans (if_pos hb)
      refine zH_w (c' := (40, [zR 72], [.inl ((zput M 72 4 (w32 ((M 72 4) - 1))) 72 4), zR 73])) 10 hz rfl ?_
      refine zH_lald hz rfl rfl (.inl rfl) (fun _ => ?_)
      show zH n (0, 0) 66 (41, [zR 72], [.inr (.inl ((zput M 72 4 (w32 ((M 72 4) - 1))) 73 ((zput M 72 4 (w32 ((M 72 4) - 1))) 72 4 : Int).toNat))]) (zput M 72 4 (w32 ((M 72 4) - 1))) _
      exact zH_wr (r := some (.inr (.inl ((zput M 72 4 (w32 ((M 72 4) - 1))) 73 ((zput M 72 4 (w32 ((M 72 4) - 1))) 72 4 : Int).toNat)))) 0 hz (by rfl) (hfinBj hE)
    · have hE := hE.trans (if_neg hb)
      exact zH_wr (r := some (.inr (.inl 0))) 1 hz (by rfl) (hfinBj hE)
noncomputable def hf_58_72 (M : zM) (a1 : Int) : Int :=
  (if a1 < 0 then 0 else (if 15 ≤ a1 then 0 else M 74 (a1 : Int).toNat))
set_option maxRecDepth 100000 in
theorem fh_58_72 {n : Nat} {M : zM} (a1 : Int) : zH n (0, 0) 58 (0, zini [zR 72, .inl a1] 2, []) M (fun r M' => r = some (.inr (.inl (hf_58_72 M a1))) ∧ M' = M) := by
  have hz := zp_58
  have hE : hf_58_72 M a1 = hf_58_72 M a1 := rfl
  show zH n (0, 0) 58 (0, [zR 72, .inl a1], []) M _
  refine zH_wf_lt (pc := 1) (n' := 4) (t := 22) (L := [zR 72, .inl a1]) (st := []) (x := a1) 1 hz (by rfl) (fun hb => ?_) (fun hb => ?_)
  · have hE := hE.trans (if_pos hb)
    exact zH_wr (r := some (.inr (.inl 0))) 1 hz (by rfl) (hfinPj hE)
  · have hE := hE.trans (if_neg hb)
    refine zH_wi_ge (pc := 10) (n' := 13) (t := 22) (L := [zR 72, .inl a1]) (st := []) (x := a1) (y := 15) 4 hz (by rfl) (fun hb => ?_) (fun hb => ?_)
    · have hE := hE.trans (if_pos hb)
      exact zH_wr (r := some (.inr (.inl 0))) 1 hz (by rfl) (hfinPj hE)
    · have hE := hE.trans (if_neg hb)
      refine zH_w (c' := (18, [zR 72, .inl a1], [.inl a1, zR 74])) 3 hz rfl ?_
      refine zH_lald hz rfl rfl (.inl rfl) (fun _ => ?_)
      show zH n (0, 0) 58 (19, [zR 72, .inl a1], [.inr (.inl (M 74 (a1 : Int).toNat))]) M _
      exact zH_wr (r := some (.inr (.inl (M 74 (a1 : Int).toNat)))) 1 hz (by rfl) (hfinPj hE)
noncomputable def hf_64 (M : zM) (a0 : Int) (a1 : Int) (a2 : Int) : Int :=
  (if a0 = 0 then (if (if 0 < a2 then 1 else if a2 = 0 then 0 else -1) = 0 then a1 else 0) else (if a0 = 1 then 0 else (if a0 = 2 then 0 else (if a0 = 3 then (if ¬ (if 0 < a1 then 1 else if a1 = 0 then 0 else -1) = 0 then 1 else (if (if 0 < a2 then 1 else if a2 = 0 then 0 else -1) = 0 then 0 else 1)) else (if a0 = 4 then (if (if 0 < a1 then 1 else if a1 = 0 then 0 else -1) = 0 then 0 else (if (if 0 < a2 then 1 else if a2 = 0 then 0 else -1) = 0 then 0 else 1)) else (if a0 = 5 then 0 else (if a0 = 6 then 0 else (if a0 = 7 then 0 else (if a0 = 8 then 0 else (if a0 = 9 then 0 else (if a0 = 10 then 0 else (if a0 = 11 then 0 else (if a0 = 12 then 0 else (if a0 = 13 then 0 else (if a0 = 14 then 0 else (if a0 = 15 then (if 0 ≤ (if a2 < a1 then 1 else if a1 = a2 then 0 else -1) then 0 else 1) else (if a0 = 16 then (if (if a2 < a1 then 1 else if a1 = a2 then 0 else -1) ≤ 0 then 0 else 1) else (if a0 = 17 then (if ¬ (if a2 < a1 then 1 else if a1 = a2 then 0 else -1) = 0 then 0 else 1) else (if a0 = 18 then w64 (a1 + a2) else (if a0 = 19 then w64 (a1 - a2) else (if a0 = 20 then w64 (a1 * a2) else (if a0 = 21 then (if ¬ (if 0 < a2 then 1 else if a2 = 0 then 0 else -1) = 0 then w64 (a1.tdiv a2) else 0) else 0))))))))))))))))))))))
set_option maxRecDepth 100000 in
theorem fh_64 {n : Nat} {M : zM} (a0 : Int) (a1 : Int) (a2 : Int) : zH n (0, 0) 64 (0, zini [.inl a0, .inr (.inl a1), .inr (.inl a2)] 5, []) M (fun r M' => r = some (.inr (.inl (hf_64 M a0 a1 a2))) ∧ M' = M) := by
  have hz := zp_64
  have hE : hf_64 M a0 a1 a2 = hf_64 M a0 a1 a2 := rfl
  show zH n (0, 0) 64 (0, [.inl a0, .inr (.inl a1), zN, .inr (.inl a2), zN], []) M _
  refine zH_w (c' := (1, [.inl a0, .inr (.inl a1), zN, .inr (.inl a2), zN], [.inl a0])) 1 hz rfl ?_
  refine zH_sw hz rfl ?_
  by_cases hw0 : a0 = 0
  · have hE := hE.trans (if_pos hw0)
    rw [show zts 0 a0 214 [104, 214, 214, 116, 134, 214, 214, 214, 214, 214, 214, 214, 214, 214, 214, 152, 164, 176, 188, 192, 196, 200] = 104 from by rw [hw0]; rfl]
    refine zH_w (c' := (107, [.inl a0, .inr (.inl a1), zN, .inr (.inl a2), zN], [.inl (if 0 < a2 then 1 else if a2 = 0 then 0 else -1)])) 3 hz rfl ?_
    refine zH_wf_eq (pc := 107) (n' := 110) (t := 114) (L := [.inl a0, .inr (.inl a1), zN, .inr (.inl a2), zN]) (st := []) (x := (if 0 < a2 then 1 else if a2 = 0 then 0 else -1)) 0 hz (by rfl) (fun hb => ?_) (fun hb => ?_)
    · have hE := hE.trans (if_pos hb)
      exact zH_wr (r := some (.inr (.inl a1))) 1 hz (by rfl) (hfinPj hE)
    · have hE := hE.trans (if_neg hb)
      exact zH_wr (r := some (.inr (.inl 0))) 2 hz (by rfl) (hfinPj hE)
  have hE := hE.trans (if_neg hw0)
  by_cases hw1 : a0 = 1
  · have hE := hE.trans (if_pos hw1)
    rw [show zts 0 a0 214 [104, 214, 214, 116, 134, 214, 214, 214, 214, 214, 214, 214, 214, 214, 214, 152, 164, 176, 188, 192, 196, 200] = 214 from by rw [hw1]; rfl]
    refine zH_w (c' := (215, [.inl a0, .inr (.inl a1), zN, .inr (.inl a2), zN], [.inr (.inl 0)])) 1 hz rfl ?_
    exact zH_wr (r := some (.inr (.inl 0))) 0 hz (by rfl) (hfinPj hE)
  have hE := hE.trans (if_neg hw1)
  by_cases hw2 : a0 = 2
  · have hE := hE.trans (if_pos hw2)
    rw [show zts 0 a0 214 [104, 214, 214, 116, 134, 214, 214, 214, 214, 214, 214, 214, 214, 214, 214, 152, 164, 176, 188, 192, 196, 200] = 214 from by rw [hw2]; rfl]
    refine zH_w (c' := (215, [.inl a0, .inr (.inl a1), zN, .inr (.inl a2), zN], [.inr (.inl 0)])) 1 hz rfl ?_
    exact zH_wr (r := some (.inr (.inl 0))) 0 hz (by rfl) (hfinPj hE)
  have hE := hE.trans (if_neg hw2)
  by_cases hw3 : a0 = 3
  · have hE := hE.trans (if_pos hw3)
    rw [show zts 0 a0 214 [104, 214, 214, 116, 134, 214, 214, 214, 214, 214, 214, 214, 214, 214, 214, 152, 164, 176, 188, 192, 196, 200] = 116 from by rw [hw3]; rfl]
    refine zH_w (c' := (119, [.inl a0, .inr (.inl a1), zN, .inr (.inl a2), zN], [.inl (if 0 < a1 then 1 else if a1 = 0 then 0 else -1)])) 3 hz rfl ?_
    refine zH_wf_ne (pc := 119) (n' := 122) (t := 128) (L := [.inl a0, .inr (.inl a1), zN, .inr (.inl a2), zN]) (st := []) (x := (if 0 < a1 then 1 else if a1 = 0 then 0 else -1)) 0 hz (by rfl) (fun hb => ?_) (fun hb => ?_)
    · have hE := hE.trans (if_pos hb)
      exact zH_wr (r := some (.inr (.inl 1))) 2 hz (by rfl) (hfinPj hE)
    · have hE := hE.trans (if_neg hb)
      refine zH_wf_eq (pc := 125) (n' := 128) (t := 132) (L := [.inl a0, .inr (.inl a1), zN, .inr (.inl a2), zN]) (st := []) (x := (if 0 < a2 then 1 else if a2 = 0 then 0 else -1)) 3 hz (by rfl) (fun hb => ?_) (fun hb => ?_)
      · have hE := hE.trans (if_pos hb)
        exact zH_wr (r := some (.inr (.inl 0))) 1 hz (by rfl) (hfinPj hE)
      · have hE := hE.trans (if_neg hb)
        exact zH_wr (r := some (.inr (.inl 1))) 2 hz (by rfl) (hfinPj hE)
  have hE := hE.trans (if_neg hw3)
  by_cases hw4 : a0 = 4
  · have hE := hE.trans (if_pos hw4)
    rw [show zts 0 a0 214 [104, 214, 214, 116, 134, 214, 214, 214, 214, 214, 214, 214, 214, 214, 214, 152, 164, 176, 188, 192, 196, 200] = 134 from by rw [hw4]; rfl]
    refine zH_w (c' := (137, [.inl a0, .inr (.inl a1), zN, .inr (.inl a2), zN], [.inl (if 0 < a1 then 1 else if a1 = 0 then 0 else -1)])) 3 hz rfl ?_
    refine zH_wf_eq (pc := 137) (n' := 140) (t := 150) (L := [.inl a0, .inr (.inl a1), zN, .inr (.inl a2), zN]) (st := []) (x := (if 0 < a1 then 1 else if a1 = 0 then 0 else -1)) 0 hz (by rfl) (fun hb => ?_) (fun hb => ?_)
    · have hE := hE.trans (if_pos hb)
      exact zH_wr (r := some (.inr (.inl 0))) 1 hz (by rfl) (hfinPj hE)
    · have hE := hE.trans (if_neg hb)
      refine zH_wf_eq (pc := 143) (n' := 146) (t := 150) (L := [.inl a0, .inr (.inl a1), zN, .inr (.inl a2), zN]) (st := []) (x := (if 0 < a2 then 1 else if a2 = 0 then 0 else -1)) 3 hz (by rfl) (fun hb => ?_) (fun hb => ?_)
      · have hE := hE.trans (if_pos hb)
        exact zH_wr (r := some (.inr (.inl 0))) 1 hz (by rfl) (hfinPj hE)
      · have hE := hE.trans (if_neg hb)
        exact zH_wr (r := some (.inr (.inl 1))) 2 hz (by rfl) (hfinPj hE)
  have hE := hE.trans (if_neg hw4)
  by_cases hw5 : a0 = 5
  · have hE := hE.trans (if_pos hw5)
    rw [show zts 0 a0 214 [104, 214, 214, 116, 134, 214, 214, 214, 214, 214, 214, 214, 214, 214, 214, 152, 164, 176, 188, 192, 196, 200] = 214 from by rw [hw5]; rfl]
    refine zH_w (c' := (215, [.inl a0, .inr (.inl a1), zN, .inr (.inl a2), zN], [.inr (.inl 0)])) 1 hz rfl ?_
    exact zH_wr (r := some (.inr (.inl 0))) 0 hz (by rfl) (hfinPj hE)
  have hE := hE.trans (if_neg hw5)
  by_cases hw6 : a0 = 6
  · have hE := hE.trans (if_pos hw6)
    rw [show zts 0 a0 214 [104, 214, 214, 116, 134, 214, 214, 214, 214, 214, 214, 214, 214, 214, 214, 152, 164, 176, 188, 192, 196, 200] = 214 from by rw [hw6]; rfl]
    refine zH_w (c' := (215, [.inl a0, .inr (.inl a1), zN, .inr (.inl a2), zN], [.inr (.inl 0)])) 1 hz rfl ?_
    exact zH_wr (r := some (.inr (.inl 0))) 0 hz (by rfl) (hfinPj hE)
  have hE := hE.trans (if_neg hw6)
  by_cases hw7 : a0 = 7
  · have hE := hE.trans (if_pos hw7)
    rw [show zts 0 a0 214 [104, 214, 214, 116, 134, 214, 214, 214, 214, 214, 214, 214, 214, 214, 214, 152, 164, 176, 188, 192, 196, 200] = 214 from by rw [hw7]; rfl]
    refine zH_w (c' := (215, [.inl a0, .inr (.inl a1), zN, .inr (.inl a2), zN], [.inr (.inl 0)])) 1 hz rfl ?_
    exact zH_wr (r := some (.inr (.inl 0))) 0 hz (by rfl) (hfinPj hE)
  have hE := hE.trans (if_neg hw7)
  by_cases hw8 : a0 = 8
  · have hE := hE.trans (if_pos hw8)
    rw [show zts 0 a0 214 [104, 214, 214, 116, 134, 214, 214, 214, 214, 214, 214, 214, 214, 214, 214, 152, 164, 176, 188, 192, 196, 200] = 214 from by rw [hw8]; rfl]
    refine zH_w (c' := (215, [.inl a0, .inr (.inl a1), zN, .inr (.inl a2), zN], [.inr (.inl 0)])) 1 hz rfl ?_
    exact zH_wr (r := some (.inr (.inl 0))) 0 hz (by rfl) (hfinPj hE)
  have hE := hE.trans (if_neg hw8)
  by_cases hw9 : a0 = 9
  · have hE := hE.trans (if_pos hw9)
    rw [show zts 0 a0 214 [104, 214, 214, 116, 134, 214, 214, 214, 214, 214, 214, 214, 214, 214, 214, 152, 164, 176, 188, 192, 196, 200] = 214 from by rw [hw9]; rfl]
    refine zH_w (c' := (215, [.inl a0, .inr (.inl a1), zN, .inr (.inl a2), zN], [.inr (.inl 0)])) 1 hz rfl ?_
    exact zH_wr (r := some (.inr (.inl 0))) 0 hz (by rfl) (hfinPj hE)
  have hE := hE.trans (if_neg hw9)
  by_cases hw10 : a0 = 10
  · have hE := hE.trans (if_pos hw10)
    rw [show zts 0 a0 214 [104, 214, 214, 116, 134, 214, 214, 214, 214, 214, 214, 214, 214, 214, 214, 152, 164, 176, 188, 192, 196, 200] = 214 from by rw [hw10]; rfl]
    refine zH_w (c' := (215, [.inl a0, .inr (.inl a1), zN, .inr (.inl a2), zN], [.inr (.inl 0)])) 1 hz rfl ?_
    exact zH_wr (r := some (.inr (.inl 0))) 0 hz (by rfl) (hfinPj hE)
  have hE := hE.trans (if_neg hw10)
  by_cases hw11 : a0 = 11
  · have hE := hE.trans (if_pos hw11)
    rw [show zts 0 a0 214 [104, 214, 214, 116, 134, 214, 214, 214, 214, 214, 214, 214, 214, 214, 214, 152, 164, 176, 188, 192, 196, 200] = 214 from by rw [hw11]; rfl]
    refine zH_w (c' := (215, [.inl a0, .inr (.inl a1), zN, .inr (.inl a2), zN], [.inr (.inl 0)])) 1 hz rfl ?_
    exact zH_wr (r := some (.inr (.inl 0))) 0 hz (by rfl) (hfinPj hE)
  have hE := hE.trans (if_neg hw11)
  by_cases hw12 : a0 = 12
  · have hE := hE.trans (if_pos hw12)
    rw [show zts 0 a0 214 [104, 214, 214, 116, 134, 214, 214, 214, 214, 214, 214, 214, 214, 214, 214, 152, 164, 176, 188, 192, 196, 200] = 214 from by rw [hw12]; rfl]
    refine zH_w (c' := (215, [.inl a0, .inr (.inl a1), zN, .inr (.inl a2), zN], [.inr (.inl 0)])) 1 hz rfl ?_
    exact zH_wr (r := some (.inr (.inl 0))) 0 hz (by rfl) (hfinPj hE)
  have hE := hE.trans (if_neg hw12)
  by_cases hw13 : a0 = 13
  · have hE := hE.trans (if_pos hw13)
    rw [show zts 0 a0 214 [104, 214, 214, 116, 134, 214, 214, 214, 214, 214, 214, 214, 214, 214, 214, 152, 164, 176, 188, 192, 196, 200] = 214 from by rw [hw13]; rfl]
    refine zH_w (c' := (215, [.inl a0, .inr (.inl a1), zN, .inr (.inl a2), zN], [.inr (.inl 0)])) 1 hz rfl ?_
    exact zH_wr (r := some (.inr (.inl 0))) 0 hz (by rfl) (hfinPj hE)
  have hE := hE.trans (if_neg hw13)
  by_cases hw14 : a0 = 14
  · have hE := hE.trans (if_pos hw14)
    rw [show zts 0 a0 214 [104, 214, 214, 116, 134, 214, 214, 214, 214, 214, 214, 214, 214, 214, 214, 152, 164, 176, 188, 192, 196, 200] = 214 from by rw [hw14]; rfl]
    refine zH_w (c' := (215, [.inl a0, .inr (.inl a1), zN, .inr (.inl a2), zN], [.inr (.inl 0)])) 1 hz rfl ?_
    exact zH_wr (r := some (.inr (.inl 0))) 0 hz (by rfl) (hfinPj hE)
  have hE := hE.trans (if_neg hw14)
  by_cases hw15 : a0 = 15
  · have hE := hE.trans (if_pos hw15)
    rw [show zts 0 a0 214 [104, 214, 214, 116, 134, 214, 214, 214, 214, 214, 214, 214, 214, 214, 214, 152, 164, 176, 188, 192, 196, 200] = 152 from by rw [hw15]; rfl]
    refine zH_w (c' := (155, [.inl a0, .inr (.inl a1), zN, .inr (.inl a2), zN], [.inl (if a2 < a1 then 1 else if a1 = a2 then 0 else -1)])) 3 hz rfl ?_
    refine zH_wf_ge (pc := 155) (n' := 158) (t := 162) (L := [.inl a0, .inr (.inl a1), zN, .inr (.inl a2), zN]) (st := []) (x := (if a2 < a1 then 1 else if a1 = a2 then 0 else -1)) 0 hz (by rfl) (fun hb => ?_) (fun hb => ?_)
    · have hE := hE.trans (if_pos hb)
      exact zH_wr (r := some (.inr (.inl 0))) 1 hz (by rfl) (hfinPj hE)
    · have hE := hE.trans (if_neg hb)
      exact zH_wr (r := some (.inr (.inl 1))) 2 hz (by rfl) (hfinPj hE)
  have hE := hE.trans (if_neg hw15)
  by_cases hw16 : a0 = 16
  · have hE := hE.trans (if_pos hw16)
    rw [show zts 0 a0 214 [104, 214, 214, 116, 134, 214, 214, 214, 214, 214, 214, 214, 214, 214, 214, 152, 164, 176, 188, 192, 196, 200] = 164 from by rw [hw16]; rfl]
    refine zH_w (c' := (167, [.inl a0, .inr (.inl a1), zN, .inr (.inl a2), zN], [.inl (if a2 < a1 then 1 else if a1 = a2 then 0 else -1)])) 3 hz rfl ?_
    refine zH_wf_le (pc := 167) (n' := 170) (t := 174) (L := [.inl a0, .inr (.inl a1), zN, .inr (.inl a2), zN]) (st := []) (x := (if a2 < a1 then 1 else if a1 = a2 then 0 else -1)) 0 hz (by rfl) (fun hb => ?_) (fun hb => ?_)
    · have hE := hE.trans (if_pos hb)
      exact zH_wr (r := some (.inr (.inl 0))) 1 hz (by rfl) (hfinPj hE)
    · have hE := hE.trans (if_neg hb)
      exact zH_wr (r := some (.inr (.inl 1))) 2 hz (by rfl) (hfinPj hE)
  have hE := hE.trans (if_neg hw16)
  by_cases hw17 : a0 = 17
  · have hE := hE.trans (if_pos hw17)
    rw [show zts 0 a0 214 [104, 214, 214, 116, 134, 214, 214, 214, 214, 214, 214, 214, 214, 214, 214, 152, 164, 176, 188, 192, 196, 200] = 176 from by rw [hw17]; rfl]
    refine zH_w (c' := (179, [.inl a0, .inr (.inl a1), zN, .inr (.inl a2), zN], [.inl (if a2 < a1 then 1 else if a1 = a2 then 0 else -1)])) 3 hz rfl ?_
    refine zH_wf_ne (pc := 179) (n' := 182) (t := 186) (L := [.inl a0, .inr (.inl a1), zN, .inr (.inl a2), zN]) (st := []) (x := (if a2 < a1 then 1 else if a1 = a2 then 0 else -1)) 0 hz (by rfl) (fun hb => ?_) (fun hb => ?_)
    · have hE := hE.trans (if_pos hb)
      exact zH_wr (r := some (.inr (.inl 0))) 1 hz (by rfl) (hfinPj hE)
    · have hE := hE.trans (if_neg hb)
      exact zH_wr (r := some (.inr (.inl 1))) 2 hz (by rfl) (hfinPj hE)
  have hE := hE.trans (if_neg hw17)
  by_cases hw18 : a0 = 18
  · have hE := hE.trans (if_pos hw18)
    rw [show zts 0 a0 214 [104, 214, 214, 116, 134, 214, 214, 214, 214, 214, 214, 214, 214, 214, 214, 152, 164, 176, 188, 192, 196, 200] = 188 from by rw [hw18]; rfl]
    refine zH_w (c' := (191, [.inl a0, .inr (.inl a1), zN, .inr (.inl a2), zN], [.inr (.inl (w64 (a1 + a2)))])) 3 hz rfl ?_
    exact zH_wr (r := some (.inr (.inl (w64 (a1 + a2))))) 0 hz (by rfl) (hfinPj hE)
  have hE := hE.trans (if_neg hw18)
  by_cases hw19 : a0 = 19
  · have hE := hE.trans (if_pos hw19)
    rw [show zts 0 a0 214 [104, 214, 214, 116, 134, 214, 214, 214, 214, 214, 214, 214, 214, 214, 214, 152, 164, 176, 188, 192, 196, 200] = 192 from by rw [hw19]; rfl]
    refine zH_w (c' := (195, [.inl a0, .inr (.inl a1), zN, .inr (.inl a2), zN], [.inr (.inl (w64 (a1 - a2)))])) 3 hz rfl ?_
    exact zH_wr (r := some (.inr (.inl (w64 (a1 - a2))))) 0 hz (by rfl) (hfinPj hE)
  have hE := hE.trans (if_neg hw19)
  by_cases hw20 : a0 = 20
  · have hE := hE.trans (if_pos hw20)
    rw [show zts 0 a0 214 [104, 214, 214, 116, 134, 214, 214, 214, 214, 214, 214, 214, 214, 214, 214, 152, 164, 176, 188, 192, 196, 200] = 196 from by rw [hw20]; rfl]
    refine zH_w (c' := (199, [.inl a0, .inr (.inl a1), zN, .inr (.inl a2), zN], [.inr (.inl (w64 (a1 * a2)))])) 3 hz rfl ?_
    exact zH_wr (r := some (.inr (.inl (w64 (a1 * a2))))) 0 hz (by rfl) (hfinPj hE)
  have hE := hE.trans (if_neg hw20)
  by_cases hw21 : a0 = 21
  · have hE := hE.trans (if_pos hw21)
    rw [show zts 0 a0 214 [104, 214, 214, 116, 134, 214, 214, 214, 214, 214, 214, 214, 214, 214, 214, 152, 164, 176, 188, 192, 196, 200] = 200 from by rw [hw21]; rfl]
    refine zH_w (c' := (203, [.inl a0, .inr (.inl a1), zN, .inr (.inl a2), zN], [.inl (if 0 < a2 then 1 else if a2 = 0 then 0 else -1)])) 3 hz rfl ?_
    refine zH_wf_ne (pc := 203) (n' := 206) (t := 210) (L := [.inl a0, .inr (.inl a1), zN, .inr (.inl a2), zN]) (st := []) (x := (if 0 < a2 then 1 else if a2 = 0 then 0 else -1)) 0 hz (by rfl) (fun hb => ?_) (fun hb => ?_)
    · have hE := hE.trans (if_pos hb)
      refine zH_w (c' := (212, [.inl a0, .inr (.inl a1), zN, .inr (.inl a2), zN], [.inr (.inl a2), .inr (.inl a1)])) 2 hz rfl ?_
      refine zH_ldiv hz rfl (fun _ => ?_)
      show zH n (0, 0) 64 (213, [.inl a0, .inr (.inl a1), zN, .inr (.inl a2), zN], [.inr (.inl (w64 (a1.tdiv a2)))]) M _
      exact zH_wr (r := some (.inr (.inl (w64 (a1.tdiv a2))))) 0 hz (by rfl) (hfinPj hE)
    · have hE := hE.trans (if_neg hb)
      exact zH_wr (r := some (.inr (.inl 0))) 2 hz (by rfl) (hfinPj hE)
  have hE := hE.trans (if_neg hw21)
  rw [show zts 0 a0 214 [104, 214, 214, 116, 134, 214, 214, 214, 214, 214, 214, 214, 214, 214, 214, 152, 164, 176, 188, 192, 196, 200] = 214 from zts_none (by show ∀ q : Nat, q < 22 → _; intro q hq; rcases (by omega : q = 0 ∨ q = 1 ∨ q = 2 ∨ q = 3 ∨ q = 4 ∨ q = 5 ∨ q = 6 ∨ q = 7 ∨ q = 8 ∨ q = 9 ∨ q = 10 ∨ q = 11 ∨ q = 12 ∨ q = 13 ∨ q = 14 ∨ q = 15 ∨ q = 16 ∨ q = 17 ∨ q = 18 ∨ q = 19 ∨ q = 20 ∨ q = 21) with rfl | rfl | rfl | rfl | rfl | rfl | rfl | rfl | rfl | rfl | rfl | rfl | rfl | rfl | rfl | rfl | rfl | rfl | rfl | rfl | rfl | rfl <;> (intro hx; first | exact absurd hx (by omega)))]
  refine zH_w (c' := (215, [.inl a0, .inr (.inl a1), zN, .inr (.inl a2), zN], [.inr (.inl 0)])) 1 hz rfl ?_
  exact zH_wr (r := some (.inr (.inl 0))) 0 hz (by rfl) (hfinPj hE)
noncomputable def hf_234_97 (M : zM) (a1 : Int) (a2 : Int) (a3 : Int) : Int :=
  (if a1 = 5 then w64 (a2 * a3) else (if a1 = 6 then (if ¬ (if 0 < a3 then 1 else if a3 = 0 then 0 else -1) = 0 then w64 (a2.tdiv a3) else 0) else (if a1 = 7 then w64 (a2 + a3) else (if a1 = 8 then w64 (a2 - a3) else (if a1 = 9 then (if 0 ≤ (if a3 < a2 then 1 else if a2 = a3 then 0 else -1) then 0 else 1) else (if a1 = 10 then (if (if a3 < a2 then 1 else if a2 = a3 then 0 else -1) ≤ 0 then 0 else 1) else (if a1 = 11 then (if ¬ (if a3 < a2 then 1 else if a2 = a3 then 0 else -1) = 0 then 0 else 1) else (if a1 = 12 then (if (if 0 < a2 then 1 else if a2 = 0 then 0 else -1) = 0 then 0 else (if (if 0 < a3 then 1 else if a3 = 0 then 0 else -1) = 0 then 0 else 1)) else (if a1 = 13 then (if ¬ (if 0 < a2 then 1 else if a2 = 0 then 0 else -1) = 0 then 1 else (if (if 0 < a3 then 1 else if a3 = 0 then 0 else -1) = 0 then 0 else 1)) else (if (if 0 < a3 then 1 else if a3 = 0 then 0 else -1) = 0 then a2 else 0))))))))))
set_option maxRecDepth 100000 in
theorem fh_234_97 {n : Nat} {M : zM} (a1 : Int) (a2 : Int) (a3 : Int) : zH n (0, 0) 234 (0, zini [zR 97, .inl a1, .inr (.inl a2), .inr (.inl a3)] 6, []) M (fun r M' => r = some (.inr (.inl (hf_234_97 M a1 a2 a3))) ∧ M' = M) := by
  have hz := zp_234
  have hE : hf_234_97 M a1 a2 a3 = hf_234_97 M a1 a2 a3 := rfl
  show zH n (0, 0) 234 (0, [zR 97, .inl a1, .inr (.inl a2), zN, .inr (.inl a3), zN], []) M _
  refine zH_w (c' := (1, [zR 97, .inl a1, .inr (.inl a2), zN, .inr (.inl a3), zN], [.inl a1])) 1 hz rfl ?_
  refine zH_sw hz rfl ?_
  by_cases hw0 : a1 = 5
  · have hE := hE.trans (if_pos hw0)
    rw [show zts 5 a1 160 [52, 57, 73, 78, 83, 96, 109, 122, 141] = 52 from by rw [hw0]; rfl]
    refine zH_w (c' := (56, [zR 97, .inl a1, .inr (.inl a2), zN, .inr (.inl a3), zN], [.inr (.inl (w64 (a2 * a3)))])) 3 hz rfl ?_
    exact zH_wr (r := some (.inr (.inl (w64 (a2 * a3))))) 0 hz (by rfl) (hfinPj hE)
  have hE := hE.trans (if_neg hw0)
  by_cases hw1 : a1 = 6
  · have hE := hE.trans (if_pos hw1)
    rw [show zts 5 a1 160 [52, 57, 73, 78, 83, 96, 109, 122, 141] = 57 from by rw [hw1]; rfl]
    refine zH_w (c' := (61, [zR 97, .inl a1, .inr (.inl a2), zN, .inr (.inl a3), zN], [.inl (if 0 < a3 then 1 else if a3 = 0 then 0 else -1)])) 3 hz rfl ?_
    refine zH_wf_ne (pc := 61) (n' := 64) (t := 68) (L := [zR 97, .inl a1, .inr (.inl a2), zN, .inr (.inl a3), zN]) (st := []) (x := (if 0 < a3 then 1 else if a3 = 0 then 0 else -1)) 0 hz (by rfl) (fun hb => ?_) (fun hb => ?_)
    · have hE := hE.trans (if_pos hb)
      refine zH_w (c' := (71, [zR 97, .inl a1, .inr (.inl a2), zN, .inr (.inl a3), zN], [.inr (.inl a3), .inr (.inl a2)])) 2 hz rfl ?_
      refine zH_ldiv hz rfl (fun _ => ?_)
      show zH n (0, 0) 234 (72, [zR 97, .inl a1, .inr (.inl a2), zN, .inr (.inl a3), zN], [.inr (.inl (w64 (a2.tdiv a3)))]) M _
      exact zH_wr (r := some (.inr (.inl (w64 (a2.tdiv a3))))) 0 hz (by rfl) (hfinPj hE)
    · have hE := hE.trans (if_neg hb)
      exact zH_wr (r := some (.inr (.inl 0))) 2 hz (by rfl) (hfinPj hE)
  have hE := hE.trans (if_neg hw1)
  by_cases hw2 : a1 = 7
  · have hE := hE.trans (if_pos hw2)
    rw [show zts 5 a1 160 [52, 57, 73, 78, 83, 96, 109, 122, 141] = 73 from by rw [hw2]; rfl]
    refine zH_w (c' := (77, [zR 97, .inl a1, .inr (.inl a2), zN, .inr (.inl a3), zN], [.inr (.inl (w64 (a2 + a3)))])) 3 hz rfl ?_
    exact zH_wr (r := some (.inr (.inl (w64 (a2 + a3))))) 0 hz (by rfl) (hfinPj hE)
  have hE := hE.trans (if_neg hw2)
  by_cases hw3 : a1 = 8
  · have hE := hE.trans (if_pos hw3)
    rw [show zts 5 a1 160 [52, 57, 73, 78, 83, 96, 109, 122, 141] = 78 from by rw [hw3]; rfl]
    refine zH_w (c' := (82, [zR 97, .inl a1, .inr (.inl a2), zN, .inr (.inl a3), zN], [.inr (.inl (w64 (a2 - a3)))])) 3 hz rfl ?_
    exact zH_wr (r := some (.inr (.inl (w64 (a2 - a3))))) 0 hz (by rfl) (hfinPj hE)
  have hE := hE.trans (if_neg hw3)
  by_cases hw4 : a1 = 9
  · have hE := hE.trans (if_pos hw4)
    rw [show zts 5 a1 160 [52, 57, 73, 78, 83, 96, 109, 122, 141] = 83 from by rw [hw4]; rfl]
    refine zH_w (c' := (87, [zR 97, .inl a1, .inr (.inl a2), zN, .inr (.inl a3), zN], [.inl (if a3 < a2 then 1 else if a2 = a3 then 0 else -1)])) 3 hz rfl ?_
    refine zH_wf_ge (pc := 87) (n' := 90) (t := 94) (L := [zR 97, .inl a1, .inr (.inl a2), zN, .inr (.inl a3), zN]) (st := []) (x := (if a3 < a2 then 1 else if a2 = a3 then 0 else -1)) 0 hz (by rfl) (fun hb => ?_) (fun hb => ?_)
    · have hE := hE.trans (if_pos hb)
      exact zH_wr (r := some (.inr (.inl 0))) 1 hz (by rfl) (hfinPj hE)
    · have hE := hE.trans (if_neg hb)
      exact zH_wr (r := some (.inr (.inl 1))) 2 hz (by rfl) (hfinPj hE)
  have hE := hE.trans (if_neg hw4)
  by_cases hw5 : a1 = 10
  · have hE := hE.trans (if_pos hw5)
    rw [show zts 5 a1 160 [52, 57, 73, 78, 83, 96, 109, 122, 141] = 96 from by rw [hw5]; rfl]
    refine zH_w (c' := (100, [zR 97, .inl a1, .inr (.inl a2), zN, .inr (.inl a3), zN], [.inl (if a3 < a2 then 1 else if a2 = a3 then 0 else -1)])) 3 hz rfl ?_
    refine zH_wf_le (pc := 100) (n' := 103) (t := 107) (L := [zR 97, .inl a1, .inr (.inl a2), zN, .inr (.inl a3), zN]) (st := []) (x := (if a3 < a2 then 1 else if a2 = a3 then 0 else -1)) 0 hz (by rfl) (fun hb => ?_) (fun hb => ?_)
    · have hE := hE.trans (if_pos hb)
      exact zH_wr (r := some (.inr (.inl 0))) 1 hz (by rfl) (hfinPj hE)
    · have hE := hE.trans (if_neg hb)
      exact zH_wr (r := some (.inr (.inl 1))) 2 hz (by rfl) (hfinPj hE)
  have hE := hE.trans (if_neg hw5)
  by_cases hw6 : a1 = 11
  · have hE := hE.trans (if_pos hw6)
    rw [show zts 5 a1 160 [52, 57, 73, 78, 83, 96, 109, 122, 141] = 109 from by rw [hw6]; rfl]
    refine zH_w (c' := (113, [zR 97, .inl a1, .inr (.inl a2), zN, .inr (.inl a3), zN], [.inl (if a3 < a2 then 1 else if a2 = a3 then 0 else -1)])) 3 hz rfl ?_
    refine zH_wf_ne (pc := 113) (n' := 116) (t := 120) (L := [zR 97, .inl a1, .inr (.inl a2), zN, .inr (.inl a3), zN]) (st := []) (x := (if a3 < a2 then 1 else if a2 = a3 then 0 else -1)) 0 hz (by rfl) (fun hb => ?_) (fun hb => ?_)
    · have hE := hE.trans (if_pos hb)
      exact zH_wr (r := some (.inr (.inl 0))) 1 hz (by rfl) (hfinPj hE)
    · have hE := hE.trans (if_neg hb)
      exact zH_wr (r := some (.inr (.inl 1))) 2 hz (by rfl) (hfinPj hE)
  have hE := hE.trans (if_neg hw6)
  by_cases hw7 : a1 = 12
  · have hE := hE.trans (if_pos hw7)
    rw [show zts 5 a1 160 [52, 57, 73, 78, 83, 96, 109, 122, 141] = 122 from by rw [hw7]; rfl]
    refine zH_w (c' := (125, [zR 97, .inl a1, .inr (.inl a2), zN, .inr (.inl a3), zN], [.inl (if 0 < a2 then 1 else if a2 = 0 then 0 else -1)])) 3 hz rfl ?_
    refine zH_wf_eq (pc := 125) (n' := 128) (t := 139) (L := [zR 97, .inl a1, .inr (.inl a2), zN, .inr (.inl a3), zN]) (st := []) (x := (if 0 < a2 then 1 else if a2 = 0 then 0 else -1)) 0 hz (by rfl) (fun hb => ?_) (fun hb => ?_)
    · have hE := hE.trans (if_pos hb)
      exact zH_wr (r := some (.inr (.inl 0))) 1 hz (by rfl) (hfinPj hE)
    · have hE := hE.trans (if_neg hb)
      refine zH_wf_eq (pc := 132) (n' := 135) (t := 139) (L := [zR 97, .inl a1, .inr (.inl a2), zN, .inr (.inl a3), zN]) (st := []) (x := (if 0 < a3 then 1 else if a3 = 0 then 0 else -1)) 3 hz (by rfl) (fun hb => ?_) (fun hb => ?_)
      · have hE := hE.trans (if_pos hb)
        exact zH_wr (r := some (.inr (.inl 0))) 1 hz (by rfl) (hfinPj hE)
      · have hE := hE.trans (if_neg hb)
        exact zH_wr (r := some (.inr (.inl 1))) 2 hz (by rfl) (hfinPj hE)
  have hE := hE.trans (if_neg hw7)
  by_cases hw8 : a1 = 13
  · have hE := hE.trans (if_pos hw8)
    rw [show zts 5 a1 160 [52, 57, 73, 78, 83, 96, 109, 122, 141] = 141 from by rw [hw8]; rfl]
    refine zH_w (c' := (144, [zR 97, .inl a1, .inr (.inl a2), zN, .inr (.inl a3), zN], [.inl (if 0 < a2 then 1 else if a2 = 0 then 0 else -1)])) 3 hz rfl ?_
    refine zH_wf_ne (pc := 144) (n' := 147) (t := 154) (L := [zR 97, .inl a1, .inr (.inl a2), zN, .inr (.inl a3), zN]) (st := []) (x := (if 0 < a2 then 1 else if a2 = 0 then 0 else -1)) 0 hz (by rfl) (fun hb => ?_) (fun hb => ?_)
    · have hE := hE.trans (if_pos hb)
      exact zH_wr (r := some (.inr (.inl 1))) 2 hz (by rfl) (hfinPj hE)
    · have hE := hE.trans (if_neg hb)
      refine zH_wf_eq (pc := 151) (n' := 154) (t := 158) (L := [zR 97, .inl a1, .inr (.inl a2), zN, .inr (.inl a3), zN]) (st := []) (x := (if 0 < a3 then 1 else if a3 = 0 then 0 else -1)) 3 hz (by rfl) (fun hb => ?_) (fun hb => ?_)
      · have hE := hE.trans (if_pos hb)
        exact zH_wr (r := some (.inr (.inl 0))) 1 hz (by rfl) (hfinPj hE)
      · have hE := hE.trans (if_neg hb)
        exact zH_wr (r := some (.inr (.inl 1))) 2 hz (by rfl) (hfinPj hE)
  have hE := hE.trans (if_neg hw8)
  rw [show zts 5 a1 160 [52, 57, 73, 78, 83, 96, 109, 122, 141] = 160 from zts_none (by show ∀ q : Nat, q < 9 → _; intro q hq; rcases (by omega : q = 0 ∨ q = 1 ∨ q = 2 ∨ q = 3 ∨ q = 4 ∨ q = 5 ∨ q = 6 ∨ q = 7 ∨ q = 8) with rfl | rfl | rfl | rfl | rfl | rfl | rfl | rfl | rfl <;> (intro hx; first | exact absurd hx (by omega)))]
  refine zH_w (c' := (164, [zR 97, .inl a1, .inr (.inl a2), zN, .inr (.inl a3), zN], [.inl (if 0 < a3 then 1 else if a3 = 0 then 0 else -1)])) 3 hz rfl ?_
  refine zH_wf_eq (pc := 164) (n' := 167) (t := 171) (L := [zR 97, .inl a1, .inr (.inl a2), zN, .inr (.inl a3), zN]) (st := []) (x := (if 0 < a3 then 1 else if a3 = 0 then 0 else -1)) 0 hz (by rfl) (fun hb => ?_) (fun hb => ?_)
  · have hE := hE.trans (if_pos hb)
    exact zH_wr (r := some (.inr (.inl a2))) 1 hz (by rfl) (hfinPj hE)
  · have hE := hE.trans (if_neg hb)
    exact zH_wr (r := some (.inr (.inl 0))) 2 hz (by rfl) (hfinPj hE)
noncomputable def hf_61_72 (M : zM) : Int :=
  M 72 5
set_option maxRecDepth 100000 in
theorem fh_61_72 {n : Nat} {M : zM} : zH n (0, 0) 61 (0, zini [zR 72] 1, []) M (fun r M' => r = some (.inl (hf_61_72 M)) ∧ M' = M) := by
  have hz := zp_61
  have hE : hf_61_72 M = hf_61_72 M := rfl
  show zH n (0, 0) 61 (0, [zR 72], []) M _
  refine zH_w (c' := (4, [zR 72], [.inl (M 72 5)])) 2 hz rfl ?_
  exact zH_zret hz rfl (hfinP hE)
section ES
variable {Mo M : zM} {s : List Int} {u x : Int}
theorem e64 {d a b : Int} (hd : d = 0 ∨ d = 3 ∨ d = 4 ∨ d = 15 ∨ d = 16 ∨ d = 17 ∨ d = 18 ∨ d = 19 ∨ d = 20 ∨ d = 21) : hf_64 M d a b = eTw d a b := by
  rcases hd with rfl | rfl | rfl | rfl | rfl | rfl | rfl | rfl | rfl | rfl <;> unfold hf_64 eTw <;> simp only [Int.reduceEq, ↓reduceIte, elc_eq, elc_lt, elc_ge, elc_gt, elc_le] <;> (repeat' split) <;> first | rfl | omega
theorem e234 {d a b : Int} (hd : d = 0 ∨ d = 3 ∨ d = 4 ∨ d = 15 ∨ d = 16 ∨ d = 17 ∨ d = 18 ∨ d = 19 ∨ d = 20 ∨ d = 21) : hf_234_97 M (ysg d) a b = eTw d a b := by
  rcases hd with rfl | rfl | rfl | rfl | rfl | rfl | rfl | rfl | rfl | rfl <;> unfold ysg hf_234_97 eTw <;> simp only [Int.reduceEq, ↓reduceIte, elc_eq, elc_lt, elc_ge, elc_gt, elc_le] <;> (repeat' split) <;> first | rfl | omega
noncomputable def eCl (M : zM) (more : Int) : eEn := (fun k => if k = 13 then w64 (M 74 13 + more) else M 74 k.toNat, M 72 3, fun j => M 75 j, more)
noncomputable def eMd (M : zM) : eEn := (fun k => M 108 (k - 7).toNat, if M 97 20 = 0 then 0 else M 97 18, fun j => M 110 j, if M 97 20 = 0 then 0 else M 97 19)
/-- the class's Machine holds s, u: more was asked -/
noncomputable def eS (Mo : zM) (s : List Int) (u : Int) (M : zM) : Prop := (∀ r, r ≠ 72 → r ≠ 73 → M r = Mo r) ∧ (∀ j, j ≠ 4 → j ≠ 5 → M 72 j = Mo 72 j) ∧ M 72 4 = (s.length : Int) ∧ M 72 5 = u ∧ xK (M 73) s
theorem eS.push (h : eS Mo s u M) (hl : s.length < 80) : eS Mo (x :: s) u (hf_65_72 M x) := by
  obtain ⟨h1, h2, h3, h4, h5⟩ := h
  have e : hf_65_72 M x = zput (zput M 73 s.length x) 72 4 ((s.length : Int) + 1) := by
    unfold hf_65_72
    rw [h3, if_neg (by omega), if_neg (by omega), Int.toNat_natCast, qput_ne (by decide), h3, w32_id (by omega)]
  rw [e]
  refine ⟨fun r q1 q2 => by rw [zput_oth q1, zput_oth q2]; exact h1 r q1 q2, fun j q1 q2 => by rw [qput_nk q1, qput_ne (by decide)]; exact h2 j q1 q2, by rw [qput_eq, List.length_cons]; omega, by rw [qput_nk (by decide), qput_ne (by decide)]; exact h4, ?_⟩
  rw [zput_oth (by decide), zput_same]
  exact ⟨hup_eq, h5.up (Nat.le_refl _)⟩
theorem eS.pop (h : eS Mo s u M) (hl : s.length ≤ 80) : (hf_66_72 M).1 = s.headD 0 ∧ eS Mo s.tail u (hf_66_72 M).2 := by
  obtain ⟨h1, h2, h3, h4, h5⟩ := h
  cases s with
  | nil =>
    have e : hf_66_72 M = (0, M) := by unfold hf_66_72; rw [h3, if_pos (by rw [List.length_nil]; omega)]
    rw [e]
    exact ⟨rfl, h1, h2, h3, h4, h5⟩
  | cons k s =>
    rw [List.length_cons] at h3 hl
    have e : hf_66_72 M = (k, zput M 72 4 (s.length : Int)) := by
      unfold hf_66_72
      rw [h3, if_neg (by omega), if_pos (by omega), w32_id (by omega), show ((s.length + 1 : Nat) : Int) - 1 = (s.length : Int) by omega, qput_eq, Int.toNat_natCast, qput_ne (by decide), h5.1]
    rw [e]
    dsimp only
    refine ⟨rfl, fun r q1 q2 => by rw [zput_oth q1]; exact h1 r q1 q2, fun j q1 q2 => by rw [qput_nk q1]; exact h2 j q1 q2, qput_eq, by rw [qput_nk (by decide)]; exact h4, ?_⟩
    rw [zput_oth (by decide)]
    exact h5.2
theorem eS.use (h : eS Mo s u M) : eS Mo s 1 (zput M 72 5 1) := by
  obtain ⟨h1, h2, h3, h4, h5⟩ := h
  refine ⟨fun r q1 q2 => by rw [zput_oth q1]; exact h1 r q1 q2, fun j q1 q2 => by rw [qput_nk q2]; exact h2 j q1 q2, by rw [qput_nk (by decide)]; exact h3, qput_eq, ?_⟩
  rw [zput_oth (by decide)]
  exact h5
theorem eS.told (h : eS Mo s u M) {d : Int} (hd : 0 ≤ d ∧ d < 15) : hf_58_72 M d = Mo 74 d.toNat := by
  unfold hf_58_72
  rw [if_neg (by omega), if_neg (by omega), h.1 74 (by decide) (by decide)]
theorem eOp_nm {e : eEn} {d : Int} (h : 7 ≤ d ∧ d ≤ 14) : eOp e (-d - 1) s = e.1 d :: s := by
  unfold eOp
  rw [if_neg (by omega), if_pos (by omega), show -(-d - 1) - 1 = d by omega]
theorem eOp_be {e : eEn} {k : Int} (h : k = -7) : eOp e k s = w64 (eBst e.2.1 e.2.2.1 (s.headD 0) + e.2.2.2) :: s.tail := by
  unfold eOp; rw [if_neg (by omega), if_neg (by omega), if_pos h]
theorem eOp_no {e : eEn} {k : Int} (h : k = -6) : eOp e k s = (if s.headD 0 = 0 then 1 else 0) :: s.tail := by
  unfold eOp; rw [if_neg (by omega), if_neg (by omega), if_neg (by omega), if_pos h]
theorem eOp_ne {e : eEn} {k : Int} (h : k = -27) : eOp e k s = w64 (-(s.headD 0)) :: s.tail := by
  unfold eOp; rw [if_neg (by omega), if_neg (by omega), if_neg (by omega), if_neg (by omega), if_pos h]
theorem eOp_el {e : eEn} {k : Int} (h : k = -3) : eOp e k s = (if s.tail.headD 0 = 0 then s.headD 0 else s.tail.tail.headD 0) :: s.tail.tail.tail := by
  unfold eOp; rw [if_neg (by omega), if_neg (by omega), if_neg (by omega), if_neg (by omega), if_neg (by omega), if_pos h]
theorem eOp_tw {e : eEn} {k : Int} (h : k < 0) (h2 : ¬ (-15 ≤ k ∧ k ≤ -3) ∨ k = -4 ∨ k = -5) (h3 : ¬ k = -27) : eOp e k s = eTw (-k - 1) (s.tail.headD 0) (s.headD 0) :: s.tail.tail := by
  unfold eOp; rw [if_neg (by omega), if_neg (by omega), if_neg (by omega), if_neg (by omega), if_neg (by omega), if_neg (by omega)]
theorem eTl {s : List Int} : s.tail.length ≤ s.length := by rw [List.length_tail]; omega
end ES
set_option maxRecDepth 100000 in
theorem fh_60_72 {n : Nat} {M : zM} (hrk : M 72 3 ≤ 14) (a1 : Int) : zH n (0, 0) 60 (0, zini [zR 72, .inr (.inl a1)] 6, []) M (fun r M' => r = some (.inr (.inl (eBst (M 72 3) (fun j => M 75 j) a1))) ∧ M' = M) := by
  have hz := zp_60
  show zH n (0, 0) 60 (0, [zR 72, .inr (.inl a1), zN, zN, zN, zN], []) M _
  refine zH_wf_lt (pc := 3) (n' := 6) (t := 16) (L := [zR 72, .inr (.inl a1), zN, zN, zN, zN]) (st := []) (x := (if 1 < a1 then 1 else if a1 = 1 then 0 else -1)) 3 hz (by rfl) (fun hb3 => ?_) (fun hb3 => ?_)
  · skip
    rw [elc_lt] at hb3
    refine zH_w (c' := (17, [zR 72, .inr (.inl a1), zN, zN, zN, zN], [.inr (.inl 0)])) 1 hz rfl ?_
    exact zH_wr (r := some (.inr (.inl 0))) 0 hz (by rfl) (⟨by unfold eBst; rw [if_pos (by omega)], rfl⟩)
  · skip
    rw [elc_lt] at hb3
    refine zH_w (c' := (13, [zR 72, .inr (.inl a1), zN, zN, zN, zN], [.inl (if (M 72 3) < a1 then 1 else if a1 = (M 72 3) then 0 else -1)])) 5 hz rfl ?_
    refine zH_wf_le (pc := 13) (n' := 16) (t := 18) (L := [zR 72, .inr (.inl a1), zN, zN, zN, zN]) (st := []) (x := (if (M 72 3) < a1 then 1 else if a1 = (M 72 3) then 0 else -1)) 0 hz (by rfl) (fun hb13 => ?_) (fun hb13 => ?_)
    · skip
      rw [elc_le] at hb13
      refine zH_w (c' := (23, [zR 72, .inr (.inl a1), zN, .inr (.inl 0), zN, .inl 0], [])) 4 hz rfl ?_
      have lp23 : ∀ (N : Nat) (i : Int) (t : Int), ((a1 - i).toNat) < N → (0 ≤ i ∧ i ≤ a1) → (t = eSm (fun j => M 75 j) i.toNat) → zH n (0, 0) 60 (23, [zR 72, .inr (.inl a1), zN, .inr (.inl t), zN, .inl i], []) M (fun r M' => r = some (.inr (.inl (eBst (M 72 3) (fun j => M 75 j) a1))) ∧ M' = M) := by
        intro N
        induction N with
        | zero => intro i t hN; exact absurd hN (Nat.not_lt_zero _)
        | succ N ih23 =>
          intro i t hN hi ht
          refine zH_w (c' := (28, [zR 72, .inr (.inl a1), zN, .inr (.inl t), zN, .inl i], [.inl (if a1 < i then 1 else if i = a1 then 0 else -1)])) 4 hz rfl ?_
          refine zH_wf_ge (pc := 28) (n' := 31) (t := 58) (L := [zR 72, .inr (.inl a1), zN, .inr (.inl t), zN, .inl i]) (st := []) (x := (if a1 < i then 1 else if i = a1 then 0 else -1)) 0 hz (by rfl) (fun hb28 => ?_) (fun hb28 => ?_)
          · skip
            rw [elc_ge] at hb28
            refine zH_w (c' := (64, [zR 72, .inr (.inl a1), zN, .inr (.inl t), zN, .inl i], [.inr (.inl a1), .inr (.inl (w64 (t * 100)))])) 4 hz rfl ?_
            refine zH_ldiv hz rfl (fun hdv64 => ?_)
            show zH n (0, 0) 60 (65, [zR 72, .inr (.inl a1), zN, .inr (.inl t), zN, .inl i], [.inr (.inl (w64 ((w64 (t * 100)).tdiv a1)))]) M _
            exact zH_wr (r := some (.inr (.inl (w64 ((w64 (t * 100)).tdiv a1))))) 0 hz (by rfl) (⟨by unfold eBst; rw [if_neg (by omega), ht, show i.toNat = a1.toNat by omega], rfl⟩)
          · skip
            rw [elc_ge] at hb28
            refine zH_w (c' := (38, [zR 72, .inr (.inl a1), zN, .inr (.inl t), zN, .inl i], [.inl 14, .inl i])) 4 hz rfl ?_
            refine zH_wi_ge (pc := 38) (n' := 41) (t := 58) (L := [zR 72, .inr (.inl a1), zN, .inr (.inl t), zN, .inl i]) (st := []) (x := i) (y := 14) 0 hz (by rfl) (fun hb38 => ?_) (fun hb38 => ?_)
            · skip
              exact absurd hb38 (by omega)
            · skip
              refine zH_w (c' := (48, [zR 72, .inr (.inl a1), zN, .inr (.inl t), zN, .inl i], [.inl i, zR 75, .inr (.inl t)])) 4 hz rfl ?_
              refine zH_iald hz rfl rfl (.inl rfl) (fun hin48 => ?_)
              show zH n (0, 0) 60 (49, [zR 72, .inr (.inl a1), zN, .inr (.inl t), zN, .inl i], [.inl (M 75 (i : Int).toNat), .inr (.inl t)]) M _
              refine zH_w (c' := (23, [zR 72, .inr (.inl a1), zN, .inr (.inl (w64 (t + (M 75 (i : Int).toNat)))), zN, .inl (i + 1)], [])) 5 hz (by rw [show (.inl (i + 1) : zV) = .inl (w32 (i + 1)) from by rw [w32_id (by omega)]]; rfl) ?_
              refine ih23 (i + 1) (w64 (t + (M 75 (i : Int).toNat))) (by omega) ?_ ?_
              · omega
              · rw [show (i + 1).toNat = i.toNat + 1 by omega, ht]; rfl
      refine lp23 ((a1 + 1).toNat) 0 0 (by omega) ?_ ?_
      · omega
      · rfl
    · skip
      rw [elc_le] at hb13
      refine zH_w (c' := (17, [zR 72, .inr (.inl a1), zN, zN, zN, zN], [.inr (.inl 0)])) 1 hz rfl ?_
      exact zH_wr (r := some (.inr (.inl 0))) 0 hz (by rfl) (⟨by unfold eBst; rw [if_pos (by omega)], rfl⟩)
set_option maxRecDepth 100000 in
theorem fh_63_72 {n : Nat} {M : zM} {Mo : zM} {s : List Int} {u : Int} (h : eS Mo s u M) (hl : s.length < 80) (hrk : Mo 72 3 ≤ 14) (a1 a2 : Int) (hk : eOk (-a1 - 1)) (ha : 0 ≤ a1) : zH n (0, 0) 63 (0, zini [zR 72, .inl a1, .inl a2] 11, []) M (fun r M' => r = none ∧ eS Mo (eOp (eCl Mo a2) (-a1 - 1) s) (if a1 = 13 ∨ a1 = 6 then 1 else u) M') := by
  have hz := zp_63
  show zH n (0, 0) 63 (0, [zR 72, .inl a1, .inl a2, zN, zN, zN, zN, zN, zN, zN, zN], []) M _
  have hd : a1 = 0 ∨ (2 ≤ a1 ∧ a1 ≤ 21) ∨ a1 = 26 := by unfold eOk at hk; omega
  refine zH_w (c' := (1, [zR 72, .inl a1, .inl a2, zN, zN, zN, zN, zN, zN, zN, zN], [.inl a1])) 1 hz rfl ?_
  refine zH_sw hz rfl ?_
  by_cases hw1_204 : a1 = 2
  · skip
    rw [show zts 2 a1 241 [204, 241, 241, 171, 148, 116, 116, 116, 116, 116, 116, 128, 116, 241, 241, 241, 241, 241, 241, 241, 241, 241, 241, 241, 192] = 204 from by rw [hw1_204]; rfl]
    refine zH_w (c' := (205, [zR 72, .inl a1, .inl a2, zN, zN, zN, zN, zN, zN, zN, zN], [zR 72])) 1 hz rfl ?_
    refine zH_wC (c1 := (208, [zR 72, .inl a1, .inl a2, zN, zN, zN, zN, zN, zN, zN, zN], [])) 0 hz zp_66 (fh_66_72) (by rfl) ?_
    rintro _ _ ⟨rfl, rfl⟩
    show zH n (0, 0) 63 (208, [zR 72, .inl a1, .inl a2, zN, zN, zN, zN, zN, zN, zN, zN], [.inr (.inl ((hf_66_72 M).1))]) ((hf_66_72 M).2) _
    obtain ⟨p1, q1⟩ := h.pop (by have := eTl (s := s); have := eTl (s := s.tail); omega)
    rw [p1]
    obtain ⟨M2, hM2⟩ : ∃ X : zM, X = (hf_66_72 M).2 := ⟨_, rfl⟩
    rw [← hM2]
    rw [← hM2] at q1
    refine zH_w (c' := (210, [zR 72, .inl a1, .inl a2, .inr (.inl (s.headD 0)), zN, zN, zN, zN, zN, zN, zN], [zR 72])) 2 hz rfl ?_
    refine zH_wC (c1 := (213, [zR 72, .inl a1, .inl a2, .inr (.inl (s.headD 0)), zN, zN, zN, zN, zN, zN, zN], [])) 0 hz zp_66 (fh_66_72) (by rfl) ?_
    rintro _ _ ⟨rfl, rfl⟩
    show zH n (0, 0) 63 (213, [zR 72, .inl a1, .inl a2, .inr (.inl (s.headD 0)), zN, zN, zN, zN, zN, zN, zN], [.inr (.inl ((hf_66_72 M2).1))]) ((hf_66_72 M2).2) _
    obtain ⟨p2, q2⟩ := q1.pop (by have := eTl (s := s); have := eTl (s := s.tail); omega)
    rw [p2]
    obtain ⟨M3, hM3⟩ : ∃ X : zM, X = (hf_66_72 M2).2 := ⟨_, rfl⟩
    rw [← hM3]
    rw [← hM3] at q2
    refine zH_w (c' := (216, [zR 72, .inl a1, .inl a2, .inr (.inl (s.headD 0)), zN, .inr (.inl (s.tail.headD 0)), zN, zN, zN, zN, zN], [zR 72])) 2 hz rfl ?_
    refine zH_wC (c1 := (219, [zR 72, .inl a1, .inl a2, .inr (.inl (s.headD 0)), zN, .inr (.inl (s.tail.headD 0)), zN, zN, zN, zN, zN], [])) 0 hz zp_66 (fh_66_72) (by rfl) ?_
    rintro _ _ ⟨rfl, rfl⟩
    show zH n (0, 0) 63 (219, [zR 72, .inl a1, .inl a2, .inr (.inl (s.headD 0)), zN, .inr (.inl (s.tail.headD 0)), zN, zN, zN, zN, zN], [.inr (.inl ((hf_66_72 M3).1))]) ((hf_66_72 M3).2) _
    obtain ⟨p3, q3⟩ := q2.pop (by have := eTl (s := s); have := eTl (s := s.tail); omega)
    rw [p3]
    obtain ⟨M4, hM4⟩ : ∃ X : zM, X = (hf_66_72 M3).2 := ⟨_, rfl⟩
    rw [← hM4]
    rw [← hM4] at q3
    refine zH_w (c' := (226, [zR 72, .inl a1, .inl a2, .inr (.inl (s.headD 0)), zN, .inr (.inl (s.tail.headD 0)), zN, .inr (.inl (s.tail.tail.headD 0)), zN, zN, zN], [.inl (if 0 < (s.tail.headD 0) then 1 else if (s.tail.headD 0) = 0 then 0 else -1), zR 72])) 5 hz rfl ?_
    refine zH_wf_eq (pc := 226) (n' := 229) (t := 234) (L := [zR 72, .inl a1, .inl a2, .inr (.inl (s.headD 0)), zN, .inr (.inl (s.tail.headD 0)), zN, .inr (.inl (s.tail.tail.headD 0)), zN, zN, zN]) (st := [zR 72]) (x := (if 0 < (s.tail.headD 0) then 1 else if (s.tail.headD 0) = 0 then 0 else -1)) 0 hz (by rfl) (fun hb226 => ?_) (fun hb226 => ?_)
    · skip
      rw [elc_eq] at hb226
      refine zH_w (c' := (235, [zR 72, .inl a1, .inl a2, .inr (.inl (s.headD 0)), zN, .inr (.inl (s.tail.headD 0)), zN, .inr (.inl (s.tail.tail.headD 0)), zN, zN, zN], [.inr (.inl (s.headD 0)), zR 72])) 1 hz rfl ?_
      refine zH_wE (c1 := (238, [zR 72, .inl a1, .inl a2, .inr (.inl (s.headD 0)), zN, .inr (.inl (s.tail.headD 0)), zN, .inr (.inl (s.tail.tail.headD 0)), zN, zN, zN], [])) 0 hz zp_65 (fh_65_72 (s.headD 0)) (by rfl) ?_
      show zH n (0, 0) 63 (238, [zR 72, .inl a1, .inl a2, .inr (.inl (s.headD 0)), zN, .inr (.inl (s.tail.headD 0)), zN, .inr (.inl (s.tail.tail.headD 0)), zN, zN, zN], []) (hf_65_72 M4 (s.headD 0)) _
      have hfin : eS Mo (eOp (eCl Mo a2) (-a1 - 1) s) (if a1 = 13 ∨ a1 = 6 then 1 else u) (hf_65_72 M4 (s.headD 0)) := by
        rw [eOp_el (by omega), if_neg (show ¬ (a1 = 13 ∨ a1 = 6) by omega)]
        have l1 := eTl (s := s)
        have l2 := eTl (s := s.tail)
        have l3 := eTl (s := s.tail.tail)
        first
          | (rw [if_pos hb226]; exact q3.push (by omega))
          | (rw [if_neg hb226]; exact q3.push (by omega))
      exact zH_wr (r := none) 1 hz (by rfl) (⟨rfl, hfin⟩)
    · skip
      rw [elc_eq] at hb226
      refine zH_w (c' := (235, [zR 72, .inl a1, .inl a2, .inr (.inl (s.headD 0)), zN, .inr (.inl (s.tail.headD 0)), zN, .inr (.inl (s.tail.tail.headD 0)), zN, zN, zN], [.inr (.inl (s.tail.tail.headD 0)), zR 72])) 2 hz rfl ?_
      refine zH_wE (c1 := (238, [zR 72, .inl a1, .inl a2, .inr (.inl (s.headD 0)), zN, .inr (.inl (s.tail.headD 0)), zN, .inr (.inl (s.tail.tail.headD 0)), zN, zN, zN], [])) 0 hz zp_65 (fh_65_72 (s.tail.tail.headD 0)) (by rfl) ?_
      show zH n (0, 0) 63 (238, [zR 72, .inl a1, .inl a2, .inr (.inl (s.headD 0)), zN, .inr (.inl (s.tail.headD 0)), zN, .inr (.inl (s.tail.tail.headD 0)), zN, zN, zN], []) (hf_65_72 M4 (s.tail.tail.headD 0)) _
      have hfin : eS Mo (eOp (eCl Mo a2) (-a1 - 1) s) (if a1 = 13 ∨ a1 = 6 then 1 else u) (hf_65_72 M4 (s.tail.tail.headD 0)) := by
        rw [eOp_el (by omega), if_neg (show ¬ (a1 = 13 ∨ a1 = 6) by omega)]
        have l1 := eTl (s := s)
        have l2 := eTl (s := s.tail)
        have l3 := eTl (s := s.tail.tail)
        first
          | (rw [if_pos hb226]; exact q3.push (by omega))
          | (rw [if_neg hb226]; exact q3.push (by omega))
      exact zH_wr (r := none) 1 hz (by rfl) (⟨rfl, hfin⟩)
  by_cases hw1_171 : a1 = 5
  · skip
    rw [show zts 2 a1 241 [204, 241, 241, 171, 148, 116, 116, 116, 116, 116, 116, 128, 116, 241, 241, 241, 241, 241, 241, 241, 241, 241, 241, 241, 192] = 171 from by rw [hw1_171]; rfl]
    refine zH_w (c' := (173, [zR 72, .inl a1, .inl a2, zN, zN, zN, zN, zN, zN, zN, zN], [zR 72, zR 72])) 2 hz rfl ?_
    refine zH_wC (c1 := (176, [zR 72, .inl a1, .inl a2, zN, zN, zN, zN, zN, zN, zN, zN], [zR 72])) 0 hz zp_66 (fh_66_72) (by rfl) ?_
    rintro _ _ ⟨rfl, rfl⟩
    show zH n (0, 0) 63 (176, [zR 72, .inl a1, .inl a2, zN, zN, zN, zN, zN, zN, zN, zN], [.inr (.inl ((hf_66_72 M).1)), zR 72]) ((hf_66_72 M).2) _
    obtain ⟨p1, q1⟩ := h.pop (by have := eTl (s := s); have := eTl (s := s.tail); omega)
    rw [p1]
    obtain ⟨M2, hM2⟩ : ∃ X : zM, X = (hf_66_72 M).2 := ⟨_, rfl⟩
    rw [← hM2]
    rw [← hM2] at q1
    refine zH_w (c' := (178, [zR 72, .inl a1, .inl a2, zN, zN, zN, zN, zN, zN, zN, zN], [.inl (if 0 < (s.headD 0) then 1 else if (s.headD 0) = 0 then 0 else -1), zR 72])) 2 hz rfl ?_
    refine zH_wf_ne (pc := 178) (n' := 181) (t := 185) (L := [zR 72, .inl a1, .inl a2, zN, zN, zN, zN, zN, zN, zN, zN]) (st := [zR 72]) (x := (if 0 < (s.headD 0) then 1 else if (s.headD 0) = 0 then 0 else -1)) 0 hz (by rfl) (fun hb178 => ?_) (fun hb178 => ?_)
    · skip
      rw [elc_eq] at hb178
      refine zH_w (c' := (186, [zR 72, .inl a1, .inl a2, zN, zN, zN, zN, zN, zN, zN, zN], [.inr (.inl 0), zR 72])) 1 hz rfl ?_
      refine zH_wE (c1 := (189, [zR 72, .inl a1, .inl a2, zN, zN, zN, zN, zN, zN, zN, zN], [])) 0 hz zp_65 (fh_65_72 0) (by rfl) ?_
      show zH n (0, 0) 63 (189, [zR 72, .inl a1, .inl a2, zN, zN, zN, zN, zN, zN, zN, zN], []) (hf_65_72 M2 0) _
      have hfin : eS Mo (eOp (eCl Mo a2) (-a1 - 1) s) (if a1 = 13 ∨ a1 = 6 then 1 else u) (hf_65_72 M2 0) := by
        rw [eOp_no (by omega), if_neg (show ¬ (a1 = 13 ∨ a1 = 6) by omega)]
        first
          | (rw [if_neg hb178]; exact q1.push (by have := eTl (s := s); omega))
          | (rw [if_pos (by omega)]; exact q1.push (by have := eTl (s := s); omega))
      exact zH_wr (r := none) 1 hz (by rfl) (⟨rfl, hfin⟩)
    · skip
      rw [elc_eq] at hb178
      refine zH_w (c' := (186, [zR 72, .inl a1, .inl a2, zN, zN, zN, zN, zN, zN, zN, zN], [.inr (.inl 1), zR 72])) 2 hz rfl ?_
      refine zH_wE (c1 := (189, [zR 72, .inl a1, .inl a2, zN, zN, zN, zN, zN, zN, zN, zN], [])) 0 hz zp_65 (fh_65_72 1) (by rfl) ?_
      show zH n (0, 0) 63 (189, [zR 72, .inl a1, .inl a2, zN, zN, zN, zN, zN, zN, zN, zN], []) (hf_65_72 M2 1) _
      have hfin : eS Mo (eOp (eCl Mo a2) (-a1 - 1) s) (if a1 = 13 ∨ a1 = 6 then 1 else u) (hf_65_72 M2 1) := by
        rw [eOp_no (by omega), if_neg (show ¬ (a1 = 13 ∨ a1 = 6) by omega)]
        first
          | (rw [if_neg hb178]; exact q1.push (by have := eTl (s := s); omega))
          | (rw [if_pos (by omega)]; exact q1.push (by have := eTl (s := s); omega))
      exact zH_wr (r := none) 1 hz (by rfl) (⟨rfl, hfin⟩)
  by_cases hw1_148 : a1 = 6
  · skip
    rw [show zts 2 a1 241 [204, 241, 241, 171, 148, 116, 116, 116, 116, 116, 116, 128, 116, 241, 241, 241, 241, 241, 241, 241, 241, 241, 241, 241, 192] = 148 from by rw [hw1_148]; rfl]
    refine zH_w (c' := (150, [zR 72, .inl a1, .inl a2, zN, zN, zN, zN, zN, zN, zN, zN], [.inl 1, zR 72])) 2 hz rfl ?_
    refine zH_putz hz rfl (by decide) rfl rfl ?_
    show zH n (0, 0) 63 (153, [zR 72, .inl a1, .inl a2, zN, zN, zN, zN, zN, zN, zN, zN], []) (zput M 72 5 1) _
    obtain ⟨M1, hM1⟩ : ∃ X : zM, X = zput M 72 5 1 := ⟨_, rfl⟩
    rw [← hM1]
    have h1 : eS Mo s 1 M1 := by rw [hM1]; exact h.use
    refine zH_w (c' := (156, [zR 72, .inl a1, .inl a2, zN, zN, zN, zN, zN, zN, zN, zN], [zR 72, zR 72, zR 72])) 3 hz rfl ?_
    refine zH_wC (c1 := (159, [zR 72, .inl a1, .inl a2, zN, zN, zN, zN, zN, zN, zN, zN], [zR 72, zR 72])) 0 hz zp_66 (fh_66_72) (by rfl) ?_
    rintro _ _ ⟨rfl, rfl⟩
    show zH n (0, 0) 63 (159, [zR 72, .inl a1, .inl a2, zN, zN, zN, zN, zN, zN, zN, zN], [.inr (.inl ((hf_66_72 M1).1)), zR 72, zR 72]) ((hf_66_72 M1).2) _
    obtain ⟨p1, q1⟩ := h1.pop (by have := eTl (s := s); have := eTl (s := s.tail); omega)
    rw [p1]
    obtain ⟨M2, hM2⟩ : ∃ X : zM, X = (hf_66_72 M1).2 := ⟨_, rfl⟩
    rw [← hM2]
    rw [← hM2] at q1
    refine zH_wE (c1 := (162, [zR 72, .inl a1, .inl a2, zN, zN, zN, zN, zN, zN, zN, zN], [zR 72])) 0 hz zp_60 (fh_60_72 (M := M2) (by rw [q1.2.1 3 (by decide) (by decide)]; exact hrk) (s.headD 0)) (by rfl) ?_
    show zH n (0, 0) 63 (162, [zR 72, .inl a1, .inl a2, zN, zN, zN, zN, zN, zN, zN, zN], [.inr (.inl (eBst (M2 72 3) (fun j => M2 75 j) (s.headD 0))), zR 72]) M2 _
    rw [show eBst (M2 72 3) (fun j => M2 75 j) (s.headD 0) = eBst (eCl Mo a2).2.1 (eCl Mo a2).2.2.1 (s.headD 0) from by rw [q1.2.1 3 (by decide) (by decide), q1.1 75 (by decide) (by decide)]; rfl]
    refine zH_w (c' := (165, [zR 72, .inl a1, .inl a2, zN, zN, zN, zN, zN, zN, zN, zN], [.inr (.inl (w64 ((eBst (eCl Mo a2).2.1 (eCl Mo a2).2.2.1 (s.headD 0)) + a2))), zR 72])) 3 hz rfl ?_
    refine zH_wE (c1 := (168, [zR 72, .inl a1, .inl a2, zN, zN, zN, zN, zN, zN, zN, zN], [])) 0 hz zp_65 (fh_65_72 (w64 ((eBst (eCl Mo a2).2.1 (eCl Mo a2).2.2.1 (s.headD 0)) + a2))) (by rfl) ?_
    show zH n (0, 0) 63 (168, [zR 72, .inl a1, .inl a2, zN, zN, zN, zN, zN, zN, zN, zN], []) (hf_65_72 M2 (w64 ((eBst (eCl Mo a2).2.1 (eCl Mo a2).2.2.1 (s.headD 0)) + a2))) _
    have hfin : eS Mo (eOp (eCl Mo a2) (-a1 - 1) s) (if a1 = 13 ∨ a1 = 6 then 1 else u) (hf_65_72 M2 (w64 ((eBst (eCl Mo a2).2.1 (eCl Mo a2).2.2.1 (s.headD 0)) + a2))) := by
      rw [eOp_be (by omega), if_pos (by omega)]
      exact q1.push (by have := eTl (s := s); omega)
    exact zH_wr (r := none) 1 hz (by rfl) (⟨rfl, hfin⟩)
  by_cases hw1_116 : a1 = 7 ∨ a1 = 8 ∨ a1 = 9 ∨ a1 = 10 ∨ a1 = 11 ∨ a1 = 12 ∨ a1 = 14
  · skip
    rw [show zts 2 a1 241 [204, 241, 241, 171, 148, 116, 116, 116, 116, 116, 116, 128, 116, 241, 241, 241, 241, 241, 241, 241, 241, 241, 241, 241, 192] = 116 from by rcases hw1_116 with h9 | h9 | h9 | h9 | h9 | h9 | h9 <;> rw [h9] <;> rfl]
    refine zH_w (c' := (119, [zR 72, .inl a1, .inl a2, zN, zN, zN, zN, zN, zN, zN, zN], [.inl a1, zR 72, zR 72])) 3 hz rfl ?_
    refine zH_wE (c1 := (122, [zR 72, .inl a1, .inl a2, zN, zN, zN, zN, zN, zN, zN, zN], [zR 72])) 0 hz zp_58 (fh_58_72 a1) (by rfl) ?_
    show zH n (0, 0) 63 (122, [zR 72, .inl a1, .inl a2, zN, zN, zN, zN, zN, zN, zN, zN], [.inr (.inl (hf_58_72 M a1)), zR 72]) M _
    refine zH_wE (c1 := (125, [zR 72, .inl a1, .inl a2, zN, zN, zN, zN, zN, zN, zN, zN], [])) 0 hz zp_65 (fh_65_72 (hf_58_72 M a1)) (by rfl) ?_
    show zH n (0, 0) 63 (125, [zR 72, .inl a1, .inl a2, zN, zN, zN, zN, zN, zN, zN, zN], []) (hf_65_72 M (hf_58_72 M a1)) _
    have hfin : eS Mo (eOp (eCl Mo a2) (-a1 - 1) s) (if a1 = 13 ∨ a1 = 6 then 1 else u) (hf_65_72 M (hf_58_72 M a1)) := by
      rw [eOp_nm (by omega), if_neg (by omega), show (eCl Mo a2).1 a1 = Mo 74 a1.toNat from if_neg (by omega), ← h.told (by omega)]
      exact h.push hl
    exact zH_wr (r := none) 1 hz (by rfl) (⟨rfl, hfin⟩)
  by_cases hw1_128 : a1 = 13
  · skip
    rw [show zts 2 a1 241 [204, 241, 241, 171, 148, 116, 116, 116, 116, 116, 116, 128, 116, 241, 241, 241, 241, 241, 241, 241, 241, 241, 241, 241, 192] = 128 from by rw [hw1_128]; rfl]
    refine zH_w (c' := (130, [zR 72, .inl a1, .inl a2, zN, zN, zN, zN, zN, zN, zN, zN], [.inl 1, zR 72])) 2 hz rfl ?_
    refine zH_putz hz rfl (by decide) rfl rfl ?_
    show zH n (0, 0) 63 (133, [zR 72, .inl a1, .inl a2, zN, zN, zN, zN, zN, zN, zN, zN], []) (zput M 72 5 1) _
    obtain ⟨M1, hM1⟩ : ∃ X : zM, X = zput M 72 5 1 := ⟨_, rfl⟩
    rw [← hM1]
    have h1 : eS Mo s 1 M1 := by rw [hM1]; exact h.use
    refine zH_w (c' := (136, [zR 72, .inl a1, .inl a2, zN, zN, zN, zN, zN, zN, zN, zN], [.inl a1, zR 72, zR 72])) 3 hz rfl ?_
    refine zH_wE (c1 := (139, [zR 72, .inl a1, .inl a2, zN, zN, zN, zN, zN, zN, zN, zN], [zR 72])) 0 hz zp_58 (fh_58_72 a1) (by rfl) ?_
    show zH n (0, 0) 63 (139, [zR 72, .inl a1, .inl a2, zN, zN, zN, zN, zN, zN, zN, zN], [.inr (.inl (hf_58_72 M1 a1)), zR 72]) M1 _
    refine zH_wE (c1 := (145, [zR 72, .inl a1, .inl a2, zN, zN, zN, zN, zN, zN, zN, zN], [])) 3 hz zp_65 (fh_65_72 (w64 ((hf_58_72 M1 a1) + a2))) (by rfl) ?_
    show zH n (0, 0) 63 (145, [zR 72, .inl a1, .inl a2, zN, zN, zN, zN, zN, zN, zN, zN], []) (hf_65_72 M1 (w64 ((hf_58_72 M1 a1) + a2))) _
    have hfin : eS Mo (eOp (eCl Mo a2) (-a1 - 1) s) (if a1 = 13 ∨ a1 = 6 then 1 else u) (hf_65_72 M1 (w64 ((hf_58_72 M1 a1) + a2))) := by
      rw [eOp_nm (by omega), if_pos (by omega), show (eCl Mo a2).1 a1 = w64 (Mo 74 a1.toNat + a2) from by rw [hw1_128]; rfl, ← h1.told (by omega)]
      exact h1.push hl
    exact zH_wr (r := none) 1 hz (by rfl) (⟨rfl, hfin⟩)
  by_cases hw1_192 : a1 = 26
  · skip
    rw [show zts 2 a1 241 [204, 241, 241, 171, 148, 116, 116, 116, 116, 116, 116, 128, 116, 241, 241, 241, 241, 241, 241, 241, 241, 241, 241, 241, 192] = 192 from by rw [hw1_192]; rfl]
    refine zH_w (c' := (194, [zR 72, .inl a1, .inl a2, zN, zN, zN, zN, zN, zN, zN, zN], [zR 72, zR 72])) 2 hz rfl ?_
    refine zH_wC (c1 := (197, [zR 72, .inl a1, .inl a2, zN, zN, zN, zN, zN, zN, zN, zN], [zR 72])) 0 hz zp_66 (fh_66_72) (by rfl) ?_
    rintro _ _ ⟨rfl, rfl⟩
    show zH n (0, 0) 63 (197, [zR 72, .inl a1, .inl a2, zN, zN, zN, zN, zN, zN, zN, zN], [.inr (.inl ((hf_66_72 M).1)), zR 72]) ((hf_66_72 M).2) _
    obtain ⟨p1, q1⟩ := h.pop (by have := eTl (s := s); have := eTl (s := s.tail); omega)
    rw [p1]
    obtain ⟨M2, hM2⟩ : ∃ X : zM, X = (hf_66_72 M).2 := ⟨_, rfl⟩
    rw [← hM2]
    rw [← hM2] at q1
    refine zH_w (c' := (198, [zR 72, .inl a1, .inl a2, zN, zN, zN, zN, zN, zN, zN, zN], [.inr (.inl (w64 (-(s.headD 0)))), zR 72])) 1 hz rfl ?_
    refine zH_wE (c1 := (201, [zR 72, .inl a1, .inl a2, zN, zN, zN, zN, zN, zN, zN, zN], [])) 0 hz zp_65 (fh_65_72 (w64 (-(s.headD 0)))) (by rfl) ?_
    show zH n (0, 0) 63 (201, [zR 72, .inl a1, .inl a2, zN, zN, zN, zN, zN, zN, zN, zN], []) (hf_65_72 M2 (w64 (-(s.headD 0)))) _
    have hfin : eS Mo (eOp (eCl Mo a2) (-a1 - 1) s) (if a1 = 13 ∨ a1 = 6 then 1 else u) (hf_65_72 M2 (w64 (-(s.headD 0)))) := by
      rw [eOp_ne (by omega), if_neg (by omega)]
      exact q1.push (by have := eTl (s := s); omega)
    exact zH_wr (r := none) 1 hz (by rfl) (⟨rfl, hfin⟩)
  rw [show zts 2 a1 241 [204, 241, 241, 171, 148, 116, 116, 116, 116, 116, 116, 128, 116, 241, 241, 241, 241, 241, 241, 241, 241, 241, 241, 241, 192] = 241 from by (rcases (by omega : a1 < 2 ∨ 27 ≤ a1 ∨ a1 = 3 ∨ a1 = 4 ∨ a1 = 15 ∨ a1 = 16 ∨ a1 = 17 ∨ a1 = 18 ∨ a1 = 19 ∨ a1 = 20 ∨ a1 = 21 ∨ a1 = 22 ∨ a1 = 23 ∨ a1 = 24 ∨ a1 = 25) with h9 | h9 | h9 | h9 | h9 | h9 | h9 | h9 | h9 | h9 | h9 | h9 | h9 | h9 | h9; exact if_pos h9; exact zts_none (by show ∀ q : Nat, q < 25 → _; intro q hq hx; omega); rw [h9]; rfl; rw [h9]; rfl; rw [h9]; rfl; rw [h9]; rfl; rw [h9]; rfl; rw [h9]; rfl; rw [h9]; rfl; rw [h9]; rfl; rw [h9]; rfl; rw [h9]; rfl; rw [h9]; rfl; rw [h9]; rfl; rw [h9]; rfl)]
  refine zH_w (c' := (242, [zR 72, .inl a1, .inl a2, zN, zN, zN, zN, zN, zN, zN, zN], [zR 72])) 1 hz rfl ?_
  refine zH_wC (c1 := (245, [zR 72, .inl a1, .inl a2, zN, zN, zN, zN, zN, zN, zN, zN], [])) 0 hz zp_66 (fh_66_72) (by rfl) ?_
  rintro _ _ ⟨rfl, rfl⟩
  show zH n (0, 0) 63 (245, [zR 72, .inl a1, .inl a2, zN, zN, zN, zN, zN, zN, zN, zN], [.inr (.inl ((hf_66_72 M).1))]) ((hf_66_72 M).2) _
  obtain ⟨p1, q1⟩ := h.pop (by have := eTl (s := s); have := eTl (s := s.tail); omega)
  rw [p1]
  obtain ⟨M2, hM2⟩ : ∃ X : zM, X = (hf_66_72 M).2 := ⟨_, rfl⟩
  rw [← hM2]
  rw [← hM2] at q1
  refine zH_w (c' := (250, [zR 72, .inl a1, .inl a2, zN, zN, zN, zN, zN, zN, .inr (.inl (s.headD 0)), zN], [zR 72, .inl a1, zR 72])) 4 hz rfl ?_
  refine zH_wC (c1 := (253, [zR 72, .inl a1, .inl a2, zN, zN, zN, zN, zN, zN, .inr (.inl (s.headD 0)), zN], [.inl a1, zR 72])) 0 hz zp_66 (fh_66_72) (by rfl) ?_
  rintro _ _ ⟨rfl, rfl⟩
  show zH n (0, 0) 63 (253, [zR 72, .inl a1, .inl a2, zN, zN, zN, zN, zN, zN, .inr (.inl (s.headD 0)), zN], [.inr (.inl ((hf_66_72 M2).1)), .inl a1, zR 72]) ((hf_66_72 M2).2) _
  obtain ⟨p2, q2⟩ := q1.pop (by have := eTl (s := s); have := eTl (s := s.tail); omega)
  rw [p2]
  obtain ⟨M3, hM3⟩ : ∃ X : zM, X = (hf_66_72 M2).2 := ⟨_, rfl⟩
  rw [← hM3]
  rw [← hM3] at q2
  refine zH_w (c' := (255, [zR 72, .inl a1, .inl a2, zN, zN, zN, zN, zN, zN, .inr (.inl (s.headD 0)), zN], [.inr (.inl (s.headD 0)), .inr (.inl (s.tail.headD 0)), .inl a1, zR 72])) 1 hz rfl ?_
  refine zH_wE (c1 := (258, [zR 72, .inl a1, .inl a2, zN, zN, zN, zN, zN, zN, .inr (.inl (s.headD 0)), zN], [zR 72])) 0 hz zp_64 (fh_64 a1 (s.tail.headD 0) (s.headD 0)) (by rfl) ?_
  show zH n (0, 0) 63 (258, [zR 72, .inl a1, .inl a2, zN, zN, zN, zN, zN, zN, .inr (.inl (s.headD 0)), zN], [.inr (.inl (hf_64 M3 a1 (s.tail.headD 0) (s.headD 0))), zR 72]) M3 _
  refine zH_wE (c1 := (261, [zR 72, .inl a1, .inl a2, zN, zN, zN, zN, zN, zN, .inr (.inl (s.headD 0)), zN], [])) 0 hz zp_65 (fh_65_72 (hf_64 M3 a1 (s.tail.headD 0) (s.headD 0))) (by rfl) ?_
  show zH n (0, 0) 63 (261, [zR 72, .inl a1, .inl a2, zN, zN, zN, zN, zN, zN, .inr (.inl (s.headD 0)), zN], []) (hf_65_72 M3 (hf_64 M3 a1 (s.tail.headD 0) (s.headD 0))) _
  have hfin : eS Mo (eOp (eCl Mo a2) (-a1 - 1) s) (if a1 = 13 ∨ a1 = 6 then 1 else u) (hf_65_72 M3 (hf_64 M3 a1 (s.tail.headD 0) (s.headD 0))) := by
    rw [eOp_tw (by omega) (by omega) (by omega), if_neg (by omega), show -(-a1 - 1) - 1 = a1 by omega, ← e64 (M := M3) (by omega)]
    exact q2.push (by have := eTl (s := s); have := eTl (s := s.tail); omega)
  exact zH_wr (r := none) 0 hz (by rfl) (⟨rfl, hfin⟩)
theorem eGet {M M' : zM} {R : Nat} {a b : Int} (e : M' R = M R) (e1 : M' (R + 1) = M (R + 1)) : hR_get M' R a b = hR_get M R a b := by unfold hR_get; rw [e, e1]
theorem eS.start {M : zM} : eS M [] 0 (zput (zput M 72 4 0) 72 5 0) := by
  refine ⟨fun r q1 q2 => by rw [zput_oth q1, zput_oth q1], fun j q1 q2 => by rw [qput_nk q2, qput_nk q1], by rw [qput_nk (by decide), qput_eq]; rfl, qput_eq, trivial⟩
set_option maxRecDepth 100000 in
theorem fh_62_22 {n : Nat} {M : zM} (hrk : M 72 3 ≤ 14) {O : List Int} {g : Nat → Int} (hl : O.length ≤ 80) (hO : ∀ k ∈ O, eOk k) (a2 a3 a4 : Int) (h0 : hR_get M 22 a2 a3 = (O.length : Int)) (hg : ∀ j : Nat, 1 ≤ j → j ≤ O.length → hR_get M 22 a2 (w32 (a3 + (j : Int))) = g j) (hx : xC g O) : zH n (0, 0) 62 (0, zini [zR 72, zR 22, .inl a2, .inl a3, .inl a4] 8, []) M (fun r M' => r = some (.inr (.inl (eVal (eCl M a4) O))) ∧ (∀ r, r ≠ 72 → r ≠ 73 → M' r = M r) ∧ (∀ j, j ≠ 4 → j ≠ 5 → M' 72 j = M 72 j) ∧ M' 72 5 = eUse O) := by
  have hz := zp_62
  show zH n (0, 0) 62 (0, [zR 72, zR 22, .inl a2, .inl a3, .inl a4, zN, zN, zN], []) M _
  refine zH_wE (c1 := (6, [zR 72, zR 22, .inl a2, .inl a3, .inl a4, zN, zN, zN], [])) 3 hz zp_106 (fh_106_22 a2 a3) (by rfl) ?_
  show zH n (0, 0) 62 (6, [zR 72, zR 22, .inl a2, .inl a3, .inl a4, zN, zN, zN], [.inl (hR_get M 22 a2 a3)]) M _
  rw [h0]
  refine zH_w (c' := (15, [zR 72, zR 22, .inl a2, .inl a3, .inl a4, .inl ((O.length : Nat) : Int), zN, zN], [.inl 0, zR 72])) 6 hz rfl ?_
  refine zH_putz hz rfl (by decide) rfl rfl ?_
  show zH n (0, 0) 62 (18, [zR 72, zR 22, .inl a2, .inl a3, .inl a4, .inl ((O.length : Nat) : Int), zN, zN], []) (zput (zput M 72 4 0) 72 5 0) _
  obtain ⟨M1, hM1⟩ : ∃ X : zM, X = zput (zput M 72 4 0) 72 5 0 := ⟨_, rfl⟩
  rw [← hM1]
  refine zH_w (c' := (21, [zR 72, zR 22, .inl a2, .inl a3, .inl a4, .inl ((O.length : Nat) : Int), .inl 1, zN], [])) 2 hz rfl ?_
  have lp21 : ∀ (N : Nat) (i : Int) (u7 : zV) (M5 : zM), ((81 - i).toNat) < N → (∃ A B : List Int, O = A ++ B ∧ i = (B.length : Int) + 1 ∧ eS M (eRun (eCl M a4) B) (eUse B) M5) → zH n (0, 0) 62 (21, [zR 72, zR 22, .inl a2, .inl a3, .inl a4, .inl ((O.length : Nat) : Int), .inl i, u7], []) M5 (fun r M' => r = some (.inr (.inl (eVal (eCl M a4) O))) ∧ (∀ r, r ≠ 72 → r ≠ 73 → M' r = M r) ∧ (∀ j, j ≠ 4 → j ≠ 5 → M' 72 j = M 72 j) ∧ M' 72 5 = eUse O) := by
    intro N
    induction N with
    | zero => intro i u7 M5 hN; exact absurd hN (Nat.not_lt_zero _)
    | succ N ih21 =>
      intro i u7 M5 hN hab
      refine zH_w (c' := (25, [zR 72, zR 22, .inl a2, .inl a3, .inl a4, .inl ((O.length : Nat) : Int), .inl i, u7], [.inl ((O.length : Nat) : Int), .inl i])) 2 hz rfl ?_
      refine zH_wi_gt (pc := 25) (n' := 28) (t := 77) (L := [zR 72, zR 22, .inl a2, .inl a3, .inl a4, .inl ((O.length : Nat) : Int), .inl i, u7]) (st := []) (x := i) (y := ((O.length : Nat) : Int)) 0 hz (by rfl) (fun hb25 => ?_) (fun hb25 => ?_)
      · skip
        obtain ⟨A, B, hA, hi, hs⟩ := hab
        have hla : O.length = A.length + B.length := by rw [hA, List.length_append]
        have hA0 : A = [] := List.eq_nil_of_length_eq_zero (by omega)
        rw [hA0] at hA
        have hOB : O = B := hA
        refine zH_w (c' := (78, [zR 72, zR 22, .inl a2, .inl a3, .inl a4, .inl ((O.length : Nat) : Int), .inl i, u7], [zR 72])) 1 hz rfl ?_
        refine zH_wC (c1 := (81, [zR 72, zR 22, .inl a2, .inl a3, .inl a4, .inl ((O.length : Nat) : Int), .inl i, u7], [])) 0 hz zp_66 (fh_66_72) (by rfl) ?_
        rintro _ _ ⟨rfl, rfl⟩
        show zH n (0, 0) 62 (81, [zR 72, zR 22, .inl a2, .inl a3, .inl a4, .inl ((O.length : Nat) : Int), .inl i, u7], [.inr (.inl ((hf_66_72 M5).1))]) ((hf_66_72 M5).2) _
        obtain ⟨p1, q1⟩ := hs.pop (by have := eRun_len (eCl M a4) B; omega)
        rw [p1]
        obtain ⟨M7, hM7⟩ : ∃ X : zM, X = (hf_66_72 M5).2 := ⟨_, rfl⟩
        rw [← hM7]
        rw [← hM7] at q1
        exact zH_ret hz rfl rfl (⟨by rw [hOB]; rfl, q1.1, q1.2.1, by rw [hOB]; exact q1.2.2.2.1⟩)
      · skip
        obtain ⟨A, B, hA, hi, hs⟩ := hab
        have hla : O.length = A.length + B.length := by rw [hA, List.length_append]
        refine zH_wi_gt (pc := 32) (n' := 35) (t := 77) (L := [zR 72, zR 22, .inl a2, .inl a3, .inl a4, .inl ((O.length : Nat) : Int), .inl i, u7]) (st := []) (x := i) (y := 80) 2 hz (by rfl) (fun hb32 => ?_) (fun hb32 => ?_)
        · skip
          exact absurd hb32 (by omega)
        · skip
          obtain ⟨A1, k, hA1⟩ := eSplit (A := A) (fun q => by rw [q, List.length_nil] at hla; omega)
          have hOe : O = A1 ++ k :: B := by rw [hA, hA1]; exact List.append_assoc A1 [k] B
          have hkO : eOk k := hO k (by rw [hOe]; exact List.mem_append_right _ (List.mem_cons_self ..))
          have hrl := eRun_len (eCl M a4) B
          refine zH_wE (c1 := (44, [zR 72, zR 22, .inl a2, .inl a3, .inl a4, .inl ((O.length : Nat) : Int), .inl i, u7], [])) 5 hz zp_106 (fh_106_22 a2 (w32 (a3 + i))) (by rfl) ?_
          show zH n (0, 0) 62 (44, [zR 72, zR 22, .inl a2, .inl a3, .inl a4, .inl ((O.length : Nat) : Int), .inl i, u7], [.inl (hR_get M5 22 a2 (w32 (a3 + i)))]) M5 _
          rw [show hR_get M5 22 a2 (w32 (a3 + i)) = k from by rw [eGet (hs.1 22 (by decide) (by decide)) (hs.1 (22 + 1) (by decide) (by decide)), hi, show ((B.length : Nat) : Int) + 1 = ((1 + B.length : Nat) : Int) by omega, hg (1 + B.length) (by omega) (by omega)]; rw [hOe] at hx; exact xC_at hx]
          refine zH_w (c' := (48, [zR 72, zR 22, .inl a2, .inl a3, .inl a4, .inl ((O.length : Nat) : Int), .inl i, .inl k], [.inl k])) 2 hz rfl ?_
          refine zH_wf_lt (pc := 48) (n' := 51) (t := 61) (L := [zR 72, zR 22, .inl a2, .inl a3, .inl a4, .inl ((O.length : Nat) : Int), .inl i, .inl k]) (st := []) (x := k) 0 hz (by rfl) (fun hb48 => ?_) (fun hb48 => ?_)
          · skip
            have hfp := True.intro
            refine zH_w (c' := (66, [zR 72, zR 22, .inl a2, .inl a3, .inl a4, .inl ((O.length : Nat) : Int), .inl i, .inl k], [.inl (zbxor k (-1)), zR 72])) 4 hz rfl ?_
            rw [exnot (by unfold eOk at hkO; omega)]
            refine zH_w (c' := (68, [zR 72, zR 22, .inl a2, .inl a3, .inl a4, .inl ((O.length : Nat) : Int), .inl i, .inl k], [.inl a4, .inl (-k - 1), zR 72])) 1 hz rfl ?_
            refine zH_wC (c1 := (71, [zR 72, zR 22, .inl a2, .inl a3, .inl a4, .inl ((O.length : Nat) : Int), .inl i, .inl k], [])) 0 hz zp_63 (fh_63_72 hs (by omega) hrk (-k - 1) a4 (by rw [show -(-k - 1) - 1 = k by omega]; exact hkO) (by omega)) (by rfl) ?_
            rintro _ M6 ⟨rfl, h6⟩
            show zH n (0, 0) 62 (71, [zR 72, zR 22, .inl a2, .inl a3, .inl a4, .inl ((O.length : Nat) : Int), .inl i, .inl k], []) M6 _
            have hfa : eS M (eRun (eCl M a4) (k :: B)) (eUse (k :: B)) M6 := by
              rw [show -(-k - 1) - 1 = k by omega] at h6
              rw [show eUse (k :: B) = if -k - 1 = 13 ∨ -k - 1 = 6 then 1 else eUse B from by
                show (if k = -14 ∨ k = -7 then 1 else eUse B) = _
                by_cases c : k = -14 ∨ k = -7
                · rw [if_pos c, if_pos (by omega)]
                · rw [if_neg c, if_neg (by omega)]]
              exact h6
            refine zH_w (c' := (21, [zR 72, zR 22, .inl a2, .inl a3, .inl a4, .inl ((O.length : Nat) : Int), .inl (i + 1), .inl k], [])) 2 hz (by rw [show (.inl (i + 1) : zV) = .inl (w32 (i + 1)) from by rw [w32_id (by omega)]]; rfl) ?_
            refine ih21 (i + 1) (.inl k) M6 (by omega) ?_
            · refine ⟨A1, k :: B, by rw [hA, hA1]; exact List.append_assoc A1 [k] B, by rw [List.length_cons]; omega, ?_⟩
              first
                | exact hfa
                | exact hfp
          · skip
            have hfp : eS M (eRun (eCl M a4) (k :: B)) (eUse (k :: B)) (hf_65_72 M5 k) := by
              have q := hs.push (x := k) (by omega)
              rw [show eRun (eCl M a4) (k :: B) = k :: eRun (eCl M a4) B from if_pos (by omega), show eUse (k :: B) = eUse B from if_neg (by omega)]
              exact q
            have hfa := True.intro
            refine zH_wE (c1 := (58, [zR 72, zR 22, .inl a2, .inl a3, .inl a4, .inl ((O.length : Nat) : Int), .inl i, .inl k], [])) 3 hz zp_65 (fh_65_72 k) (by rfl) ?_
            show zH n (0, 0) 62 (58, [zR 72, zR 22, .inl a2, .inl a3, .inl a4, .inl ((O.length : Nat) : Int), .inl i, .inl k], []) (hf_65_72 M5 k) _
            refine zH_w (c' := (21, [zR 72, zR 22, .inl a2, .inl a3, .inl a4, .inl ((O.length : Nat) : Int), .inl (i + 1), .inl k], [])) 3 hz (by rw [show (.inl (i + 1) : zV) = .inl (w32 (i + 1)) from by rw [w32_id (by omega)]]; rfl) ?_
            refine ih21 (i + 1) (.inl k) (hf_65_72 M5 k) (by omega) ?_
            · refine ⟨A1, k :: B, by rw [hA, hA1]; exact List.append_assoc A1 [k] B, by rw [List.length_cons]; omega, ?_⟩
              first
                | exact hfa
                | exact hfp
  refine lp21 (82) 1 zN M1 (by omega) ?_
  · exact ⟨O, [], (List.append_nil O).symm, rfl, by rw [hM1]; exact eS.start⟩
set_option maxRecDepth 100000 in
theorem fh_106_77 {n : Nat} {M : zM} (a1 : Int) (a2 : Int) : zH n (0, 0) 106 (0, zini [zR 77, .inl a1, .inl a2] 3, []) M (fun r M' => r = some (.inl (hR_get M 77 a1 a2)) ∧ M' = M) := by
  have hz := zp_106
  have hE : hR_get M 77 a1 a2 = hR_get M 77 a1 a2 := rfl
  show zH n (0, 0) 106 (0, [zR 77, .inl a1, .inl a2], []) M _
  refine zH_wf_lt (pc := 1) (n' := 4) (t := 24) (L := [zR 77, .inl a1, .inl a2]) (st := []) (x := a1) 1 hz (by rfl) (fun hb => ?_) (fun hb => ?_)
  · have hE := hE.trans (if_pos hb)
    exact zH_wr (r := some (.inl (-1))) 1 hz (by rfl) (hfinP hE)
  · have hE := hE.trans (if_neg hb)
    refine zH_wi_ge (pc := 9) (n' := 12) (t := 24) (L := [zR 77, .inl a1, .inl a2]) (st := []) (x := a1) (y := (M 77 0)) 3 hz (by rfl) (fun hb => ?_) (fun hb => ?_)
    · have hE := hE.trans (if_pos hb)
      exact zH_wr (r := some (.inl (-1))) 1 hz (by rfl) (hfinP hE)
    · have hE := hE.trans (if_neg hb)
      refine zH_wf_lt (pc := 13) (n' := 16) (t := 24) (L := [zR 77, .inl a1, .inl a2]) (st := []) (x := a2) 1 hz (by rfl) (fun hb => ?_) (fun hb => ?_)
      · have hE := hE.trans (if_pos hb)
        exact zH_wr (r := some (.inl (-1))) 1 hz (by rfl) (hfinP hE)
      · have hE := hE.trans (if_neg hb)
        refine zH_wi_lt (pc := 21) (n' := 24) (t := 26) (L := [zR 77, .inl a1, .inl a2]) (st := []) (x := a2) (y := (M 77 1)) 3 hz (by rfl) (fun hb => ?_) (fun hb => ?_)
        · have hE := hE.trans (if_pos hb)
          refine zH_w (c' := (38, [zR 77, .inl a1, .inl a2], [.inl (w32 ((w32 (a1 * (M 77 1))) + a2)), zR 78])) 8 hz rfl ?_
          refine zH_iald hz rfl rfl (.inl rfl) (fun _ => ?_)
          show zH n (0, 0) 106 (39, [zR 77, .inl a1, .inl a2], [.inl (M 78 (w32 ((w32 (a1 * (M 77 1))) + a2) : Int).toNat)]) M _
          exact zH_wr (r := some (.inl (M 78 (w32 ((w32 (a1 * (M 77 1))) + a2) : Int).toNat))) 0 hz (by rfl) (hfinP hE)
        · have hE := hE.trans (if_neg hb)
          exact zH_wr (r := some (.inl (-1))) 1 hz (by rfl) (hfinP hE)
set_option maxRecDepth 100000 in
theorem fh_62_77 {n : Nat} {M : zM} (hrk : M 72 3 ≤ 14) {O : List Int} {g : Nat → Int} (hl : O.length ≤ 80) (hO : ∀ k ∈ O, eOk k) (a2 a3 a4 : Int) (h0 : hR_get M 77 a2 a3 = (O.length : Int)) (hg : ∀ j : Nat, 1 ≤ j → j ≤ O.length → hR_get M 77 a2 (w32 (a3 + (j : Int))) = g j) (hx : xC g O) : zH n (0, 0) 62 (0, zini [zR 72, zR 77, .inl a2, .inl a3, .inl a4] 8, []) M (fun r M' => r = some (.inr (.inl (eVal (eCl M a4) O))) ∧ (∀ r, r ≠ 72 → r ≠ 73 → M' r = M r) ∧ (∀ j, j ≠ 4 → j ≠ 5 → M' 72 j = M 72 j) ∧ M' 72 5 = eUse O) := by
  have hz := zp_62
  show zH n (0, 0) 62 (0, [zR 72, zR 77, .inl a2, .inl a3, .inl a4, zN, zN, zN], []) M _
  refine zH_wE (c1 := (6, [zR 72, zR 77, .inl a2, .inl a3, .inl a4, zN, zN, zN], [])) 3 hz zp_106 (fh_106_77 a2 a3) (by rfl) ?_
  show zH n (0, 0) 62 (6, [zR 72, zR 77, .inl a2, .inl a3, .inl a4, zN, zN, zN], [.inl (hR_get M 77 a2 a3)]) M _
  rw [h0]
  refine zH_w (c' := (15, [zR 72, zR 77, .inl a2, .inl a3, .inl a4, .inl ((O.length : Nat) : Int), zN, zN], [.inl 0, zR 72])) 6 hz rfl ?_
  refine zH_putz hz rfl (by decide) rfl rfl ?_
  show zH n (0, 0) 62 (18, [zR 72, zR 77, .inl a2, .inl a3, .inl a4, .inl ((O.length : Nat) : Int), zN, zN], []) (zput (zput M 72 4 0) 72 5 0) _
  obtain ⟨M1, hM1⟩ : ∃ X : zM, X = zput (zput M 72 4 0) 72 5 0 := ⟨_, rfl⟩
  rw [← hM1]
  refine zH_w (c' := (21, [zR 72, zR 77, .inl a2, .inl a3, .inl a4, .inl ((O.length : Nat) : Int), .inl 1, zN], [])) 2 hz rfl ?_
  have lp21 : ∀ (N : Nat) (i : Int) (u7 : zV) (M5 : zM), ((81 - i).toNat) < N → (∃ A B : List Int, O = A ++ B ∧ i = (B.length : Int) + 1 ∧ eS M (eRun (eCl M a4) B) (eUse B) M5) → zH n (0, 0) 62 (21, [zR 72, zR 77, .inl a2, .inl a3, .inl a4, .inl ((O.length : Nat) : Int), .inl i, u7], []) M5 (fun r M' => r = some (.inr (.inl (eVal (eCl M a4) O))) ∧ (∀ r, r ≠ 72 → r ≠ 73 → M' r = M r) ∧ (∀ j, j ≠ 4 → j ≠ 5 → M' 72 j = M 72 j) ∧ M' 72 5 = eUse O) := by
    intro N
    induction N with
    | zero => intro i u7 M5 hN; exact absurd hN (Nat.not_lt_zero _)
    | succ N ih21 =>
      intro i u7 M5 hN hab
      refine zH_w (c' := (25, [zR 72, zR 77, .inl a2, .inl a3, .inl a4, .inl ((O.length : Nat) : Int), .inl i, u7], [.inl ((O.length : Nat) : Int), .inl i])) 2 hz rfl ?_
      refine zH_wi_gt (pc := 25) (n' := 28) (t := 77) (L := [zR 72, zR 77, .inl a2, .inl a3, .inl a4, .inl ((O.length : Nat) : Int), .inl i, u7]) (st := []) (x := i) (y := ((O.length : Nat) : Int)) 0 hz (by rfl) (fun hb25 => ?_) (fun hb25 => ?_)
      · skip
        obtain ⟨A, B, hA, hi, hs⟩ := hab
        have hla : O.length = A.length + B.length := by rw [hA, List.length_append]
        have hA0 : A = [] := List.eq_nil_of_length_eq_zero (by omega)
        rw [hA0] at hA
        have hOB : O = B := hA
        refine zH_w (c' := (78, [zR 72, zR 77, .inl a2, .inl a3, .inl a4, .inl ((O.length : Nat) : Int), .inl i, u7], [zR 72])) 1 hz rfl ?_
        refine zH_wC (c1 := (81, [zR 72, zR 77, .inl a2, .inl a3, .inl a4, .inl ((O.length : Nat) : Int), .inl i, u7], [])) 0 hz zp_66 (fh_66_72) (by rfl) ?_
        rintro _ _ ⟨rfl, rfl⟩
        show zH n (0, 0) 62 (81, [zR 72, zR 77, .inl a2, .inl a3, .inl a4, .inl ((O.length : Nat) : Int), .inl i, u7], [.inr (.inl ((hf_66_72 M5).1))]) ((hf_66_72 M5).2) _
        obtain ⟨p1, q1⟩ := hs.pop (by have := eRun_len (eCl M a4) B; omega)
        rw [p1]
        obtain ⟨M7, hM7⟩ : ∃ X : zM, X = (hf_66_72 M5).2 := ⟨_, rfl⟩
        rw [← hM7]
        rw [← hM7] at q1
        exact zH_ret hz rfl rfl (⟨by rw [hOB]; rfl, q1.1, q1.2.1, by rw [hOB]; exact q1.2.2.2.1⟩)
      · skip
        obtain ⟨A, B, hA, hi, hs⟩ := hab
        have hla : O.length = A.length + B.length := by rw [hA, List.length_append]
        refine zH_wi_gt (pc := 32) (n' := 35) (t := 77) (L := [zR 72, zR 77, .inl a2, .inl a3, .inl a4, .inl ((O.length : Nat) : Int), .inl i, u7]) (st := []) (x := i) (y := 80) 2 hz (by rfl) (fun hb32 => ?_) (fun hb32 => ?_)
        · skip
          exact absurd hb32 (by omega)
        · skip
          obtain ⟨A1, k, hA1⟩ := eSplit (A := A) (fun q => by rw [q, List.length_nil] at hla; omega)
          have hOe : O = A1 ++ k :: B := by rw [hA, hA1]; exact List.append_assoc A1 [k] B
          have hkO : eOk k := hO k (by rw [hOe]; exact List.mem_append_right _ (List.mem_cons_self ..))
          have hrl := eRun_len (eCl M a4) B
          refine zH_wE (c1 := (44, [zR 72, zR 77, .inl a2, .inl a3, .inl a4, .inl ((O.length : Nat) : Int), .inl i, u7], [])) 5 hz zp_106 (fh_106_77 a2 (w32 (a3 + i))) (by rfl) ?_
          show zH n (0, 0) 62 (44, [zR 72, zR 77, .inl a2, .inl a3, .inl a4, .inl ((O.length : Nat) : Int), .inl i, u7], [.inl (hR_get M5 77 a2 (w32 (a3 + i)))]) M5 _
          rw [show hR_get M5 77 a2 (w32 (a3 + i)) = k from by rw [eGet (hs.1 77 (by decide) (by decide)) (hs.1 (77 + 1) (by decide) (by decide)), hi, show ((B.length : Nat) : Int) + 1 = ((1 + B.length : Nat) : Int) by omega, hg (1 + B.length) (by omega) (by omega)]; rw [hOe] at hx; exact xC_at hx]
          refine zH_w (c' := (48, [zR 72, zR 77, .inl a2, .inl a3, .inl a4, .inl ((O.length : Nat) : Int), .inl i, .inl k], [.inl k])) 2 hz rfl ?_
          refine zH_wf_lt (pc := 48) (n' := 51) (t := 61) (L := [zR 72, zR 77, .inl a2, .inl a3, .inl a4, .inl ((O.length : Nat) : Int), .inl i, .inl k]) (st := []) (x := k) 0 hz (by rfl) (fun hb48 => ?_) (fun hb48 => ?_)
          · skip
            have hfp := True.intro
            refine zH_w (c' := (66, [zR 72, zR 77, .inl a2, .inl a3, .inl a4, .inl ((O.length : Nat) : Int), .inl i, .inl k], [.inl (zbxor k (-1)), zR 72])) 4 hz rfl ?_
            rw [exnot (by unfold eOk at hkO; omega)]
            refine zH_w (c' := (68, [zR 72, zR 77, .inl a2, .inl a3, .inl a4, .inl ((O.length : Nat) : Int), .inl i, .inl k], [.inl a4, .inl (-k - 1), zR 72])) 1 hz rfl ?_
            refine zH_wC (c1 := (71, [zR 72, zR 77, .inl a2, .inl a3, .inl a4, .inl ((O.length : Nat) : Int), .inl i, .inl k], [])) 0 hz zp_63 (fh_63_72 hs (by omega) hrk (-k - 1) a4 (by rw [show -(-k - 1) - 1 = k by omega]; exact hkO) (by omega)) (by rfl) ?_
            rintro _ M6 ⟨rfl, h6⟩
            show zH n (0, 0) 62 (71, [zR 72, zR 77, .inl a2, .inl a3, .inl a4, .inl ((O.length : Nat) : Int), .inl i, .inl k], []) M6 _
            have hfa : eS M (eRun (eCl M a4) (k :: B)) (eUse (k :: B)) M6 := by
              rw [show -(-k - 1) - 1 = k by omega] at h6
              rw [show eUse (k :: B) = if -k - 1 = 13 ∨ -k - 1 = 6 then 1 else eUse B from by
                show (if k = -14 ∨ k = -7 then 1 else eUse B) = _
                by_cases c : k = -14 ∨ k = -7
                · rw [if_pos c, if_pos (by omega)]
                · rw [if_neg c, if_neg (by omega)]]
              exact h6
            refine zH_w (c' := (21, [zR 72, zR 77, .inl a2, .inl a3, .inl a4, .inl ((O.length : Nat) : Int), .inl (i + 1), .inl k], [])) 2 hz (by rw [show (.inl (i + 1) : zV) = .inl (w32 (i + 1)) from by rw [w32_id (by omega)]]; rfl) ?_
            refine ih21 (i + 1) (.inl k) M6 (by omega) ?_
            · refine ⟨A1, k :: B, by rw [hA, hA1]; exact List.append_assoc A1 [k] B, by rw [List.length_cons]; omega, ?_⟩
              first
                | exact hfa
                | exact hfp
          · skip
            have hfp : eS M (eRun (eCl M a4) (k :: B)) (eUse (k :: B)) (hf_65_72 M5 k) := by
              have q := hs.push (x := k) (by omega)
              rw [show eRun (eCl M a4) (k :: B) = k :: eRun (eCl M a4) B from if_pos (by omega), show eUse (k :: B) = eUse B from if_neg (by omega)]
              exact q
            have hfa := True.intro
            refine zH_wE (c1 := (58, [zR 72, zR 77, .inl a2, .inl a3, .inl a4, .inl ((O.length : Nat) : Int), .inl i, .inl k], [])) 3 hz zp_65 (fh_65_72 k) (by rfl) ?_
            show zH n (0, 0) 62 (58, [zR 72, zR 77, .inl a2, .inl a3, .inl a4, .inl ((O.length : Nat) : Int), .inl i, .inl k], []) (hf_65_72 M5 k) _
            refine zH_w (c' := (21, [zR 72, zR 77, .inl a2, .inl a3, .inl a4, .inl ((O.length : Nat) : Int), .inl (i + 1), .inl k], [])) 3 hz (by rw [show (.inl (i + 1) : zV) = .inl (w32 (i + 1)) from by rw [w32_id (by omega)]]; rfl) ?_
            refine ih21 (i + 1) (.inl k) (hf_65_72 M5 k) (by omega) ?_
            · refine ⟨A1, k :: B, by rw [hA, hA1]; exact List.append_assoc A1 [k] B, by rw [List.length_cons]; omega, ?_⟩
              first
                | exact hfa
                | exact hfp
  refine lp21 (82) 1 zN M1 (by omega) ?_
  · exact ⟨O, [], (List.append_nil O).symm, rfl, by rw [hM1]; exact eS.start⟩
set_option maxRecDepth 100000 in
theorem fh_62_68 {n : Nat} {M : zM} (hrk : M 72 3 ≤ 14) {O : List Int} {g : Nat → Int} (hl : O.length ≤ 80) (hO : ∀ k ∈ O, eOk k) (a2 a3 a4 : Int) (h0 : hR_get M 68 a2 a3 = (O.length : Int)) (hg : ∀ j : Nat, 1 ≤ j → j ≤ O.length → hR_get M 68 a2 (w32 (a3 + (j : Int))) = g j) (hx : xC g O) : zH n (0, 0) 62 (0, zini [zR 72, zR 68, .inl a2, .inl a3, .inl a4] 8, []) M (fun r M' => r = some (.inr (.inl (eVal (eCl M a4) O))) ∧ (∀ r, r ≠ 72 → r ≠ 73 → M' r = M r) ∧ (∀ j, j ≠ 4 → j ≠ 5 → M' 72 j = M 72 j) ∧ M' 72 5 = eUse O) := by
  have hz := zp_62
  show zH n (0, 0) 62 (0, [zR 72, zR 68, .inl a2, .inl a3, .inl a4, zN, zN, zN], []) M _
  refine zH_wE (c1 := (6, [zR 72, zR 68, .inl a2, .inl a3, .inl a4, zN, zN, zN], [])) 3 hz zp_106 (fh_106_68 a2 a3) (by rfl) ?_
  show zH n (0, 0) 62 (6, [zR 72, zR 68, .inl a2, .inl a3, .inl a4, zN, zN, zN], [.inl (hR_get M 68 a2 a3)]) M _
  rw [h0]
  refine zH_w (c' := (15, [zR 72, zR 68, .inl a2, .inl a3, .inl a4, .inl ((O.length : Nat) : Int), zN, zN], [.inl 0, zR 72])) 6 hz rfl ?_
  refine zH_putz hz rfl (by decide) rfl rfl ?_
  show zH n (0, 0) 62 (18, [zR 72, zR 68, .inl a2, .inl a3, .inl a4, .inl ((O.length : Nat) : Int), zN, zN], []) (zput (zput M 72 4 0) 72 5 0) _
  obtain ⟨M1, hM1⟩ : ∃ X : zM, X = zput (zput M 72 4 0) 72 5 0 := ⟨_, rfl⟩
  rw [← hM1]
  refine zH_w (c' := (21, [zR 72, zR 68, .inl a2, .inl a3, .inl a4, .inl ((O.length : Nat) : Int), .inl 1, zN], [])) 2 hz rfl ?_
  have lp21 : ∀ (N : Nat) (i : Int) (u7 : zV) (M5 : zM), ((81 - i).toNat) < N → (∃ A B : List Int, O = A ++ B ∧ i = (B.length : Int) + 1 ∧ eS M (eRun (eCl M a4) B) (eUse B) M5) → zH n (0, 0) 62 (21, [zR 72, zR 68, .inl a2, .inl a3, .inl a4, .inl ((O.length : Nat) : Int), .inl i, u7], []) M5 (fun r M' => r = some (.inr (.inl (eVal (eCl M a4) O))) ∧ (∀ r, r ≠ 72 → r ≠ 73 → M' r = M r) ∧ (∀ j, j ≠ 4 → j ≠ 5 → M' 72 j = M 72 j) ∧ M' 72 5 = eUse O) := by
    intro N
    induction N with
    | zero => intro i u7 M5 hN; exact absurd hN (Nat.not_lt_zero _)
    | succ N ih21 =>
      intro i u7 M5 hN hab
      refine zH_w (c' := (25, [zR 72, zR 68, .inl a2, .inl a3, .inl a4, .inl ((O.length : Nat) : Int), .inl i, u7], [.inl ((O.length : Nat) : Int), .inl i])) 2 hz rfl ?_
      refine zH_wi_gt (pc := 25) (n' := 28) (t := 77) (L := [zR 72, zR 68, .inl a2, .inl a3, .inl a4, .inl ((O.length : Nat) : Int), .inl i, u7]) (st := []) (x := i) (y := ((O.length : Nat) : Int)) 0 hz (by rfl) (fun hb25 => ?_) (fun hb25 => ?_)
      · skip
        obtain ⟨A, B, hA, hi, hs⟩ := hab
        have hla : O.length = A.length + B.length := by rw [hA, List.length_append]
        have hA0 : A = [] := List.eq_nil_of_length_eq_zero (by omega)
        rw [hA0] at hA
        have hOB : O = B := hA
        refine zH_w (c' := (78, [zR 72, zR 68, .inl a2, .inl a3, .inl a4, .inl ((O.length : Nat) : Int), .inl i, u7], [zR 72])) 1 hz rfl ?_
        refine zH_wC (c1 := (81, [zR 72, zR 68, .inl a2, .inl a3, .inl a4, .inl ((O.length : Nat) : Int), .inl i, u7], [])) 0 hz zp_66 (fh_66_72) (by rfl) ?_
        rintro _ _ ⟨rfl, rfl⟩
        show zH n (0, 0) 62 (81, [zR 72, zR 68, .inl a2, .inl a3, .inl a4, .inl ((O.length : Nat) : Int), .inl i, u7], [.inr (.inl ((hf_66_72 M5).1))]) ((hf_66_72 M5).2) _
        obtain ⟨p1, q1⟩ := hs.pop (by have := eRun_len (eCl M a4) B; omega)
        rw [p1]
        obtain ⟨M7, hM7⟩ : ∃ X : zM, X = (hf_66_72 M5).2 := ⟨_, rfl⟩
        rw [← hM7]
        rw [← hM7] at q1
        exact zH_ret hz rfl rfl (⟨by rw [hOB]; rfl, q1.1, q1.2.1, by rw [hOB]; exact q1.2.2.2.1⟩)
      · skip
        obtain ⟨A, B, hA, hi, hs⟩ := hab
        have hla : O.length = A.length + B.length := by rw [hA, List.length_append]
        refine zH_wi_gt (pc := 32) (n' := 35) (t := 77) (L := [zR 72, zR 68, .inl a2, .inl a3, .inl a4, .inl ((O.length : Nat) : Int), .inl i, u7]) (st := []) (x := i) (y := 80) 2 hz (by rfl) (fun hb32 => ?_) (fun hb32 => ?_)
        · skip
          exact absurd hb32 (by omega)
        · skip
          obtain ⟨A1, k, hA1⟩ := eSplit (A := A) (fun q => by rw [q, List.length_nil] at hla; omega)
          have hOe : O = A1 ++ k :: B := by rw [hA, hA1]; exact List.append_assoc A1 [k] B
          have hkO : eOk k := hO k (by rw [hOe]; exact List.mem_append_right _ (List.mem_cons_self ..))
          have hrl := eRun_len (eCl M a4) B
          refine zH_wE (c1 := (44, [zR 72, zR 68, .inl a2, .inl a3, .inl a4, .inl ((O.length : Nat) : Int), .inl i, u7], [])) 5 hz zp_106 (fh_106_68 a2 (w32 (a3 + i))) (by rfl) ?_
          show zH n (0, 0) 62 (44, [zR 72, zR 68, .inl a2, .inl a3, .inl a4, .inl ((O.length : Nat) : Int), .inl i, u7], [.inl (hR_get M5 68 a2 (w32 (a3 + i)))]) M5 _
          rw [show hR_get M5 68 a2 (w32 (a3 + i)) = k from by rw [eGet (hs.1 68 (by decide) (by decide)) (hs.1 (68 + 1) (by decide) (by decide)), hi, show ((B.length : Nat) : Int) + 1 = ((1 + B.length : Nat) : Int) by omega, hg (1 + B.length) (by omega) (by omega)]; rw [hOe] at hx; exact xC_at hx]
          refine zH_w (c' := (48, [zR 72, zR 68, .inl a2, .inl a3, .inl a4, .inl ((O.length : Nat) : Int), .inl i, .inl k], [.inl k])) 2 hz rfl ?_
          refine zH_wf_lt (pc := 48) (n' := 51) (t := 61) (L := [zR 72, zR 68, .inl a2, .inl a3, .inl a4, .inl ((O.length : Nat) : Int), .inl i, .inl k]) (st := []) (x := k) 0 hz (by rfl) (fun hb48 => ?_) (fun hb48 => ?_)
          · skip
            have hfp := True.intro
            refine zH_w (c' := (66, [zR 72, zR 68, .inl a2, .inl a3, .inl a4, .inl ((O.length : Nat) : Int), .inl i, .inl k], [.inl (zbxor k (-1)), zR 72])) 4 hz rfl ?_
            rw [exnot (by unfold eOk at hkO; omega)]
            refine zH_w (c' := (68, [zR 72, zR 68, .inl a2, .inl a3, .inl a4, .inl ((O.length : Nat) : Int), .inl i, .inl k], [.inl a4, .inl (-k - 1), zR 72])) 1 hz rfl ?_
            refine zH_wC (c1 := (71, [zR 72, zR 68, .inl a2, .inl a3, .inl a4, .inl ((O.length : Nat) : Int), .inl i, .inl k], [])) 0 hz zp_63 (fh_63_72 hs (by omega) hrk (-k - 1) a4 (by rw [show -(-k - 1) - 1 = k by omega]; exact hkO) (by omega)) (by rfl) ?_
            rintro _ M6 ⟨rfl, h6⟩
            show zH n (0, 0) 62 (71, [zR 72, zR 68, .inl a2, .inl a3, .inl a4, .inl ((O.length : Nat) : Int), .inl i, .inl k], []) M6 _
            have hfa : eS M (eRun (eCl M a4) (k :: B)) (eUse (k :: B)) M6 := by
              rw [show -(-k - 1) - 1 = k by omega] at h6
              rw [show eUse (k :: B) = if -k - 1 = 13 ∨ -k - 1 = 6 then 1 else eUse B from by
                show (if k = -14 ∨ k = -7 then 1 else eUse B) = _
                by_cases c : k = -14 ∨ k = -7
                · rw [if_pos c, if_pos (by omega)]
                · rw [if_neg c, if_neg (by omega)]]
              exact h6
            refine zH_w (c' := (21, [zR 72, zR 68, .inl a2, .inl a3, .inl a4, .inl ((O.length : Nat) : Int), .inl (i + 1), .inl k], [])) 2 hz (by rw [show (.inl (i + 1) : zV) = .inl (w32 (i + 1)) from by rw [w32_id (by omega)]]; rfl) ?_
            refine ih21 (i + 1) (.inl k) M6 (by omega) ?_
            · refine ⟨A1, k :: B, by rw [hA, hA1]; exact List.append_assoc A1 [k] B, by rw [List.length_cons]; omega, ?_⟩
              first
                | exact hfa
                | exact hfp
          · skip
            have hfp : eS M (eRun (eCl M a4) (k :: B)) (eUse (k :: B)) (hf_65_72 M5 k) := by
              have q := hs.push (x := k) (by omega)
              rw [show eRun (eCl M a4) (k :: B) = k :: eRun (eCl M a4) B from if_pos (by omega), show eUse (k :: B) = eUse B from if_neg (by omega)]
              exact q
            have hfa := True.intro
            refine zH_wE (c1 := (58, [zR 72, zR 68, .inl a2, .inl a3, .inl a4, .inl ((O.length : Nat) : Int), .inl i, .inl k], [])) 3 hz zp_65 (fh_65_72 k) (by rfl) ?_
            show zH n (0, 0) 62 (58, [zR 72, zR 68, .inl a2, .inl a3, .inl a4, .inl ((O.length : Nat) : Int), .inl i, .inl k], []) (hf_65_72 M5 k) _
            refine zH_w (c' := (21, [zR 72, zR 68, .inl a2, .inl a3, .inl a4, .inl ((O.length : Nat) : Int), .inl (i + 1), .inl k], [])) 3 hz (by rw [show (.inl (i + 1) : zV) = .inl (w32 (i + 1)) from by rw [w32_id (by omega)]]; rfl) ?_
            refine ih21 (i + 1) (.inl k) (hf_65_72 M5 k) (by omega) ?_
            · refine ⟨A1, k :: B, by rw [hA, hA1]; exact List.append_assoc A1 [k] B, by rw [List.length_cons]; omega, ?_⟩
              first
                | exact hfa
                | exact hfp
  refine lp21 (82) 1 zN M1 (by omega) ?_
  · exact ⟨O, [], (List.append_nil O).symm, rfl, by rw [hM1]; exact eS.start⟩
set_option maxRecDepth 100000 in
theorem fh_233_97 {n : Nat} {M : zM} (a1 : Int) : zH n (0, 0) 233 (0, zini [zR 97, .inr (.inl a1)] 6, []) M (fun r M' => r = some (.inr (.inl (w64 (eBst (eMd M).2.1 (eMd M).2.2.1 a1 + (eMd M).2.2.2)))) ∧ M' = M) := by
  have hz := zp_233
  show zH n (0, 0) 233 (0, [zR 97, .inr (.inl a1), zN, zN, zN, zN], []) M _
  have lp61 : ∀ (v : Int) (u5 : zV), (v = eBst (eMd M).2.1 (eMd M).2.2.1 a1) → zH n (0, 0) 233 (61, [zR 97, .inr (.inl a1), zN, .inr (.inl v), zN, u5], []) M (fun r M' => r = some (.inr (.inl (w64 (eBst (eMd M).2.1 (eMd M).2.2.1 a1 + (eMd M).2.2.2)))) ∧ M' = M) := by
    intro v u5 hv
    refine zH_w (c' := (65, [zR 97, .inr (.inl a1), zN, .inr (.inl v), zN, u5], [.inl (M 97 20)])) 2 hz rfl ?_
    refine zH_wf_eq (pc := 65) (n' := 68) (t := 78) (L := [zR 97, .inr (.inl a1), zN, .inr (.inl v), zN, u5]) (st := []) (x := (M 97 20)) 0 hz (by rfl) (fun hb65 => ?_) (fun hb65 => ?_)
    · skip
      refine zH_w (c' := (79, [zR 97, .inr (.inl a1), zN, .inr (.inl v), zN, u5], [.inr (.inl 0)])) 1 hz rfl ?_
      refine zH_ret hz rfl rfl ?_
      refine ⟨?_, rfl⟩
      rw [← hv]
      first
        | (rw [show (eMd M).2.2.2 = M 97 19 from if_neg (by omega)])
        | (rw [show (eMd M).2.2.2 = 0 from if_pos (by omega), hv, show (eMd M).2.1 = 0 from if_pos (by omega), show eBst 0 (eMd M).2.2.1 a1 = 0 from if_pos (by omega)]; rfl)
    · skip
      refine zH_w (c' := (79, [zR 97, .inr (.inl a1), zN, .inr (.inl v), zN, u5], [.inr (.inl (w64 (v + (M 97 19))))])) 6 hz rfl ?_
      refine zH_ret hz rfl rfl ?_
      refine ⟨?_, rfl⟩
      rw [← hv]
      first
        | (rw [show (eMd M).2.2.2 = M 97 19 from if_neg (by omega)])
        | (rw [show (eMd M).2.2.2 = 0 from if_pos (by omega), hv, show (eMd M).2.1 = 0 from if_pos (by omega), show eBst 0 (eMd M).2.2.1 a1 = 0 from if_pos (by omega)]; rfl)
  refine zH_wf_eq (pc := 6) (n' := 9) (t := 61) (L := [zR 97, .inr (.inl a1), zN, .inr (.inl 0), zN, zN]) (st := []) (x := (M 97 20)) 4 hz (by rfl) (fun hb6 => ?_) (fun hb6 => ?_)
  · skip
    have ht := True.intro
    have i := (0 : Int)
    refine lp61 0 zN ?_
    · unfold eMd eBst
      dsimp only
      first
        | (rw [if_pos (show M 97 20 = 0 by omega), if_pos (by omega)])
        | (rw [if_neg (show ¬ M 97 20 = 0 by omega), if_pos (by omega)])
        | (rw [if_neg (show ¬ M 97 20 = 0 by omega), if_neg (by omega), ht, show i.toNat = a1.toNat by omega])
  · skip
    refine zH_wf_lt (pc := 12) (n' := 15) (t := 61) (L := [zR 97, .inr (.inl a1), zN, .inr (.inl 0), zN, zN]) (st := []) (x := (if 1 < a1 then 1 else if a1 = 1 then 0 else -1)) 3 hz (by rfl) (fun hb12 => ?_) (fun hb12 => ?_)
    · skip
      rw [elc_lt] at hb12
      have ht := True.intro
      have i := (0 : Int)
      refine lp61 0 zN ?_
      · unfold eMd eBst
        dsimp only
        first
          | (rw [if_pos (show M 97 20 = 0 by omega), if_pos (by omega)])
          | (rw [if_neg (show ¬ M 97 20 = 0 by omega), if_pos (by omega)])
          | (rw [if_neg (show ¬ M 97 20 = 0 by omega), if_neg (by omega), ht, show i.toNat = a1.toNat by omega])
    · skip
      rw [elc_lt] at hb12
      refine zH_w (c' := (22, [zR 97, .inr (.inl a1), zN, .inr (.inl 0), zN, zN], [.inl (if (M 97 18) < a1 then 1 else if a1 = (M 97 18) then 0 else -1)])) 5 hz rfl ?_
      refine zH_wf_gt (pc := 22) (n' := 25) (t := 61) (L := [zR 97, .inr (.inl a1), zN, .inr (.inl 0), zN, zN]) (st := []) (x := (if (M 97 18) < a1 then 1 else if a1 = (M 97 18) then 0 else -1)) 0 hz (by rfl) (fun hb22 => ?_) (fun hb22 => ?_)
      · skip
        rw [elc_gt] at hb22
        have ht := True.intro
        have i := (0 : Int)
        refine lp61 0 zN ?_
        · unfold eMd eBst
          dsimp only
          first
            | (rw [if_pos (show M 97 20 = 0 by omega), if_pos (by omega)])
            | (rw [if_neg (show ¬ M 97 20 = 0 by omega), if_pos (by omega)])
            | (rw [if_neg (show ¬ M 97 20 = 0 by omega), if_neg (by omega), ht, show i.toNat = a1.toNat by omega])
      · skip
        rw [elc_gt] at hb22
        refine zH_w (c' := (28, [zR 97, .inr (.inl a1), zN, .inr (.inl 0), zN, .inl 0], [])) 2 hz rfl ?_
        have lp28 : ∀ (N : Nat) (i : Int) (t : Int), ((a1 - i).toNat) < N → (0 ≤ i ∧ i ≤ a1) → (t = eSm (fun j => M 110 j) i.toNat) → zH n (0, 0) 233 (28, [zR 97, .inr (.inl a1), zN, .inr (.inl t), zN, .inl i], []) M (fun r M' => r = some (.inr (.inl (w64 (eBst (eMd M).2.1 (eMd M).2.2.1 a1 + (eMd M).2.2.2)))) ∧ M' = M) := by
          intro N
          induction N with
          | zero => intro i t hN; exact absurd hN (Nat.not_lt_zero _)
          | succ N ih28 =>
            intro i t hN hi ht
            refine zH_w (c' := (33, [zR 97, .inr (.inl a1), zN, .inr (.inl t), zN, .inl i], [.inl (if a1 < i then 1 else if i = a1 then 0 else -1)])) 4 hz rfl ?_
            refine zH_wf_ge (pc := 33) (n' := 36) (t := 53) (L := [zR 97, .inr (.inl a1), zN, .inr (.inl t), zN, .inl i]) (st := []) (x := (if a1 < i then 1 else if i = a1 then 0 else -1)) 0 hz (by rfl) (fun hb33 => ?_) (fun hb33 => ?_)
            · skip
              rw [elc_ge] at hb33
              refine zH_w (c' := (59, [zR 97, .inr (.inl a1), zN, .inr (.inl t), zN, .inl i], [.inr (.inl a1), .inr (.inl (w64 (t * 100)))])) 4 hz rfl ?_
              refine zH_ldiv hz rfl (fun hdv59 => ?_)
              show zH n (0, 0) 233 (60, [zR 97, .inr (.inl a1), zN, .inr (.inl t), zN, .inl i], [.inr (.inl (w64 ((w64 (t * 100)).tdiv a1)))]) M _
              refine zH_w (c' := (61, [zR 97, .inr (.inl a1), zN, .inr (.inl (w64 ((w64 (t * 100)).tdiv a1))), zN, .inl i], [])) 1 hz rfl ?_
              refine lp61 (w64 ((w64 (t * 100)).tdiv a1)) (.inl i) ?_
              · unfold eMd eBst
                dsimp only
                first
                  | (rw [if_pos (show M 97 20 = 0 by omega), if_pos (by omega)])
                  | (rw [if_neg (show ¬ M 97 20 = 0 by omega), if_pos (by omega)])
                  | (rw [if_neg (show ¬ M 97 20 = 0 by omega), if_neg (by omega), ht, show i.toNat = a1.toNat by omega])
            · skip
              rw [elc_ge] at hb33
              refine zH_w (c' := (43, [zR 97, .inr (.inl a1), zN, .inr (.inl t), zN, .inl i], [.inl i, zR 110, .inr (.inl t)])) 4 hz rfl ?_
              refine zH_iald hz rfl rfl (.inl rfl) (fun hin43 => ?_)
              show zH n (0, 0) 233 (44, [zR 97, .inr (.inl a1), zN, .inr (.inl t), zN, .inl i], [.inl (M 110 (i : Int).toNat), .inr (.inl t)]) M _
              refine zH_w (c' := (28, [zR 97, .inr (.inl a1), zN, .inr (.inl (w64 (t + (M 110 (i : Int).toNat)))), zN, .inl (i + 1)], [])) 5 hz (by rw [show (.inl (i + 1) : zV) = .inl (w32 (i + 1)) from by rw [w32_id (by omega)]]; rfl) ?_
              refine ih28 (i + 1) (w64 (t + (M 110 (i : Int).toNat))) (by omega) ?_ ?_
              · omega
              · rw [show (i + 1).toNat = i.toNat + 1 by omega, ht]; rfl
        refine lp28 ((a1 + 1).toNat) 0 0 (by omega) ?_ ?_
        · omega
        · rfl
section MS
variable {Mo M : zM} {s : List Int} {x y v : Int}
noncomputable def mS (Mo : zM) (s : List Int) (M : zM) : Prop := (∀ r, r ≠ 97 → r ≠ 109 → M r = Mo r) ∧ (∀ j, j ≠ 16 → M 97 j = Mo 97 j) ∧ M 97 16 = (s.length : Int) ∧ xK (M 109) s
theorem mS.env (h : mS Mo s M) : eMd M = eMd Mo := by
  unfold eMd
  rw [h.1 108 (by decide) (by decide), h.1 110 (by decide) (by decide), h.2.1 20 (by decide), h.2.1 18 (by decide), h.2.1 19 (by decide)]
theorem mS.push (h : mS Mo s M) (hl : s.length ≤ 90) : mS Mo (x :: s) (zput (zput M 109 s.length x) 97 16 (w32 ((zput M 109 s.length x) 97 16 + 1))) := by
  obtain ⟨h1, h2, h3, h4⟩ := h
  rw [qput_ne (show (97 : Nat) ≠ 109 by decide), h3, w32_id (by omega)]
  refine ⟨fun r q1 q2 => by rw [zput_oth q1, zput_oth q2]; exact h1 r q1 q2, fun j q1 => by rw [qput_nk q1, qput_ne (by decide)]; exact h2 j q1, by rw [qput_eq, List.length_cons]; omega, ?_⟩
  rw [zput_oth (by decide), zput_same]
  exact ⟨hup_eq, h4.up (Nat.le_refl _)⟩
theorem mS.top (h : mS Mo (x :: s) M) (hl : s.length ≤ 90) : M 109 (w32 (M 97 16 - 1) : Int).toNat = x := by
  obtain ⟨h1, h2, h3, h4⟩ := h
  rw [List.length_cons] at h3
  rw [h3, w32_id (by omega), show (((s.length + 1 : Nat) : Int) - 1).toNat = s.length by omega]
  exact h4.1
theorem mS.set (h : mS Mo (x :: s) M) (hl : s.length ≤ 90) : mS Mo (v :: s) (zput M 109 (w32 (M 97 16 - 1) : Int).toNat v) := by
  obtain ⟨h1, h2, h3, h4⟩ := h
  rw [List.length_cons] at h3
  rw [h3, w32_id (by omega), show (((s.length + 1 : Nat) : Int) - 1).toNat = s.length by omega]
  refine ⟨fun r q1 q2 => by rw [zput_oth q2]; exact h1 r q1 q2, fun j q1 => by rw [qput_ne (by decide)]; exact h2 j q1, by rw [qput_ne (by decide), h3, List.length_cons], ?_⟩
  rw [zput_same]
  exact ⟨hup_eq, h4.2.up (Nat.le_refl _)⟩
/-- one or two are taken from the top: the cells stay -/
theorem mS.drop1 (h : mS Mo (x :: s) M) (hl : s.length ≤ 90) : mS Mo s (zput M 97 16 (w32 (M 97 16 - 1))) ∧ (zput M 97 16 (w32 (M 97 16 - 1))) 109 s.length = x ∧ (zput M 97 16 (w32 (M 97 16 - 1))) 97 16 = (s.length : Int) := by
  obtain ⟨h1, h2, h3, h4⟩ := h
  rw [List.length_cons] at h3
  rw [h3, w32_id (by omega), show ((s.length + 1 : Nat) : Int) - 1 = (s.length : Int) by omega]
  refine ⟨⟨fun r q1 q2 => by rw [zput_oth q1]; exact h1 r q1 q2, fun j q1 => by rw [qput_nk q1]; exact h2 j q1, qput_eq, by rw [zput_oth (by decide)]; exact h4.2⟩, by rw [zput_oth (by decide)]; exact h4.1, qput_eq⟩
theorem mS.drop2 (h : mS Mo (x :: y :: s) M) (hl : s.length ≤ 88) : mS Mo s (zput M 97 16 (w32 (M 97 16 - 2))) ∧ (zput M 97 16 (w32 (M 97 16 - 2))) 109 (s.length + 1) = x ∧ (zput M 97 16 (w32 (M 97 16 - 2))) 109 s.length = y ∧ (zput M 97 16 (w32 (M 97 16 - 2))) 97 16 = (s.length : Int) := by
  obtain ⟨h1, h2, h3, h4⟩ := h
  rw [List.length_cons, List.length_cons] at h3
  rw [h3, w32_id (by omega), show ((s.length + 1 + 1 : Nat) : Int) - 2 = (s.length : Int) by omega]
  refine ⟨⟨fun r q1 q2 => by rw [zput_oth q1]; exact h1 r q1 q2, fun j q1 => by rw [qput_nk q1]; exact h2 j q1, qput_eq, by rw [zput_oth (by decide)]; exact h4.2.2⟩, by rw [zput_oth (by decide)]; exact h4.1, by rw [zput_oth (by decide)]; exact h4.2.1, qput_eq⟩
theorem eYs {k : Int} (h : eOk k) : (ys k = 0 ↔ 0 ≤ k) ∧ (ys k = 1 ↔ (-15 ≤ k ∧ k ≤ -8)) ∧ (ys k = 2 ↔ k = -6) ∧ (ys k = 3 ↔ k = -27) ∧ (ys k = 4 ↔ k = -7) ∧ (ys k = 14 ↔ k = -3) ∧ (¬ 0 ≤ k → ¬ (-15 ≤ k ∧ k ≤ -8) → ys k = ysg (-k - 1)) := by
  refine ⟨?_, ?_, ?_, ?_, ?_, ?_, fun h1 h2 => by unfold ys; rw [if_neg h1, if_neg h2]⟩ <;> (unfold eOk at h; unfold ys ysg; constructor <;> intro q <;> omega)
theorem eNe {s : List Int} (h : 0 < s.length) : ∃ (x : Int) (t : List Int), s = x :: t := by
  cases s with
  | nil => exact absurd h (Nat.lt_irrefl _)
  | cons x t => exact ⟨x, t, rfl⟩
theorem eOp_le {e : eEn} {k : Int} (h : 0 ≤ k) : eOp e k s = k :: s := if_pos h
end MS
set_option maxRecDepth 100000 in
theorem fh_235_97 {n : Nat} {M : zM} {O : List Int} (hl : O.length ≤ 80) (hO : ∀ k ∈ O, eOk k) (hd : eD O = 1) (h7 : M 97 7 = (O.length : Int)) (hy : yC (M 105) (M 106) O) : zH n (0, 0) 235 (0, zini [zR 97] 3, []) M (fun r M' => r = some (.inr (.inl (eVal (eMd M) O))) ∧ (∀ r, r ≠ 97 → r ≠ 109 → M' r = M r) ∧ ∀ j, j ≠ 16 → M' 97 j = M 97 j) := by
  have hz := zp_235
  show zH n (0, 0) 235 (0, [zR 97, zN, zN], []) M _
  refine zH_w (c' := (7, [zR 97, .inl 0, zN], [])) 5 hz rfl ?_
  have lp7 : ∀ (N : Nat) (i : Int) (u2 : zV) (M5 : zM), ((81 - i).toNat) < N → (∃ A B : List Int, O = A ++ B ∧ i = (B.length : Int) ∧ mS M (eRun (eMd M) B) M5 ∧ (((eRun (eMd M) B).length : Nat) : Int) = eD B) → zH n (0, 0) 235 (7, [zR 97, .inl i, u2], []) M5 (fun r M' => r = some (.inr (.inl (eVal (eMd M) O))) ∧ (∀ r, r ≠ 97 → r ≠ 109 → M' r = M r) ∧ ∀ j, j ≠ 16 → M' 97 j = M 97 j) := by
    intro N
    induction N with
    | zero => intro i u2 M5 hN; exact absurd hN (Nat.not_lt_zero _)
    | succ N ih7 =>
      intro i u2 M5 hN hab
      refine zH_w (c' := (12, [zR 97, .inl i, u2], [.inl (M5 97 7), .inl i])) 3 hz rfl ?_
      obtain ⟨A, B, hA, hi, hm, hln⟩ := hab
      have hla : O.length = A.length + B.length := by rw [hA, List.length_append]
      have hrl := eRun_len (eMd M) B
      rw [show M5 97 7 = ((O.length : Nat) : Int) from (hm.2.1 7 (by decide)).trans h7]
      refine zH_icmp_ge hz rfl (fun hb12 => ?_) (fun hb12 => ?_)
      · skip
        refine zH_w (c' := (309, [zR 97, .inl i, u2], [.inl 0, zR 109])) 3 hz rfl ?_
        refine zH_lald hz rfl rfl (.inl rfl) (fun hin309 => ?_)
        show zH n (0, 0) 235 (310, [zR 97, .inl i, u2], [.inr (.inl (M5 109 (0 : Int).toNat))]) M5 _
        refine zH_ret hz rfl rfl ?_
        have hA0 : A = [] := List.eq_nil_of_length_eq_zero (by omega)
        rw [hA0] at hA
        have hOB : O = B := hA
        rw [← hOB, hd] at hln
        obtain ⟨x1, s1, es1⟩ := eNe (s := eRun (eMd M) O) (by omega)
        have hm2 : mS M (x1 :: s1) M5 := by rw [← es1, hOB]; exact hm
        rw [es1, List.length_cons] at hln
        have hs0 : s1 = [] := List.eq_nil_of_length_eq_zero (by omega)
        refine ⟨?_, hm.1, hm.2.1⟩
        rw [show eVal (eMd M) O = x1 from by unfold eVal; rw [es1]; rfl, ← hm2.2.2.2.1, hs0]
        rfl
      · skip
        obtain ⟨A1, k, hA1⟩ := eSplit (A := A) (fun q => by rw [q, List.length_nil] at hla; omega)
        have hOe : O = A1 ++ k :: B := by rw [hA, hA1]; exact List.append_assoc A1 [k] B
        have hOe1 : O = A1 ++ (k :: B) := hOe
        have hkO : eOk k := hO k (by rw [hOe]; exact List.mem_append_right _ (List.mem_cons_self ..))
        have hyk := yC_at (A := A1) (k := k) (B := B) (by rw [← hOe]; exact hy)
        obtain ⟨y0, y1, y2, y3, y4, y14, yel⟩ := eYs hkO
        have hnx := True.intro
        refine zH_w (c' := (20, [zR 97, .inl i, u2], [.inl i, zR 105])) 3 hz rfl ?_
        refine zH_iald hz rfl rfl (.inl rfl) (fun hin20 => ?_)
        show zH n (0, 0) 235 (21, [zR 97, .inl i, u2], [.inl (M5 105 (i : Int).toNat)]) M5 _
        rw [show M5 105 i.toNat = ys k from by rw [hm.1 105 (by decide) (by decide), hi, Int.toNat_natCast]; exact hyk.1]
        obtain ⟨w, hw⟩ : ∃ x : Int, x = (ys k) := ⟨_, rfl⟩
        rw [← hw]
        rw [← hw] at y0 y1 y2 y3 y4 y14
        refine zH_w (c' := (23, [zR 97, .inl i, .inl w], [.inl w])) 2 hz rfl ?_
        refine zH_wf_eq (pc := 23) (n' := 26) (t := 31) (L := [zR 97, .inl i, .inl w]) (st := []) (x := w) 0 hz (by rfl) (fun hb23 => ?_) (fun hb23 => ?_)
        · skip
          refine zH_w (c' := (39, [zR 97, .inl i, .inl w], [.inl (M5 97 16), zR 109])) 4 hz rfl ?_
          rw [hm.2.2.1]
          refine zH_w (c' := (40, [zR 97, .inl i, .inl w], [.inl w, .inl (((eRun (eMd M) B).length : Nat) : Int), zR 109])) 1 hz rfl ?_
          refine zH_wf_ne (pc := 40) (n' := 43) (t := 53) (L := [zR 97, .inl i, .inl w]) (st := [.inl (((eRun (eMd M) B).length : Nat) : Int), zR 109]) (x := w) 0 hz (by rfl) (fun hb40 => ?_) (fun hb40 => ?_)
          · skip
            refine zH_w (c' := (62, [zR 97, .inl i, .inl w], [.inl i, zR 106, zR 108, .inl (((eRun (eMd M) B).length : Nat) : Int), zR 109])) 5 hz rfl ?_
            refine zH_iald hz rfl rfl (.inl rfl) (fun hin62 => ?_)
            show zH n (0, 0) 235 (63, [zR 97, .inl i, .inl w], [.inl (M5 106 (i : Int).toNat), zR 108, .inl (((eRun (eMd M) B).length : Nat) : Int), zR 109]) M5 _
            rw [show M5 106 i.toNat = yv k from by rw [hm.1 106 (by decide) (by decide), hi, Int.toNat_natCast]; exact hyk.2]
            refine zH_lald hz rfl rfl (.inl rfl) (fun hin63 => ?_)
            show zH n (0, 0) 235 (64, [zR 97, .inl i, .inl w], [.inr (.inl (M5 108 ((yv k) : Int).toNat)), .inl (((eRun (eMd M) B).length : Nat) : Int), zR 109]) M5 _
            refine zH_last hz rfl rfl (fun hin64 => ?_)
            show zH n (0, 0) 235 (65, [zR 97, .inl i, .inl w], []) (zput M5 109 ((((eRun (eMd M) B).length : Nat) : Int) : Int).toNat (M5 108 ((yv k) : Int).toNat)) _
            refine zH_w (c' := (75, [zR 97, .inl i, .inl w], [])) 6 hz rfl ?_
            obtain ⟨M6, hM6⟩ : ∃ X : zM, X = zput (zput M5 109 ((((eRun (eMd M) B).length : Nat) : Int) : Int).toNat (M5 108 ((yv k) : Int).toNat)) 97 16 (w32 (((zput M5 109 ((((eRun (eMd M) B).length : Nat) : Int) : Int).toNat (M5 108 ((yv k) : Int).toNat)) 97 16) + 1)) := ⟨_, rfl⟩
            rw [← hM6]
            have hnx : ∃ A B : List Int, O = A ++ B ∧ i + 1 = (B.length : Int) ∧ mS M (eRun (eMd M) B) M6 ∧ (((eRun (eMd M) B).length : Nat) : Int) = eD B := by
              refine ⟨A1, k :: B, hOe1, by rw [List.length_cons]; omega, ?_, ?_⟩
              · rw [hM6, Int.toNat_natCast]
                show mS M (eOp (eMd M) k (eRun (eMd M) B)) _
                first
                  | (exfalso; omega)
                  | (have k0 : 0 ≤ k := by omega
                     rw [eOp_le k0, show yv k = k from if_pos k0]
                     exact hm.push (by omega))
                  | (have kn : -15 ≤ k ∧ k ≤ -8 := by omega
                     have en : eOp (eMd M) k (eRun (eMd M) B) = M5 108 (yv k).toNat :: eRun (eMd M) B := by
                       have q := eOp_nm (s := eRun (eMd M) B) (e := eMd M) (d := -k - 1) (by omega)
                       rw [show -(-k - 1) - 1 = k by omega] at q
                       rw [q, hm.1 108 (by decide) (by decide)]
                       show M 108 (-k - 1 - 7).toNat :: _ = _
                       rw [show yv k = -k - 8 from by unfold yv; rw [if_neg (by omega), if_pos kn], show -k - 1 - 7 = -k - 8 by omega]
                     rw [en]
                     exact hm.push (by omega))
              · show (((eOp (eMd M) k (eRun (eMd M) B)).length : Nat) : Int) = eD B + eDk k
                first
                  | (exfalso; omega)
                  | (have kk : 0 ≤ k ∨ (-15 ≤ k ∧ k ≤ -8) := by omega
                     rw [show eDk k = 1 from if_pos kk]
                     rcases kk with kk | kk
                     · rw [eOp_le kk, List.length_cons]; omega
                     · have q := eOp_nm (s := eRun (eMd M) B) (e := eMd M) (d := -k - 1) (by omega)
                       rw [show -(-k - 1) - 1 = k by omega] at q
                       rw [q, List.length_cons]; omega)
            refine zH_w (c' := (7, [zR 97, .inl (i + 1), .inl w], [])) 3 hz (by rw [show (.inl (i + 1) : zV) = .inl (w32 (i + 1)) from by rw [w32_id (by omega)]]; rfl) ?_
            refine ih7 (i + 1) (.inl w) M6 (by omega) ?_
            · first
                | (exfalso; omega)
                | exact hnx
          · skip
            refine zH_w (c' := (48, [zR 97, .inl i, .inl w], [.inl i, zR 106, .inl (((eRun (eMd M) B).length : Nat) : Int), zR 109])) 3 hz rfl ?_
            refine zH_iald hz rfl rfl (.inl rfl) (fun hin48 => ?_)
            show zH n (0, 0) 235 (49, [zR 97, .inl i, .inl w], [.inl (M5 106 (i : Int).toNat), .inl (((eRun (eMd M) B).length : Nat) : Int), zR 109]) M5 _
            rw [show M5 106 i.toNat = yv k from by rw [hm.1 106 (by decide) (by decide), hi, Int.toNat_natCast]; exact hyk.2]
            refine zH_w (c' := (64, [zR 97, .inl i, .inl w], [.inr (.inl (yv k)), .inl (((eRun (eMd M) B).length : Nat) : Int), zR 109])) 2 hz rfl ?_
            refine zH_last hz rfl rfl (fun hin64 => ?_)
            show zH n (0, 0) 235 (65, [zR 97, .inl i, .inl w], []) (zput M5 109 ((((eRun (eMd M) B).length : Nat) : Int) : Int).toNat (yv k)) _
            refine zH_w (c' := (75, [zR 97, .inl i, .inl w], [])) 6 hz rfl ?_
            obtain ⟨M6, hM6⟩ : ∃ X : zM, X = zput (zput M5 109 ((((eRun (eMd M) B).length : Nat) : Int) : Int).toNat (yv k)) 97 16 (w32 (((zput M5 109 ((((eRun (eMd M) B).length : Nat) : Int) : Int).toNat (yv k)) 97 16) + 1)) := ⟨_, rfl⟩
            rw [← hM6]
            have hnx : ∃ A B : List Int, O = A ++ B ∧ i + 1 = (B.length : Int) ∧ mS M (eRun (eMd M) B) M6 ∧ (((eRun (eMd M) B).length : Nat) : Int) = eD B := by
              refine ⟨A1, k :: B, hOe1, by rw [List.length_cons]; omega, ?_, ?_⟩
              · rw [hM6, Int.toNat_natCast]
                show mS M (eOp (eMd M) k (eRun (eMd M) B)) _
                first
                  | (exfalso; omega)
                  | (have k0 : 0 ≤ k := by omega
                     rw [eOp_le k0, show yv k = k from if_pos k0]
                     exact hm.push (by omega))
                  | (have kn : -15 ≤ k ∧ k ≤ -8 := by omega
                     have en : eOp (eMd M) k (eRun (eMd M) B) = M5 108 (yv k).toNat :: eRun (eMd M) B := by
                       have q := eOp_nm (s := eRun (eMd M) B) (e := eMd M) (d := -k - 1) (by omega)
                       rw [show -(-k - 1) - 1 = k by omega] at q
                       rw [q, hm.1 108 (by decide) (by decide)]
                       show M 108 (-k - 1 - 7).toNat :: _ = _
                       rw [show yv k = -k - 8 from by unfold yv; rw [if_neg (by omega), if_pos kn], show -k - 1 - 7 = -k - 8 by omega]
                     rw [en]
                     exact hm.push (by omega))
              · show (((eOp (eMd M) k (eRun (eMd M) B)).length : Nat) : Int) = eD B + eDk k
                first
                  | (exfalso; omega)
                  | (have kk : 0 ≤ k ∨ (-15 ≤ k ∧ k ≤ -8) := by omega
                     rw [show eDk k = 1 from if_pos kk]
                     rcases kk with kk | kk
                     · rw [eOp_le kk, List.length_cons]; omega
                     · have q := eOp_nm (s := eRun (eMd M) B) (e := eMd M) (d := -k - 1) (by omega)
                       rw [show -(-k - 1) - 1 = k by omega] at q
                       rw [q, List.length_cons]; omega)
            refine zH_w (c' := (7, [zR 97, .inl (i + 1), .inl w], [])) 3 hz (by rw [show (.inl (i + 1) : zV) = .inl (w32 (i + 1)) from by rw [w32_id (by omega)]]; rfl) ?_
            refine ih7 (i + 1) (.inl w) M6 (by omega) ?_
            · first
                | (exfalso; omega)
                | exact hnx
        · skip
          refine zH_wi_ne (pc := 28) (n' := 31) (t := 78) (L := [zR 97, .inl i, .inl w]) (st := []) (x := w) (y := 1) 2 hz (by rfl) (fun hb28 => ?_) (fun hb28 => ?_)
          · skip
            refine zH_wi_ne (pc := 80) (n' := 83) (t := 118) (L := [zR 97, .inl i, .inl w]) (st := []) (x := w) (y := 2) 2 hz (by rfl) (fun hb80 => ?_) (fun hb80 => ?_)
            · skip
              refine zH_wi_ne (pc := 120) (n' := 123) (t := 149) (L := [zR 97, .inl i, .inl w]) (st := []) (x := w) (y := 3) 2 hz (by rfl) (fun hb120 => ?_) (fun hb120 => ?_)
              · skip
                refine zH_wi_ne (pc := 151) (n' := 154) (t := 183) (L := [zR 97, .inl i, .inl w]) (st := []) (x := w) (y := 4) 2 hz (by rfl) (fun hb151 => ?_) (fun hb151 => ?_)
                · skip
                  refine zH_wi_ne (pc := 186) (n' := 189) (t := 252) (L := [zR 97, .inl i, .inl w]) (st := []) (x := w) (y := 14) 2 hz (by rfl) (fun hb186 => ?_) (fun hb186 => ?_)
                  · skip
                    have kq : k < 0 := by omega
                    have kq2 : ¬ (-15 ≤ k ∧ k ≤ -3) ∨ k = -4 ∨ k = -5 := by omega
                    have kq3 : ¬ k = -27 := by omega
                    have ew : w = ysg (-k - 1) := by rw [hw]; exact yel (by omega) (by omega)
                    have kd : -k - 1 = 0 ∨ -k - 1 = 3 ∨ -k - 1 = 4 ∨ -k - 1 = 15 ∨ -k - 1 = 16 ∨ -k - 1 = 17 ∨ -k - 1 = 18 ∨ -k - 1 = 19 ∨ -k - 1 = 20 ∨ -k - 1 = 21 := by unfold eOk at hkO; omega
                    refine zH_w (c' := (262, [zR 97, .inl i, .inl w], [])) 6 hz rfl ?_
                    obtain ⟨M6, hM6⟩ : ∃ X : zM, X = zput M5 97 16 (w32 ((M5 97 16) - 1)) := ⟨_, rfl⟩
                    rw [← hM6]
                    have h616 : M6 97 16 = w32 (M5 97 16 - 1) := by rw [hM6]; exact qput_eq
                    refine zH_w (c' := (284, [zR 97, .inl i, .inl w], [.inl (w32 ((M6 97 16) - 1)), zR 109, .inl w, zR 97, .inl (w32 ((M6 97 16) - 1)), zR 109])) 14 hz rfl ?_
                    refine zH_lald hz rfl rfl (.inl rfl) (fun hin284 => ?_)
                    show zH n (0, 0) 235 (285, [zR 97, .inl i, .inl w], [.inr (.inl (M6 109 (w32 ((M6 97 16) - 1) : Int).toNat)), .inl w, zR 97, .inl (w32 ((M6 97 16) - 1)), zR 109]) M6 _
                    have q16 := hm.2.2.1
                    have w16 := w32_id (x := M5 97 16 - 1) (by omega)
                    have w17 := w32_id (x := M6 97 16 - 1) (by omega)
                    obtain ⟨x1, s1, es1⟩ := eNe (s := eRun (eMd M) B) (by omega)
                    rw [es1] at hm hln hrl q16
                    rw [List.length_cons] at hln hrl q16
                    obtain ⟨d1, d2, d4⟩ := hm.drop1 (by omega)
                    rw [← hM6] at d1 d2 d4
                    obtain ⟨x2, s2, es2⟩ := eNe (s := s1) (by omega)
                    rw [es2] at d1 hln hrl
                    rw [List.length_cons] at hln hrl
                    rw [d1.top (by omega)]
                    refine zH_w (c' := (293, [zR 97, .inl i, .inl w], [.inl (M6 97 16), zR 109, .inr (.inl x2), .inl w, zR 97, .inl (w32 ((M6 97 16) - 1)), zR 109])) 4 hz rfl ?_
                    refine zH_lald hz rfl rfl (.inl rfl) (fun hin293 => ?_)
                    show zH n (0, 0) 235 (294, [zR 97, .inl i, .inl w], [.inr (.inl (M6 109 (M6 97 16 : Int).toNat)), .inr (.inl x2), .inl w, zR 97, .inl (w32 ((M6 97 16) - 1)), zR 109]) M6 _
                    rw [show M6 109 (M6 97 16).toNat = x1 from by rw [d4, Int.toNat_natCast]; exact d2]
                    refine zH_wE (c1 := (297, [zR 97, .inl i, .inl w], [.inl (w32 ((M6 97 16) - 1)), zR 109])) 0 hz zp_234 (fh_234_97 w x2 x1) (by rfl) ?_
                    show zH n (0, 0) 235 (297, [zR 97, .inl i, .inl w], [.inr (.inl (hf_234_97 M6 w x2 x1)), .inl (w32 ((M6 97 16) - 1)), zR 109]) M6 _
                    rw [show hf_234_97 M6 w x2 x1 = eTw (-k - 1) x2 x1 from by rw [ew]; exact e234 kd]
                    refine zH_last hz rfl rfl (fun hin297 => ?_)
                    show zH n (0, 0) 235 (298, [zR 97, .inl i, .inl w], []) (zput M6 109 (w32 ((M6 97 16) - 1) : Int).toNat (eTw (-k - 1) x2 x1)) _
                    obtain ⟨M9, hM9⟩ : ∃ X : zM, X = zput M6 109 (w32 ((M6 97 16) - 1) : Int).toNat (eTw (-k - 1) x2 x1) := ⟨_, rfl⟩
                    rw [← hM9]
                    have hnx : ∃ A B : List Int, O = A ++ B ∧ i + 1 = (B.length : Int) ∧ mS M (eRun (eMd M) B) M9 ∧ (((eRun (eMd M) B).length : Nat) : Int) = eD B := by
                      refine ⟨A1, k :: B, hOe1, by rw [List.length_cons]; omega, ?_, ?_⟩
                      · show mS M (eOp (eMd M) k (eRun (eMd M) B)) _
                        rw [eOp_tw kq kq2 kq3, es1, es2, hM9]
                        exact d1.set (by omega)
                      · show (((eOp (eMd M) k (eRun (eMd M) B)).length : Nat) : Int) = eD B + eDk k
                        rw [eOp_tw kq kq2 kq3, es1, es2, show eDk k = -1 from by unfold eDk eWt; (repeat' split) <;> omega]
                        simp only [List.length_cons, List.tail_cons]
                        omega
                    refine zH_w (c' := (7, [zR 97, .inl (i + 1), .inl w], [])) 2 hz (by rw [show (.inl (i + 1) : zV) = .inl (w32 (i + 1)) from by rw [w32_id (by omega)]]; rfl) ?_
                    refine ih7 (i + 1) (.inl w) M9 (by omega) ?_
                    · first
                        | (exfalso; omega)
                        | exact hnx
                  · skip
                    have kq : k = -3 := by omega
                    refine zH_w (c' := (199, [zR 97, .inl i, .inl w], [])) 6 hz rfl ?_
                    obtain ⟨M6, hM6⟩ : ∃ X : zM, X = zput M5 97 16 (w32 ((M5 97 16) - 2)) := ⟨_, rfl⟩
                    rw [← hM6]
                    have h616 : M6 97 16 = w32 (M5 97 16 - 2) := by rw [hM6]; exact qput_eq
                    refine zH_w (c' := (217, [zR 97, .inl i, .inl w], [.inl (M6 97 16), zR 109, .inl (w32 ((M6 97 16) - 1)), zR 109])) 10 hz rfl ?_
                    refine zH_lald hz rfl rfl (.inl rfl) (fun hin217 => ?_)
                    show zH n (0, 0) 235 (218, [zR 97, .inl i, .inl w], [.inr (.inl (M6 109 (M6 97 16 : Int).toNat)), .inl (w32 ((M6 97 16) - 1)), zR 109]) M6 _
                    have q16 := hm.2.2.1
                    have w16 := w32_id (x := M5 97 16 - 2) (by omega)
                    obtain ⟨x1, s1, es1⟩ := eNe (s := eRun (eMd M) B) (by omega)
                    rw [es1] at hm hln hrl q16
                    rw [List.length_cons] at hln hrl q16
                    obtain ⟨x2, s2, es2⟩ := eNe (s := s1) (by omega)
                    rw [es2] at hm hln hrl q16
                    rw [List.length_cons] at hln hrl q16
                    obtain ⟨d1, d2, d3, d4⟩ := hm.drop2 (by omega)
                    rw [← hM6] at d1 d2 d3 d4
                    rw [show M6 109 (M6 97 16).toNat = x2 from by rw [d4, Int.toNat_natCast]; exact d3]
                    refine zH_w (c' := (220, [zR 97, .inl i, .inl w], [.inl (if 0 < x2 then 1 else if x2 = 0 then 0 else -1), .inl (w32 ((M6 97 16) - 1)), zR 109])) 2 hz rfl ?_
                    refine zH_wf_eq (pc := 220) (n' := 223) (t := 237) (L := [zR 97, .inl i, .inl w]) (st := [.inl (w32 ((M6 97 16) - 1)), zR 109]) (x := (if 0 < x2 then 1 else if x2 = 0 then 0 else -1)) 0 hz (by rfl) (fun hb220 => ?_) (fun hb220 => ?_)
                    · skip
                      rw [elc_eq] at hb220
                      refine zH_w (c' := (247, [zR 97, .inl i, .inl w], [.inl (w32 ((M6 97 16) + 1)), zR 109, .inl (w32 ((M6 97 16) - 1)), zR 109])) 6 hz rfl ?_
                      refine zH_lald hz rfl rfl (.inl rfl) (fun hin247 => ?_)
                      show zH n (0, 0) 235 (248, [zR 97, .inl i, .inl w], [.inr (.inl (M6 109 (w32 ((M6 97 16) + 1) : Int).toNat)), .inl (w32 ((M6 97 16) - 1)), zR 109]) M6 _
                      rw [show M6 109 (w32 (M6 97 16 + 1)).toNat = x1 from by rw [d4, w32_id (by omega), show (((s2.length : Nat) : Int) + 1).toNat = s2.length + 1 by omega]; exact d2]
                      refine zH_last hz rfl rfl (fun hin248 => ?_)
                      show zH n (0, 0) 235 (249, [zR 97, .inl i, .inl w], []) (zput M6 109 (w32 ((M6 97 16) - 1) : Int).toNat x1) _
                      have w6 := w32_id (x := M6 97 16 - 1) (by omega)
                      obtain ⟨x3, s3, es3⟩ := eNe (s := s2) (by omega)
                      rw [es3] at d1 hrl hln
                      rw [List.length_cons] at hrl hln
                      obtain ⟨M9, hM9⟩ : ∃ X : zM, X = zput M6 109 (w32 ((M6 97 16) - 1) : Int).toNat x1 := ⟨_, rfl⟩
                      rw [← hM9]
                      have hnx : ∃ A B : List Int, O = A ++ B ∧ i + 1 = (B.length : Int) ∧ mS M (eRun (eMd M) B) M9 ∧ (((eRun (eMd M) B).length : Nat) : Int) = eD B := by
                        refine ⟨A1, k :: B, hOe1, by rw [List.length_cons]; omega, ?_, ?_⟩
                        · show mS M (eOp (eMd M) k (eRun (eMd M) B)) _
                          rw [eOp_el kq, es1, es2, es3, hM9]
                          first
                            | (rw [show (x1 :: x2 :: x3 :: s3).tail.headD 0 = x2 from rfl, show (x1 :: x2 :: x3 :: s3).headD 0 = x1 from rfl, if_pos (by omega)]; exact d1.set (by omega))
                            | (rw [show (x1 :: x2 :: x3 :: s3).tail.headD 0 = x2 from rfl, show (x1 :: x2 :: x3 :: s3).tail.tail.headD 0 = x3 from rfl, if_neg (by omega)]; exact d1.set (by omega))
                        · show (((eOp (eMd M) k (eRun (eMd M) B)).length : Nat) : Int) = eD B + eDk k
                          rw [eOp_el kq, es1, es2, es3, show eDk k = -2 from by unfold eDk eWt; (repeat' split) <;> omega]
                          simp only [List.length_cons, List.tail_cons]
                          omega
                      refine zH_w (c' := (7, [zR 97, .inl (i + 1), .inl w], [])) 3 hz (by rw [show (.inl (i + 1) : zV) = .inl (w32 (i + 1)) from by rw [w32_id (by omega)]]; rfl) ?_
                      refine ih7 (i + 1) (.inl w) M9 (by omega) ?_
                      · first
                          | (exfalso; omega)
                          | exact hnx
                    · skip
                      rw [elc_eq] at hb220
                      refine zH_w (c' := (233, [zR 97, .inl i, .inl w], [.inl (w32 ((M6 97 16) - 1)), zR 109, .inl (w32 ((M6 97 16) - 1)), zR 109])) 6 hz rfl ?_
                      refine zH_lald hz rfl rfl (.inl rfl) (fun hin233 => ?_)
                      show zH n (0, 0) 235 (234, [zR 97, .inl i, .inl w], [.inr (.inl (M6 109 (w32 ((M6 97 16) - 1) : Int).toNat)), .inl (w32 ((M6 97 16) - 1)), zR 109]) M6 _
                      have w6 := w32_id (x := M6 97 16 - 1) (by omega)
                      obtain ⟨x3, s3, es3⟩ := eNe (s := s2) (by omega)
                      rw [es3] at d1 hrl hln
                      rw [List.length_cons] at hrl hln
                      rw [d1.top (by omega)]
                      refine zH_w (c' := (248, [zR 97, .inl i, .inl w], [.inr (.inl x3), .inl (w32 ((M6 97 16) - 1)), zR 109])) 1 hz rfl ?_
                      refine zH_last hz rfl rfl (fun hin248 => ?_)
                      show zH n (0, 0) 235 (249, [zR 97, .inl i, .inl w], []) (zput M6 109 (w32 ((M6 97 16) - 1) : Int).toNat x3) _
                      obtain ⟨M9, hM9⟩ : ∃ X : zM, X = zput M6 109 (w32 ((M6 97 16) - 1) : Int).toNat x3 := ⟨_, rfl⟩
                      rw [← hM9]
                      have hnx : ∃ A B : List Int, O = A ++ B ∧ i + 1 = (B.length : Int) ∧ mS M (eRun (eMd M) B) M9 ∧ (((eRun (eMd M) B).length : Nat) : Int) = eD B := by
                        refine ⟨A1, k :: B, hOe1, by rw [List.length_cons]; omega, ?_, ?_⟩
                        · show mS M (eOp (eMd M) k (eRun (eMd M) B)) _
                          rw [eOp_el kq, es1, es2, es3, hM9]
                          first
                            | (rw [show (x1 :: x2 :: x3 :: s3).tail.headD 0 = x2 from rfl, show (x1 :: x2 :: x3 :: s3).headD 0 = x1 from rfl, if_pos (by omega)]; exact d1.set (by omega))
                            | (rw [show (x1 :: x2 :: x3 :: s3).tail.headD 0 = x2 from rfl, show (x1 :: x2 :: x3 :: s3).tail.tail.headD 0 = x3 from rfl, if_neg (by omega)]; exact d1.set (by omega))
                        · show (((eOp (eMd M) k (eRun (eMd M) B)).length : Nat) : Int) = eD B + eDk k
                          rw [eOp_el kq, es1, es2, es3, show eDk k = -2 from by unfold eDk eWt; (repeat' split) <;> omega]
                          simp only [List.length_cons, List.tail_cons]
                          omega
                      refine zH_w (c' := (7, [zR 97, .inl (i + 1), .inl w], [])) 3 hz (by rw [show (.inl (i + 1) : zV) = .inl (w32 (i + 1)) from by rw [w32_id (by omega)]]; rfl) ?_
                      refine ih7 (i + 1) (.inl w) M9 (by omega) ?_
                      · first
                          | (exfalso; omega)
                          | exact hnx
                · skip
                  have kq : k = -7 := by omega
                  refine zH_w (c' := (175, [zR 97, .inl i, .inl w], [.inl (w32 ((M5 97 16) - 1)), zR 109, zR 97, .inl (w32 ((M5 97 16) - 1)), zR 109])) 13 hz rfl ?_
                  refine zH_lald hz rfl rfl (.inl rfl) (fun hin175 => ?_)
                  show zH n (0, 0) 235 (176, [zR 97, .inl i, .inl w], [.inr (.inl (M5 109 (w32 ((M5 97 16) - 1) : Int).toNat)), zR 97, .inl (w32 ((M5 97 16) - 1)), zR 109]) M5 _
                  obtain ⟨x1, s1, es1⟩ := eNe (s := eRun (eMd M) B) (by have := hm.2.2.1; have q := w32_id (x := M5 97 16 - 1) (by omega); omega)
                  rw [es1] at hm hln hrl
                  rw [List.length_cons] at hln hrl
                  rw [hm.top (by omega)]
                  refine zH_wE (c1 := (179, [zR 97, .inl i, .inl w], [.inl (w32 ((M5 97 16) - 1)), zR 109])) 0 hz zp_233 (fh_233_97 x1) (by rfl) ?_
                  show zH n (0, 0) 235 (179, [zR 97, .inl i, .inl w], [.inr (.inl (w64 (eBst (eMd M5).2.1 (eMd M5).2.2.1 x1 + (eMd M5).2.2.2))), .inl (w32 ((M5 97 16) - 1)), zR 109]) M5 _
                  rw [hm.env]
                  refine zH_last hz rfl rfl (fun hin179 => ?_)
                  show zH n (0, 0) 235 (180, [zR 97, .inl i, .inl w], []) (zput M5 109 (w32 ((M5 97 16) - 1) : Int).toNat (w64 (eBst (eMd M).2.1 (eMd M).2.2.1 x1 + (eMd M).2.2.2))) _
                  obtain ⟨M9, hM9⟩ : ∃ X : zM, X = zput M5 109 (w32 ((M5 97 16) - 1) : Int).toNat (w64 (eBst (eMd M).2.1 (eMd M).2.2.1 x1 + (eMd M).2.2.2)) := ⟨_, rfl⟩
                  rw [← hM9]
                  have hnx : ∃ A B : List Int, O = A ++ B ∧ i + 1 = (B.length : Int) ∧ mS M (eRun (eMd M) B) M9 ∧ (((eRun (eMd M) B).length : Nat) : Int) = eD B := by
                    refine ⟨A1, k :: B, hOe1, by rw [List.length_cons]; omega, ?_, ?_⟩
                    · show mS M (eOp (eMd M) k (eRun (eMd M) B)) _
                      rw [eOp_be kq, es1, hM9]
                      exact hm.set (by omega)
                    · show (((eOp (eMd M) k (eRun (eMd M) B)).length : Nat) : Int) = eD B + eDk k
                      rw [eOp_be kq, es1, show eDk k = 0 from by unfold eDk eWt; (repeat' split) <;> omega]
                      simp only [List.length_cons, List.tail_cons]
                      omega
                  refine zH_w (c' := (7, [zR 97, .inl (i + 1), .inl w], [])) 3 hz (by rw [show (.inl (i + 1) : zV) = .inl (w32 (i + 1)) from by rw [w32_id (by omega)]]; rfl) ?_
                  refine ih7 (i + 1) (.inl w) M9 (by omega) ?_
                  · first
                      | (exfalso; omega)
                      | exact hnx
              · skip
                have kq : k = -27 := by omega
                refine zH_w (c' := (143, [zR 97, .inl i, .inl w], [.inl (w32 ((M5 97 16) - 1)), zR 109, .inl (w32 ((M5 97 16) - 1)), zR 109])) 12 hz rfl ?_
                refine zH_lald hz rfl rfl (.inl rfl) (fun hin143 => ?_)
                show zH n (0, 0) 235 (144, [zR 97, .inl i, .inl w], [.inr (.inl (M5 109 (w32 ((M5 97 16) - 1) : Int).toNat)), .inl (w32 ((M5 97 16) - 1)), zR 109]) M5 _
                obtain ⟨x1, s1, es1⟩ := eNe (s := eRun (eMd M) B) (by have := hm.2.2.1; have q := w32_id (x := M5 97 16 - 1) (by omega); omega)
                rw [es1] at hm hln hrl
                rw [List.length_cons] at hln hrl
                rw [hm.top (by omega)]
                refine zH_w (c' := (145, [zR 97, .inl i, .inl w], [.inr (.inl (w64 (-x1))), .inl (w32 ((M5 97 16) - 1)), zR 109])) 1 hz rfl ?_
                refine zH_last hz rfl rfl (fun hin145 => ?_)
                show zH n (0, 0) 235 (146, [zR 97, .inl i, .inl w], []) (zput M5 109 (w32 ((M5 97 16) - 1) : Int).toNat (w64 (-x1))) _
                obtain ⟨M9, hM9⟩ : ∃ X : zM, X = zput M5 109 (w32 ((M5 97 16) - 1) : Int).toNat (w64 (-x1)) := ⟨_, rfl⟩
                rw [← hM9]
                have hnx : ∃ A B : List Int, O = A ++ B ∧ i + 1 = (B.length : Int) ∧ mS M (eRun (eMd M) B) M9 ∧ (((eRun (eMd M) B).length : Nat) : Int) = eD B := by
                  refine ⟨A1, k :: B, hOe1, by rw [List.length_cons]; omega, ?_, ?_⟩
                  · show mS M (eOp (eMd M) k (eRun (eMd M) B)) _
                    rw [eOp_ne kq, es1, hM9]
                    exact hm.set (by omega)
                  · show (((eOp (eMd M) k (eRun (eMd M) B)).length : Nat) : Int) = eD B + eDk k
                    rw [eOp_ne kq, es1, show eDk k = 0 from by unfold eDk eWt; (repeat' split) <;> omega]
                    simp only [List.length_cons, List.tail_cons]
                    omega
                refine zH_w (c' := (7, [zR 97, .inl (i + 1), .inl w], [])) 3 hz (by rw [show (.inl (i + 1) : zV) = .inl (w32 (i + 1)) from by rw [w32_id (by omega)]]; rfl) ?_
                refine ih7 (i + 1) (.inl w) M9 (by omega) ?_
                · first
                    | (exfalso; omega)
                    | exact hnx
            · skip
              have kq : k = -6 := by omega
              refine zH_w (c' := (103, [zR 97, .inl i, .inl w], [.inl (w32 ((M5 97 16) - 1)), zR 109, .inl (w32 ((M5 97 16) - 1)), zR 109])) 12 hz rfl ?_
              refine zH_lald hz rfl rfl (.inl rfl) (fun hin103 => ?_)
              show zH n (0, 0) 235 (104, [zR 97, .inl i, .inl w], [.inr (.inl (M5 109 (w32 ((M5 97 16) - 1) : Int).toNat)), .inl (w32 ((M5 97 16) - 1)), zR 109]) M5 _
              obtain ⟨x1, s1, es1⟩ := eNe (s := eRun (eMd M) B) (by have := hm.2.2.1; have q := w32_id (x := M5 97 16 - 1) (by omega); omega)
              rw [es1] at hm hln hrl
              rw [List.length_cons] at hln hrl
              rw [hm.top (by omega)]
              refine zH_w (c' := (106, [zR 97, .inl i, .inl w], [.inl (if 0 < x1 then 1 else if x1 = 0 then 0 else -1), .inl (w32 ((M5 97 16) - 1)), zR 109])) 2 hz rfl ?_
              refine zH_wf_ne (pc := 106) (n' := 109) (t := 113) (L := [zR 97, .inl i, .inl w]) (st := [.inl (w32 ((M5 97 16) - 1)), zR 109]) (x := (if 0 < x1 then 1 else if x1 = 0 then 0 else -1)) 0 hz (by rfl) (fun hb106 => ?_) (fun hb106 => ?_)
              · skip
                rw [elc_eq] at hb106
                refine zH_w (c' := (114, [zR 97, .inl i, .inl w], [.inr (.inl 0), .inl (w32 ((M5 97 16) - 1)), zR 109])) 1 hz rfl ?_
                refine zH_last hz rfl rfl (fun hin114 => ?_)
                show zH n (0, 0) 235 (115, [zR 97, .inl i, .inl w], []) (zput M5 109 (w32 ((M5 97 16) - 1) : Int).toNat 0) _
                obtain ⟨M9, hM9⟩ : ∃ X : zM, X = zput M5 109 (w32 ((M5 97 16) - 1) : Int).toNat 0 := ⟨_, rfl⟩
                rw [← hM9]
                have hnx : ∃ A B : List Int, O = A ++ B ∧ i + 1 = (B.length : Int) ∧ mS M (eRun (eMd M) B) M9 ∧ (((eRun (eMd M) B).length : Nat) : Int) = eD B := by
                  refine ⟨A1, k :: B, hOe1, by rw [List.length_cons]; omega, ?_, ?_⟩
                  · show mS M (eOp (eMd M) k (eRun (eMd M) B)) _
                    rw [eOp_no kq, es1, hM9]
                    first
                      | (rw [show (x1 :: s1).headD 0 = x1 from rfl, if_pos (by omega)]; exact hm.set (by omega))
                      | (rw [show (x1 :: s1).headD 0 = x1 from rfl, if_neg (by omega)]; exact hm.set (by omega))
                  · show (((eOp (eMd M) k (eRun (eMd M) B)).length : Nat) : Int) = eD B + eDk k
                    rw [eOp_no kq, es1, show eDk k = 0 from by unfold eDk eWt; (repeat' split) <;> omega]
                    simp only [List.length_cons, List.tail_cons]
                    omega
                refine zH_w (c' := (7, [zR 97, .inl (i + 1), .inl w], [])) 3 hz (by rw [show (.inl (i + 1) : zV) = .inl (w32 (i + 1)) from by rw [w32_id (by omega)]]; rfl) ?_
                refine ih7 (i + 1) (.inl w) M9 (by omega) ?_
                · first
                    | (exfalso; omega)
                    | exact hnx
              · skip
                rw [elc_eq] at hb106
                refine zH_w (c' := (114, [zR 97, .inl i, .inl w], [.inr (.inl 1), .inl (w32 ((M5 97 16) - 1)), zR 109])) 2 hz rfl ?_
                refine zH_last hz rfl rfl (fun hin114 => ?_)
                show zH n (0, 0) 235 (115, [zR 97, .inl i, .inl w], []) (zput M5 109 (w32 ((M5 97 16) - 1) : Int).toNat 1) _
                obtain ⟨M9, hM9⟩ : ∃ X : zM, X = zput M5 109 (w32 ((M5 97 16) - 1) : Int).toNat 1 := ⟨_, rfl⟩
                rw [← hM9]
                have hnx : ∃ A B : List Int, O = A ++ B ∧ i + 1 = (B.length : Int) ∧ mS M (eRun (eMd M) B) M9 ∧ (((eRun (eMd M) B).length : Nat) : Int) = eD B := by
                  refine ⟨A1, k :: B, hOe1, by rw [List.length_cons]; omega, ?_, ?_⟩
                  · show mS M (eOp (eMd M) k (eRun (eMd M) B)) _
                    rw [eOp_no kq, es1, hM9]
                    first
                      | (rw [show (x1 :: s1).headD 0 = x1 from rfl, if_pos (by omega)]; exact hm.set (by omega))
                      | (rw [show (x1 :: s1).headD 0 = x1 from rfl, if_neg (by omega)]; exact hm.set (by omega))
                  · show (((eOp (eMd M) k (eRun (eMd M) B)).length : Nat) : Int) = eD B + eDk k
                    rw [eOp_no kq, es1, show eDk k = 0 from by unfold eDk eWt; (repeat' split) <;> omega]
                    simp only [List.length_cons, List.tail_cons]
                    omega
                refine zH_w (c' := (7, [zR 97, .inl (i + 1), .inl w], [])) 3 hz (by rw [show (.inl (i + 1) : zV) = .inl (w32 (i + 1)) from by rw [w32_id (by omega)]]; rfl) ?_
                refine ih7 (i + 1) (.inl w) M9 (by omega) ?_
                · first
                    | (exfalso; omega)
                    | exact hnx
          · skip
            refine zH_w (c' := (39, [zR 97, .inl i, .inl w], [.inl (M5 97 16), zR 109])) 4 hz rfl ?_
            rw [hm.2.2.1]
            refine zH_w (c' := (40, [zR 97, .inl i, .inl w], [.inl w, .inl (((eRun (eMd M) B).length : Nat) : Int), zR 109])) 1 hz rfl ?_
            refine zH_wf_ne (pc := 40) (n' := 43) (t := 53) (L := [zR 97, .inl i, .inl w]) (st := [.inl (((eRun (eMd M) B).length : Nat) : Int), zR 109]) (x := w) 0 hz (by rfl) (fun hb40 => ?_) (fun hb40 => ?_)
            · skip
              refine zH_w (c' := (62, [zR 97, .inl i, .inl w], [.inl i, zR 106, zR 108, .inl (((eRun (eMd M) B).length : Nat) : Int), zR 109])) 5 hz rfl ?_
              refine zH_iald hz rfl rfl (.inl rfl) (fun hin62 => ?_)
              show zH n (0, 0) 235 (63, [zR 97, .inl i, .inl w], [.inl (M5 106 (i : Int).toNat), zR 108, .inl (((eRun (eMd M) B).length : Nat) : Int), zR 109]) M5 _
              rw [show M5 106 i.toNat = yv k from by rw [hm.1 106 (by decide) (by decide), hi, Int.toNat_natCast]; exact hyk.2]
              refine zH_lald hz rfl rfl (.inl rfl) (fun hin63 => ?_)
              show zH n (0, 0) 235 (64, [zR 97, .inl i, .inl w], [.inr (.inl (M5 108 ((yv k) : Int).toNat)), .inl (((eRun (eMd M) B).length : Nat) : Int), zR 109]) M5 _
              refine zH_last hz rfl rfl (fun hin64 => ?_)
              show zH n (0, 0) 235 (65, [zR 97, .inl i, .inl w], []) (zput M5 109 ((((eRun (eMd M) B).length : Nat) : Int) : Int).toNat (M5 108 ((yv k) : Int).toNat)) _
              refine zH_w (c' := (75, [zR 97, .inl i, .inl w], [])) 6 hz rfl ?_
              obtain ⟨M6, hM6⟩ : ∃ X : zM, X = zput (zput M5 109 ((((eRun (eMd M) B).length : Nat) : Int) : Int).toNat (M5 108 ((yv k) : Int).toNat)) 97 16 (w32 (((zput M5 109 ((((eRun (eMd M) B).length : Nat) : Int) : Int).toNat (M5 108 ((yv k) : Int).toNat)) 97 16) + 1)) := ⟨_, rfl⟩
              rw [← hM6]
              have hnx : ∃ A B : List Int, O = A ++ B ∧ i + 1 = (B.length : Int) ∧ mS M (eRun (eMd M) B) M6 ∧ (((eRun (eMd M) B).length : Nat) : Int) = eD B := by
                refine ⟨A1, k :: B, hOe1, by rw [List.length_cons]; omega, ?_, ?_⟩
                · rw [hM6, Int.toNat_natCast]
                  show mS M (eOp (eMd M) k (eRun (eMd M) B)) _
                  first
                    | (exfalso; omega)
                    | (have k0 : 0 ≤ k := by omega
                       rw [eOp_le k0, show yv k = k from if_pos k0]
                       exact hm.push (by omega))
                    | (have kn : -15 ≤ k ∧ k ≤ -8 := by omega
                       have en : eOp (eMd M) k (eRun (eMd M) B) = M5 108 (yv k).toNat :: eRun (eMd M) B := by
                         have q := eOp_nm (s := eRun (eMd M) B) (e := eMd M) (d := -k - 1) (by omega)
                         rw [show -(-k - 1) - 1 = k by omega] at q
                         rw [q, hm.1 108 (by decide) (by decide)]
                         show M 108 (-k - 1 - 7).toNat :: _ = _
                         rw [show yv k = -k - 8 from by unfold yv; rw [if_neg (by omega), if_pos kn], show -k - 1 - 7 = -k - 8 by omega]
                       rw [en]
                       exact hm.push (by omega))
                · show (((eOp (eMd M) k (eRun (eMd M) B)).length : Nat) : Int) = eD B + eDk k
                  first
                    | (exfalso; omega)
                    | (have kk : 0 ≤ k ∨ (-15 ≤ k ∧ k ≤ -8) := by omega
                       rw [show eDk k = 1 from if_pos kk]
                       rcases kk with kk | kk
                       · rw [eOp_le kk, List.length_cons]; omega
                       · have q := eOp_nm (s := eRun (eMd M) B) (e := eMd M) (d := -k - 1) (by omega)
                         rw [show -(-k - 1) - 1 = k by omega] at q
                         rw [q, List.length_cons]; omega)
              refine zH_w (c' := (7, [zR 97, .inl (i + 1), .inl w], [])) 3 hz (by rw [show (.inl (i + 1) : zV) = .inl (w32 (i + 1)) from by rw [w32_id (by omega)]]; rfl) ?_
              refine ih7 (i + 1) (.inl w) M6 (by omega) ?_
              · first
                  | (exfalso; omega)
                  | exact hnx
            · skip
              refine zH_w (c' := (48, [zR 97, .inl i, .inl w], [.inl i, zR 106, .inl (((eRun (eMd M) B).length : Nat) : Int), zR 109])) 3 hz rfl ?_
              refine zH_iald hz rfl rfl (.inl rfl) (fun hin48 => ?_)
              show zH n (0, 0) 235 (49, [zR 97, .inl i, .inl w], [.inl (M5 106 (i : Int).toNat), .inl (((eRun (eMd M) B).length : Nat) : Int), zR 109]) M5 _
              rw [show M5 106 i.toNat = yv k from by rw [hm.1 106 (by decide) (by decide), hi, Int.toNat_natCast]; exact hyk.2]
              refine zH_w (c' := (64, [zR 97, .inl i, .inl w], [.inr (.inl (yv k)), .inl (((eRun (eMd M) B).length : Nat) : Int), zR 109])) 2 hz rfl ?_
              refine zH_last hz rfl rfl (fun hin64 => ?_)
              show zH n (0, 0) 235 (65, [zR 97, .inl i, .inl w], []) (zput M5 109 ((((eRun (eMd M) B).length : Nat) : Int) : Int).toNat (yv k)) _
              refine zH_w (c' := (75, [zR 97, .inl i, .inl w], [])) 6 hz rfl ?_
              obtain ⟨M6, hM6⟩ : ∃ X : zM, X = zput (zput M5 109 ((((eRun (eMd M) B).length : Nat) : Int) : Int).toNat (yv k)) 97 16 (w32 (((zput M5 109 ((((eRun (eMd M) B).length : Nat) : Int) : Int).toNat (yv k)) 97 16) + 1)) := ⟨_, rfl⟩
              rw [← hM6]
              have hnx : ∃ A B : List Int, O = A ++ B ∧ i + 1 = (B.length : Int) ∧ mS M (eRun (eMd M) B) M6 ∧ (((eRun (eMd M) B).length : Nat) : Int) = eD B := by
                refine ⟨A1, k :: B, hOe1, by rw [List.length_cons]; omega, ?_, ?_⟩
                · rw [hM6, Int.toNat_natCast]
                  show mS M (eOp (eMd M) k (eRun (eMd M) B)) _
                  first
                    | (exfalso; omega)
                    | (have k0 : 0 ≤ k := by omega
                       rw [eOp_le k0, show yv k = k from if_pos k0]
                       exact hm.push (by omega))
                    | (have kn : -15 ≤ k ∧ k ≤ -8 := by omega
                       have en : eOp (eMd M) k (eRun (eMd M) B) = M5 108 (yv k).toNat :: eRun (eMd M) B := by
                         have q := eOp_nm (s := eRun (eMd M) B) (e := eMd M) (d := -k - 1) (by omega)
                         rw [show -(-k - 1) - 1 = k by omega] at q
                         rw [q, hm.1 108 (by decide) (by decide)]
                         show M 108 (-k - 1 - 7).toNat :: _ = _
                         rw [show yv k = -k - 8 from by unfold yv; rw [if_neg (by omega), if_pos kn], show -k - 1 - 7 = -k - 8 by omega]
                       rw [en]
                       exact hm.push (by omega))
                · show (((eOp (eMd M) k (eRun (eMd M) B)).length : Nat) : Int) = eD B + eDk k
                  first
                    | (exfalso; omega)
                    | (have kk : 0 ≤ k ∨ (-15 ≤ k ∧ k ≤ -8) := by omega
                       rw [show eDk k = 1 from if_pos kk]
                       rcases kk with kk | kk
                       · rw [eOp_le kk, List.length_cons]; omega
                       · have q := eOp_nm (s := eRun (eMd M) B) (e := eMd M) (d := -k - 1) (by omega)
                         rw [show -(-k - 1) - 1 = k by omega] at q
                         rw [q, List.length_cons]; omega)
              refine zH_w (c' := (7, [zR 97, .inl (i + 1), .inl w], [])) 3 hz (by rw [show (.inl (i + 1) : zV) = .inl (w32 (i + 1)) from by rw [w32_id (by omega)]]; rfl) ?_
              refine ih7 (i + 1) (.inl w) M6 (by omega) ?_
              · first
                  | (exfalso; omega)
                  | exact hnx
  refine lp7 (82) 0 zN (zput M 97 16 0) (by omega) ?_
  · exact ⟨O, [], (List.append_nil O).symm, rfl, ⟨fun r q1 q2 => zput_oth q1, fun j q1 => qput_nk q1, qput_eq, trivial⟩, rfl⟩
