/-! A TEXT READ: WHAT IT COMES TO -/
noncomputable def xrK (k : Int) : Int := if k = 0 then 1 else if k = 2 then 2 else if k = 3 then 3 else if k = 4 then 4 else if k = 5 ∨ k = 6 ∨ k = 26 then 8 else if k = 15 ∨ k = 16 ∨ k = 17 then 5 else if k = 18 ∨ k = 19 then 6 else if k = 20 ∨ k = 21 then 7 else 0
noncomputable def xrE (r : Int) : List Int → List Int → List Int × List Int
  | [], O => ([], O)
  | k :: W, O => if r ≤ xrK k then xrE r W ((-k - 1) :: O) else (k :: W, O)
noncomputable def xrT : List Int → Int
  | [] => -1
  | k :: _ => k
noncomputable def xrB (c : Nat → Int) : Nat → Nat → Nat
  | 0, i => i
  | k + 1, i => if c i = 32 then xrB c k (i + 1) else i
noncomputable def xrD (c : Nat → Int) : Nat → Nat → Nat
  | 0, i => i
  | k + 1, i => if 48 ≤ c i ∧ c i ≤ 57 then xrD c k (i + 1) else i
noncomputable def xrL (c : Nat → Int) : Nat → Nat → Nat
  | 0, i => i
  | k + 1, i => if 97 ≤ c i ∧ c i ≤ 122 then xrL c k (i + 1) else i
noncomputable def xrV (c : Nat → Int) (s : Nat) : Nat → Int
  | 0 => 0
  | k + 1 => w32 (w32 (w32 (10 * xrV c s k) + c (s + k)) - 48)
noncomputable def xrWl : List Int := [117, 110, 108, 101, 115, 115, 32, 105, 102, 32, 101, 108, 115, 101, 32, 111, 114, 32, 97, 110, 100, 32, 110, 111, 116, 32, 98, 101, 115, 116, 32, 109, 97, 114, 107, 32, 116, 114, 105, 101, 115, 32, 101, 120, 99, 117, 115, 101, 100, 32, 108, 101, 97, 110, 115, 32, 99, 111, 117, 114, 115, 101, 32, 99, 114, 101, 100, 105, 116, 32, 109, 101, 97, 110, 32, 112, 97, 115, 115, 101, 100, 32]
noncomputable def xrR (c : Nat → Int) (s e : Nat) : List Int → Int → Nat → Bool → Int
  | [], _, _, _ => -1
  | x :: l, v, a, k => if x = 32 then (if k = true ∧ a = e then v else xrR c s e l (v + 1) s true) else xrR c s e l v (a + 1) (k && decide (a < e) && decide (c a = x))
noncomputable def xrW (c : Nat → Int) (s e : Nat) : Int := xrR c s e xrWl 0 s true
noncomputable def xrG (x : Int) : Int := if x = 60 then 15 else if x = 62 then 16 else if x = 61 then 17 else if x = 43 then 18 else if x = 45 then 19 else if x = 42 then 20 else if x = 47 then 21 else if x = 40 then 22 else if x = 41 then 23 else 14
/-- the next word, number or sign: it begins at s; where it ends, what it is, what is wrong with it, what it is worth -/
noncomputable def xEn (c : Nat → Int) (L s : Nat) : Nat := if L ≤ s then s else if 48 ≤ c s ∧ c s ≤ 57 then xrD c (L - s) s else if 97 ≤ c s ∧ c s ≤ 122 then xrL c (L - s) s else s + 1
noncomputable def xKd (c : Nat → Int) (L s : Nat) : Int := if L ≤ s then 25 else if 48 ≤ c s ∧ c s ≤ 57 then 24 else if 97 ≤ c s ∧ c s ≤ 122 then xrW c s (xrL c (L - s) s) else xrG (c s)
noncomputable def xWy (c : Nat → Int) (L s : Nat) : Int := if L ≤ s then 0 else if 48 ≤ c s ∧ c s ≤ 57 then 0 else if 97 ≤ c s ∧ c s ≤ 122 then (if xrW c s (xrL c (L - s) s) = -1 then 4 else 0) else if xrG (c s) = 14 then 1 else 0
noncomputable def xVl (c : Nat → Int) (L s : Nat) : Int := xrV c s (xrD c (L - s) s - s)
theorem xrB_r (c : Nat → Int) : ∀ k i : Nat, i ≤ xrB c k i ∧ xrB c k i ≤ i + k
  | 0, i => ⟨Nat.le_refl _, Nat.le_refl _⟩
  | k + 1, i => by have q := xrB_r c k (i + 1); unfold xrB; split <;> omega
theorem xrD_r (c : Nat → Int) : ∀ k i : Nat, i ≤ xrD c k i ∧ xrD c k i ≤ i + k
  | 0, i => ⟨Nat.le_refl _, Nat.le_refl _⟩
  | k + 1, i => by have q := xrD_r c k (i + 1); unfold xrD; split <;> omega
theorem xrL_r (c : Nat → Int) : ∀ k i : Nat, i ≤ xrL c k i ∧ xrL c k i ≤ i + k
  | 0, i => ⟨Nat.le_refl _, Nat.le_refl _⟩
  | k + 1, i => by have q := xrL_r c k (i + 1); unfold xrL; split <;> omega
theorem xrB_y {c : Nat → Int} {L j : Nat} (hj : j < L) (h : c j = 32) : xrB c (L - j) j = xrB c (L - (j + 1)) (j + 1) := by
  rw [show L - j = (L - (j + 1)) + 1 by omega]; exact if_pos h
theorem xrB_n {c : Nat → Int} {L j : Nat} (h : j < L → ¬ c j = 32) : xrB c (L - j) j = j := by
  by_cases hj : j < L
  · rw [show L - j = (L - (j + 1)) + 1 by omega]; exact if_neg (h hj)
  · rw [show L - j = 0 by omega]; rfl
theorem xrD_y {c : Nat → Int} {L j : Nat} (hj : j < L) (h : 48 ≤ c j ∧ c j ≤ 57) : xrD c (L - j) j = xrD c (L - (j + 1)) (j + 1) := by
  rw [show L - j = (L - (j + 1)) + 1 by omega]; exact if_pos h
theorem xrD_n {c : Nat → Int} {L j : Nat} (h : j < L → ¬ (48 ≤ c j ∧ c j ≤ 57)) : xrD c (L - j) j = j := by
  by_cases hj : j < L
  · rw [show L - j = (L - (j + 1)) + 1 by omega]; exact if_neg (h hj)
  · rw [show L - j = 0 by omega]; rfl
theorem xrL_y {c : Nat → Int} {L j : Nat} (hj : j < L) (h : 97 ≤ c j ∧ c j ≤ 122) : xrL c (L - j) j = xrL c (L - (j + 1)) (j + 1) := by
  rw [show L - j = (L - (j + 1)) + 1 by omega]; exact if_pos h
theorem xrL_n {c : Nat → Int} {L j : Nat} (h : j < L → ¬ (97 ≤ c j ∧ c j ≤ 122)) : xrL c (L - j) j = j := by
  by_cases hj : j < L
  · rw [show L - j = (L - (j + 1)) + 1 by omega]; exact if_neg (h hj)
  · rw [show L - j = 0 by omega]; rfl
/-- a state of the reading: place, a unit is due, open ones, what waits, what was told, the fault (-1: none), the end was seen -/
abbrev xSt : Type := Nat × Bool × Int × List Int × List Int × Int × Bool
noncomputable def xUn (s e : Nat) (kd v op : Int) (W O : List Int) : xSt :=
  if kd = 24 then (if 6 < (e : Int) - s then (e, true, op, W, O, 10 * (s : Int) + 2, false) else (e, false, op, W, v :: O, -1, false))
  else if 7 ≤ kd ∧ kd ≤ 14 then (e, false, op, W, (-kd - 1) :: O, -1, false)
  else if kd = 5 ∨ kd = 6 then (e, true, op, kd :: W, O, -1, false)
  else if kd = 19 then (e, true, op, 26 :: W, O, -1, false)
  else if kd = 22 then (if 8 ≤ op then (e, true, op, W, O, 10 * (s : Int) + 3, false) else (e, true, op + 1, 22 :: W, O, -1, false))
  else (e, true, op, W, O, 10 * (s : Int) + 1, false)
noncomputable def xBh (s e : Nat) (kd op : Int) (W O : List Int) : xSt :=
  if kd = 3 ∨ kd = 4 ∨ kd = 18 ∨ kd = 19 ∨ kd = 20 ∨ kd = 21 then (e, true, op, kd :: (xrE (xrK kd) W O).1, (xrE (xrK kd) W O).2, -1, false)
  else if kd = 15 ∨ kd = 16 ∨ kd = 17 then (if xrK (xrT (xrE 6 W O).1) = 5 then (e, false, op, W, O, 10 * (s : Int) + 1, false) else (e, true, op, kd :: (xrE 6 W O).1, (xrE 6 W O).2, -1, false))
  else if kd = 1 then (if xrT (xrE 3 W O).1 = 1 then (e, false, op, W, O, 10 * (s : Int) + 1, false) else (e, true, op, 1 :: (xrE 3 W O).1, (xrE 3 W O).2, -1, false))
  else if kd = 2 then (if xrT (xrE 3 W O).1 = 1 then (e, true, op, 2 :: (xrE 3 W O).1.tail, (xrE 3 W O).2, -1, false) else (e, false, op, W, O, 10 * (s : Int) + 1, false))
  else if kd = 0 then (if xrT (xrE 3 W O).1 = 1 then (e, false, op, W, O, 10 * (s : Int) + 1, false) else (e, true, op, 0 :: (xrE 1 (xrE 3 W O).1 (xrE 3 W O).2).1, (xrE 1 (xrE 3 W O).1 (xrE 3 W O).2).2, -1, false))
  else if kd = 23 then (if xrT (xrE 3 W O).1 = 1 ∨ ¬ xrT (xrE 1 (xrE 3 W O).1 (xrE 3 W O).2).1 = 22 then (e, false, op, W, O, 10 * (s : Int) + 1, false) else (e, false, op - 1, (xrE 1 (xrE 3 W O).1 (xrE 3 W O).2).1.tail, (xrE 1 (xrE 3 W O).1 (xrE 3 W O).2).2, -1, false))
  else if kd = 25 then (if xrT (xrE 3 W O).1 = 1 ∨ ¬ (xrE 1 (xrE 3 W O).1 (xrE 3 W O).2).1 = [] then (e, false, op, W, O, 10 * (s : Int) + 1, false) else (e, false, op, [], (xrE 1 (xrE 3 W O).1 (xrE 3 W O).2).2, -1, true))
  else (e, false, op, W, O, 10 * (s : Int) + 1, false)
noncomputable def xSp (c : Nat → Int) (L : Nat) (S : xSt) : xSt :=
  if S.2.2.2.2.2.1 ≠ -1 ∨ S.2.2.2.2.2.2 = true then S
  else if xWy c L (xrB c (L - S.1) S.1) ≠ 0 then (xEn c L (xrB c (L - S.1) S.1), S.2.1, S.2.2.1, S.2.2.2.1, S.2.2.2.2.1, 10 * ((xrB c (L - S.1) S.1 : Nat) : Int) + xWy c L (xrB c (L - S.1) S.1), false)
  else if S.2.1 = true then xUn (xrB c (L - S.1) S.1) (xEn c L (xrB c (L - S.1) S.1)) (xKd c L (xrB c (L - S.1) S.1)) (xVl c L (xrB c (L - S.1) S.1)) S.2.2.1 S.2.2.2.1 S.2.2.2.2.1
  else xBh (xrB c (L - S.1) S.1) (xEn c L (xrB c (L - S.1) S.1)) (xKd c L (xrB c (L - S.1) S.1)) S.2.2.1 S.2.2.2.1 S.2.2.2.2.1
noncomputable def xIt (c : Nat → Int) (L : Nat) : Nat → xSt
  | 0 => (0, true, 0, [], [], -1, false)
  | t + 1 => xSp c L (xIt c L t)
theorem xIt_done (c : Nat → Int) (L t : Nat) (h : (xIt c L t).2.2.2.2.2.1 ≠ -1 ∨ (xIt c L t).2.2.2.2.2.2 = true) : ∀ k : Nat, xIt c L (t + k) = xIt c L t
  | 0 => rfl
  | k + 1 => by
    show xSp c L (xIt c L (t + k)) = _
    rw [xIt_done c L t h k]
    exact if_pos h
noncomputable def xK (f : Nat → Int) : List Int → Prop
  | [] => True
  | k :: W => f W.length = k ∧ xK f W
noncomputable def xC (f : Nat → Int) : List Int → Prop
  | [] => True
  | k :: O => f (1 + O.length) = k ∧ xC f O
theorem xFt_ex (c : Nat → Int) (L : Nat) : ∃ v : Int, v = (xIt c L 81).2.2.2.2.2.1 := ⟨_, rfl⟩
noncomputable def xFt (c : Nat → Int) (L : Nat) : Int := Classical.choose (xFt_ex c L)
theorem xFt_81 (c : Nat → Int) (L : Nat) : xFt c L = (xIt c L 81).2.2.2.2.2.1 := Classical.choose_spec (xFt_ex c L)
/-- what was told of a text: the last first -/
theorem xTd_ex (c : Nat → Int) (L : Nat) : ∃ v : List Int, v = (xIt c L 81).2.2.2.2.1 := ⟨_, rfl⟩
noncomputable def xTd (c : Nat → Int) (L : Nat) : List Int := Classical.choose (xTd_ex c L)
theorem xTd_81 (c : Nat → Int) (L : Nat) : xTd c L = (xIt c L 81).2.2.2.2.1 := Classical.choose_spec (xTd_ex c L)
theorem xC.cg {f f' : Nat → Int} : ∀ {O : List Int}, xC f O → (∀ j, j ≤ O.length → f' j = f j) → xC f' O
  | [], _, _ => trivial
  | _ :: O, h, e => ⟨by rw [e (1 + O.length) (by rw [List.length_cons]; omega)]; exact h.1, xC.cg h.2 (fun j hj => e j (by rw [List.length_cons]; omega))⟩
/-- the codes where no ordinance binds -/
noncomputable def pPas : List Int := [-5, -11, -17, 39, -8]
noncomputable def pCls : List Int := [-22, 10, -13]
noncomputable def pCon (M : zM) : Prop := (M 78 2 = 5 ∧ M 78 83 = 3) ∧ xC (fun j => M 78 (2 + j)) pPas ∧ xC (fun j => M 78 (83 + j)) pCls
