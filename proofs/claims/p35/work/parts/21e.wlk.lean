/-! ROUNDS OF STEPS WITH WHAT ENDS THEM (a call, a choice, a return), WALKING ON WITH THE LIST: ALL RUN BY THE KERNEL -/
def zrisA (lo : Nat) (l : List zE) : Bool :=
  match l with
  | [] => true
  | e :: l' => Nat.ble lo e.1 && zrisA (e.1 + 1) l'
theorem zrisA_mem : ∀ (l : List zE) (lo : Nat), zrisA lo l = true → ∀ e, e ∈ l → lo ≤ e.1
  | [], _, _, e, h => by cases h
  | x :: l, lo, hr, e, h => by
    have hr2 : (Nat.ble lo x.1 && zrisA (x.1 + 1) l) = true := hr
    rw [Bool.and_eq_true, Nat.ble_eq] at hr2
    rcases List.mem_cons.mp h with h1 | h1
    · rw [h1]; exact hr2.1
    · have := zrisA_mem l (x.1 + 1) hr2.2 e h1
      omega
theorem zris_all : zPL.all (fun p => zrisA 0 p.1) = true := by decide +kernel
theorem zris_P (μ : Nat) : zrisA 0 (zP μ).1 = true := by
  unfold zP
  rw [List.getD_eq_getElem?_getD]
  cases h : zPL[μ]? with
  | none => rfl
  | some p => exact (List.all_eq_true.mp zris_all) p (List.mem_of_getElem? h)
theorem zat_suf : ∀ (a l : List zE) (e : zE) (lo : Nat), zrisA lo (a ++ e :: l) = true → zat (a ++ e :: l) e.1 = some e
  | [], l, e, _, _ => by
    show (match Nat.beq e.1 e.1 with | true => some e | false => zat l e.1) = some e
    rw [Nat.beq_refl]
  | x :: a, l, e, lo, h => by
    have h' : (Nat.ble lo x.1 && zrisA (x.1 + 1) (a ++ e :: l)) = true := h
    rw [Bool.and_eq_true] at h'
    have hm := zrisA_mem _ _ h'.2 e (List.mem_append_right a List.mem_cons_self)
    show (match Nat.beq x.1 e.1 with | true => some x | false => zat (a ++ e :: l) e.1) = some e
    have hb : Nat.beq x.1 e.1 = false := by
      cases h3 : Nat.beq x.1 e.1 with
      | false => rfl
      | true => have := Nat.eq_of_beq_eq_true h3; omega
    rw [hb]
    exact zat_suf a l e _ h'.2
/-- the rest of the list that begins at a place -/
def zdr (l : List zE) (pc : Nat) : List zE :=
  match l with
  | [] => []
  | e :: l' => match Nat.beq e.1 pc with
    | true => e :: l'
    | false => zdr l' pc
theorem zdr_suf : ∀ (l : List zE) (pc : Nat), ∃ a, l = a ++ zdr l pc
  | [], _ => ⟨[], rfl⟩
  | x :: l, pc => by
    show ∃ a, x :: l = a ++ (match Nat.beq x.1 pc with | true => x :: l | false => zdr l pc)
    cases Nat.beq x.1 pc with
    | true => exact ⟨[], rfl⟩
    | false =>
      obtain ⟨a, h⟩ := zdr_suf l pc
      exact ⟨x :: a, congrArg (List.cons x) h⟩
theorem zdr_at : ∀ (l : List zE) (pc : Nat) (e : zE) (l' : List zE), zdr l pc = e :: l' → e.1 = pc
  | [], _, _, _, h => by cases h
  | x :: l, pc, e, l', h => by
    have h' : (match Nat.beq x.1 pc with | true => x :: l | false => zdr l pc) = e :: l' := h
    cases hb : Nat.beq x.1 pc with
    | true => rw [hb] at h'; cases h'; exact Nat.eq_of_beq_eq_true hb
    | false => rw [hb] at h'; exact zdr_at l pc e l' h'
def zgt (code l : List zE) (pc : Nat) : List zE :=
  match l with
  | [] => zdr code pc
  | e :: l' => match Nat.beq e.1 pc with
    | true => e :: l'
    | false => zdr code pc
theorem zgt_at {code l l' : List zE} {pc : Nat} {e : zE} (hr : zrisA 0 code = true) (hl : ∃ a, code = a ++ l) (h : zgt code l pc = e :: l') : zat code pc = some e ∧ ∃ a, code = a ++ l' := by
  have key : ∀ s, (∃ a, code = a ++ s) → s = e :: l' → e.1 = pc → zat code pc = some e ∧ ∃ a, code = a ++ l' := by
    rintro s ⟨a, ha⟩ rfl rfl
    refine ⟨?_, a ++ [e], ha.trans (by simp)⟩
    have h1 := zat_suf a l' e 0 (by rw [← ha]; exact hr)
    rw [← ha] at h1
    exact h1
  cases l with
  | nil => exact key _ (zdr_suf code pc) h (zdr_at _ _ _ _ h)
  | cons x l1 =>
    have h' : (match Nat.beq x.1 pc with | true => x :: l1 | false => zdr code pc) = e :: l' := h
    cases hb : Nat.beq x.1 pc with
    | true => rw [hb] at h'; exact key _ hl h' (by cases h'; exact Nat.eq_of_beq_eq_true hb)
    | false => rw [hb] at h'; exact key _ (zdr_suf code pc) h' (zdr_at _ _ _ _ h')
/-- k steps; then the instruction that stands there -/
def zwl (code : List zE) (B : Nat × Nat) : Nat → List zE → zC → zW → Option (zE × zC × zW)
  | 0, l, c, w => match zgt code l c.1 with
    | [] => none
    | e :: _ => some (e, c, w)
  | k + 1, l, c, w => match zgt code l c.1 with
    | [] => none
    | e :: l' => match zst true B e c.2.1 c.2.2 w with
      | some (.inl (c', w')) => zwl code B k l' c' w'
      | _ => none
theorem zwl_ok {code : List zE} {B : Nat × Nat} (hr : zrisA 0 code = true) : ∀ (k : Nat) (l : List zE) (c : zC) (w : zW) (e : zE) (c' : zC) (w' : zW), (∃ a, code = a ++ l) → zwl code B k l c w = some (e, c', w') → zsteps code B k c w = some (c', w') ∧ zat code c'.1 = some e := by
  intro k
  induction k with
  | zero =>
    intro l c w e c' w' hl h
    unfold zwl at h
    cases hg : zgt code l c.1 with
    | nil => rw [hg] at h; cases h
    | cons x l' =>
      rw [hg] at h
      dsimp only at h
      cases h
      exact ⟨rfl, (zgt_at hr hl hg).1⟩
  | succ k ih =>
    intro l c w e c' w' hl h
    unfold zwl at h
    cases hg : zgt code l c.1 with
    | nil => rw [hg] at h; cases h
    | cons x l' =>
      rw [hg] at h
      dsimp only at h
      have hx := zgt_at hr hl hg
      unfold zsteps
      rw [hx.1]
      dsimp only
      cases hz : zst true B x c.2.1 c.2.2 w with
      | none => rw [hz] at h; cases h
      | some o =>
        rw [hz] at h
        rcases o with ⟨c2, w2⟩ | v
        · exact ih l' c2 w2 e c' w' hx.2 h
        · cases h
def zwc (B : Nat × Nat) (m : Nat) (o : Option (zE × zC × zW)) : Option (Nat × List zV × zC × zW) :=
  match o with
  | none => none
  | some (e, c, w) => match zst true B e c.2.1 c.2.2 w with
    | some (.inr (.inr (y, as, c1))) => (match Nat.ble (zsum as) m with
      | true => some (y, as, c1, w)
      | false => none)
    | _ => none
def zwr (B : Nat × Nat) (o : Option (zE × zC × zW)) : Option (Option zV × zW) :=
  match o with
  | none => none
  | some (e, c, w) => match zst true B e c.2.1 c.2.2 w with
    | some (.inr (.inl r)) => some (r, w)
    | _ => none
def zwi (o : Option (zE × zC × zW)) : Option (Jvm.ClassFile.Cond × Nat × Nat × zC × zW) :=
  match o with
  | some ((_, .if_icmp k _, n', (t, _)), c, w) => some (k, n', t, c, w)
  | _ => none
def zwf (o : Option (zE × zC × zW)) : Option (Jvm.ClassFile.Cond × Nat × Nat × zC × zW) :=
  match o with
  | some ((_, .ifCond k _, n', (t, _)), c, w) => some (k, n', t, c, w)
  | _ => none
def zwm (o : Option (zE × zC × zW)) : Option (zC × zW) :=
  match o with
  | some (_, c, w) => some (c, w)
  | none => none
theorem zwc_ex {B : Nat × Nat} {m y : Nat} {o : Option (zE × zC × zW)} {as : List zV} {c1 : zC} {w : zW} (h : zwc B m o = some (y, as, c1, w)) : ∃ e c, o = some (e, c, w) ∧ zst true B e c.2.1 c.2.2 w = some (.inr (.inr (y, as, c1))) ∧ zsum as ≤ m := by
  unfold zwc at h
  split at h
  · cases h
  · split at h
    · rename_i hz
      split at h
      · rename_i hb
        cases h
        exact ⟨_, _, rfl, hz, Nat.le_of_ble_eq_true hb⟩
      · cases h
    · cases h
theorem zwr_ex {B : Nat × Nat} {o : Option (zE × zC × zW)} {r : Option zV} {w : zW} (h : zwr B o = some (r, w)) : ∃ e c, o = some (e, c, w) ∧ zst true B e c.2.1 c.2.2 w = some (.inr (.inl r)) := by
  unfold zwr at h
  split at h
  · cases h
  · split at h
    · rename_i hz
      cases h
      exact ⟨_, _, rfl, hz⟩
    · cases h
theorem zwi_ex {o : Option (zE × zC × zW)} {kd : Jvm.ClassFile.Cond} {n' t : Nat} {c : zC} {w : zW} (h : zwi o = some (kd, n', t, c, w)) : ∃ p off x, o = some ((p, .if_icmp kd off, n', (t, x)), c, w) := by
  unfold zwi at h
  split at h
  · cases h
    exact ⟨_, _, _, rfl⟩
  · cases h
theorem zwf_ex {o : Option (zE × zC × zW)} {kd : Jvm.ClassFile.Cond} {n' t : Nat} {c : zC} {w : zW} (h : zwf o = some (kd, n', t, c, w)) : ∃ p off x, o = some ((p, .ifCond kd off, n', (t, x)), c, w) := by
  unfold zwf at h
  split at h
  · cases h
    exact ⟨_, _, _, rfl⟩
  · cases h
theorem zwm_ex {o : Option (zE × zC × zW)} {c : zC} {w : zW} (h : zwm o = some (c, w)) : ∃ e, o = some (e, c, w) := by
  unfold zwm at h
  split at h
  · cases h
    exact ⟨_, rfl⟩
  · cases h
section BM
variable {n : Nat} {d μ : Nat} {Q : Option zV → zM → Prop} {M : zM} {code : List zE} {mL : Nat} {B : Nat × Nat}
theorem zris_of (hm : zP μ = (code, mL, B)) : zrisA 0 code = true := by
  have h1 := zris_P μ
  rw [hm] at h1
  exact h1
theorem zwl_go {ct : Nat × Nat} {k : Nat} {c c' : zC} {e : zE} (hd : 0 < d) (hm : zP μ = (code, mL, B)) (h : zwl code B k [] c (zSH n, M, ct.1, ct.2) = some (e, c', (zSH n, M, ct.1, ct.2))) (K : zat code c'.1 = some e → zG n ct d μ c' M Q) : zG n ct d μ c M Q := by
  have h1 := zwl_ok (zris_of hm) k [] c _ e c' _ ⟨code, (List.append_nil code).symm⟩ h
  exact zG_blk k hd hm h1.1 (K h1.2)
theorem zG_w {ct : Nat × Nat} (k : Nat) {c c' : zC} (hd : 0 < d) (hm : zP μ = (code, mL, B)) (h : zwm (zwl code B k [] c (zSH n, M, ct.1, ct.2)) = some (c', (zSH n, M, ct.1, ct.2))) (K : zG n ct d μ c' M Q) : zG n ct d μ c M Q := by
  obtain ⟨e, ho⟩ := zwm_ex h
  exact zwl_go hd hm ho (fun _ => K)
theorem zG_wc (k : Nat) {c c1 : zC} {y : Nat} {as : List zV} {code' : List zE} {mL' : Nat} {Q1 : Option zV → zM → Prop} (hd : 0 < d) (hm : zP μ = (code, mL, B)) (hm' : zP y = (code', mL', (0, 0))) (hc : zG n (0, 0) (d - 1) y (0, zini as mL', []) M Q1) (h : zwc B mL' (zwl code B k [] c (zSH n, M, 0, 0)) = some (y, as, c1, (zSH n, M, 0, 0))) (K : ∀ r M1, Q1 r M1 → zG n (0, 0) d μ (c1.1, c1.2.1, r.toList ++ c1.2.2) M1 Q) : zG n (0, 0) d μ c M Q := by
  obtain ⟨e, ⟨pc, L, st⟩, ho, hz, hb⟩ := zwc_ex h
  exact zwl_go (ct := (0, 0)) hd hm ho (fun he => zG_call (ct := (0, 0)) hd hm hm' he hz hb ⟨Nat.zero_le _, Nat.zero_le _⟩ hc K)
theorem zG_wr (k : Nat) {c : zC} {r : Option zV} (hd : 0 < d) (hm : zP μ = (code, mL, B)) (h : zwr B (zwl code B k [] c (zSH n, M, 0, 0)) = some (r, (zSH n, M, 0, 0))) (hq : Q r M) : zG n (0, 0) d μ c M Q := by
  obtain ⟨e, ⟨pc, L, st⟩, ho, hz⟩ := zwr_ex h
  exact zwl_go (ct := (0, 0)) hd hm ho (fun he => zG_ret (ct := (0, 0)) hd hm he hz hq)
/-- of an int alone -/
theorem zG_wf {kd : Jvm.ClassFile.Cond} (k : Nat) {c : zC} {pc n' t : Nat} {L st : List zV} {x : Int} (hd : 0 < d) (hm : zP μ = (code, mL, B)) (h : zwf (zwl code B k [] c (zSH n, M, 0, 0)) = some (kd, n', t, (pc, L, .inl x :: st), (zSH n, M, 0, 0))) (Kt : zcmp kd x 0 = true → zG n (0, 0) d μ (t, L, st) M Q) (Kf : zcmp kd x 0 = false → zG n (0, 0) d μ (n', L, st) M Q) : zG n (0, 0) d μ c M Q := by
  obtain ⟨p, off, x3, ho⟩ := zwf_ex h
  refine zwl_go (ct := (0, 0)) hd hm ho (fun he => ?_)
  cases hb : zcmp kd x 0 with
  | true => exact zG_one (ct := (0, 0)) hd hm he (show zjmp (zcmp kd x 0) n' t L st _ = _ by rw [hb]; rfl) (Kt hb)
  | false => exact zG_one (ct := (0, 0)) hd hm he (show zjmp (zcmp kd x 0) n' t L st _ = _ by rw [hb]; rfl) (Kf hb)
theorem zG_wi {kd : Jvm.ClassFile.Cond} (k : Nat) {c : zC} {pc n' t : Nat} {L st : List zV} {x y : Int} (hd : 0 < d) (hm : zP μ = (code, mL, B)) (h : zwi (zwl code B k [] c (zSH n, M, 0, 0)) = some (kd, n', t, (pc, L, .inl y :: .inl x :: st), (zSH n, M, 0, 0))) (Kt : zcmp kd x y = true → zG n (0, 0) d μ (t, L, st) M Q) (Kf : zcmp kd x y = false → zG n (0, 0) d μ (n', L, st) M Q) : zG n (0, 0) d μ c M Q := by
  obtain ⟨p, off, x3, ho⟩ := zwi_ex h
  refine zwl_go (ct := (0, 0)) hd hm ho (fun he => ?_)
  cases hb : zcmp kd x y with
  | true => exact zG_one (ct := (0, 0)) hd hm he (show zjmp (zcmp kd x y) n' t L st _ = _ by rw [hb]; rfl) (Kt hb)
  | false => exact zG_one (ct := (0, 0)) hd hm he (show zjmp (zcmp kd x y) n' t L st _ = _ by rw [hb]; rfl) (Kf hb)
theorem zG_wi_eq (k : Nat) {c : zC} {pc n' t : Nat} {L st : List zV} {x y : Int} (hd : 0 < d) (hm : zP μ = (code, mL, B)) (h : zwi (zwl code B k [] c (zSH n, M, 0, 0)) = some (.eq, n', t, (pc, L, .inl y :: .inl x :: st), (zSH n, M, 0, 0))) (Kt : x = y → zG n (0, 0) d μ (t, L, st) M Q) (Kf : ¬ x = y → zG n (0, 0) d μ (n', L, st) M Q) : zG n (0, 0) d μ c M Q := zG_wi k hd hm h (fun hb => Kt (of_decide_eq_true hb)) (fun hb => Kf (of_decide_eq_false hb))
theorem zG_wf_eq (k : Nat) {c : zC} {pc n' t : Nat} {L st : List zV} {x : Int} (hd : 0 < d) (hm : zP μ = (code, mL, B)) (h : zwf (zwl code B k [] c (zSH n, M, 0, 0)) = some (.eq, n', t, (pc, L, .inl x :: st), (zSH n, M, 0, 0))) (Kt : x = 0 → zG n (0, 0) d μ (t, L, st) M Q) (Kf : ¬ x = 0 → zG n (0, 0) d μ (n', L, st) M Q) : zG n (0, 0) d μ c M Q := zG_wf k hd hm h (fun hb => Kt (of_decide_eq_true hb)) (fun hb => Kf (of_decide_eq_false hb))
theorem zG_wi_ne (k : Nat) {c : zC} {pc n' t : Nat} {L st : List zV} {x y : Int} (hd : 0 < d) (hm : zP μ = (code, mL, B)) (h : zwi (zwl code B k [] c (zSH n, M, 0, 0)) = some (.ne, n', t, (pc, L, .inl y :: .inl x :: st), (zSH n, M, 0, 0))) (Kt : ¬ x = y → zG n (0, 0) d μ (t, L, st) M Q) (Kf : x = y → zG n (0, 0) d μ (n', L, st) M Q) : zG n (0, 0) d μ c M Q := zG_wi k hd hm h (fun hb => Kt (of_decide_eq_true hb)) (fun hb => Kf (Decidable.of_not_not (of_decide_eq_false hb)))
theorem zG_wf_ne (k : Nat) {c : zC} {pc n' t : Nat} {L st : List zV} {x : Int} (hd : 0 < d) (hm : zP μ = (code, mL, B)) (h : zwf (zwl code B k [] c (zSH n, M, 0, 0)) = some (.ne, n', t, (pc, L, .inl x :: st), (zSH n, M, 0, 0))) (Kt : ¬ x = 0 → zG n (0, 0) d μ (t, L, st) M Q) (Kf : x = 0 → zG n (0, 0) d μ (n', L, st) M Q) : zG n (0, 0) d μ c M Q := zG_wf k hd hm h (fun hb => Kt (of_decide_eq_true hb)) (fun hb => Kf (Decidable.of_not_not (of_decide_eq_false hb)))
theorem zG_wi_lt (k : Nat) {c : zC} {pc n' t : Nat} {L st : List zV} {x y : Int} (hd : 0 < d) (hm : zP μ = (code, mL, B)) (h : zwi (zwl code B k [] c (zSH n, M, 0, 0)) = some (.lt, n', t, (pc, L, .inl y :: .inl x :: st), (zSH n, M, 0, 0))) (Kt : x < y → zG n (0, 0) d μ (t, L, st) M Q) (Kf : y ≤ x → zG n (0, 0) d μ (n', L, st) M Q) : zG n (0, 0) d μ c M Q := zG_wi k hd hm h (fun hb => Kt (of_decide_eq_true hb)) (fun hb => Kf (Int.not_lt.mp (of_decide_eq_false hb)))
theorem zG_wf_lt (k : Nat) {c : zC} {pc n' t : Nat} {L st : List zV} {x : Int} (hd : 0 < d) (hm : zP μ = (code, mL, B)) (h : zwf (zwl code B k [] c (zSH n, M, 0, 0)) = some (.lt, n', t, (pc, L, .inl x :: st), (zSH n, M, 0, 0))) (Kt : x < 0 → zG n (0, 0) d μ (t, L, st) M Q) (Kf : 0 ≤ x → zG n (0, 0) d μ (n', L, st) M Q) : zG n (0, 0) d μ c M Q := zG_wf k hd hm h (fun hb => Kt (of_decide_eq_true hb)) (fun hb => Kf (Int.not_lt.mp (of_decide_eq_false hb)))
theorem zG_wi_ge (k : Nat) {c : zC} {pc n' t : Nat} {L st : List zV} {x y : Int} (hd : 0 < d) (hm : zP μ = (code, mL, B)) (h : zwi (zwl code B k [] c (zSH n, M, 0, 0)) = some (.ge, n', t, (pc, L, .inl y :: .inl x :: st), (zSH n, M, 0, 0))) (Kt : y ≤ x → zG n (0, 0) d μ (t, L, st) M Q) (Kf : x < y → zG n (0, 0) d μ (n', L, st) M Q) : zG n (0, 0) d μ c M Q := zG_wi k hd hm h (fun hb => Kt (of_decide_eq_true hb)) (fun hb => Kf (Int.not_le.mp (of_decide_eq_false hb)))
theorem zG_wf_ge (k : Nat) {c : zC} {pc n' t : Nat} {L st : List zV} {x : Int} (hd : 0 < d) (hm : zP μ = (code, mL, B)) (h : zwf (zwl code B k [] c (zSH n, M, 0, 0)) = some (.ge, n', t, (pc, L, .inl x :: st), (zSH n, M, 0, 0))) (Kt : 0 ≤ x → zG n (0, 0) d μ (t, L, st) M Q) (Kf : x < 0 → zG n (0, 0) d μ (n', L, st) M Q) : zG n (0, 0) d μ c M Q := zG_wf k hd hm h (fun hb => Kt (of_decide_eq_true hb)) (fun hb => Kf (Int.not_le.mp (of_decide_eq_false hb)))
theorem zG_wi_gt (k : Nat) {c : zC} {pc n' t : Nat} {L st : List zV} {x y : Int} (hd : 0 < d) (hm : zP μ = (code, mL, B)) (h : zwi (zwl code B k [] c (zSH n, M, 0, 0)) = some (.gt, n', t, (pc, L, .inl y :: .inl x :: st), (zSH n, M, 0, 0))) (Kt : y < x → zG n (0, 0) d μ (t, L, st) M Q) (Kf : x ≤ y → zG n (0, 0) d μ (n', L, st) M Q) : zG n (0, 0) d μ c M Q := zG_wi k hd hm h (fun hb => Kt (of_decide_eq_true hb)) (fun hb => Kf (Int.not_lt.mp (of_decide_eq_false hb)))
theorem zG_wf_gt (k : Nat) {c : zC} {pc n' t : Nat} {L st : List zV} {x : Int} (hd : 0 < d) (hm : zP μ = (code, mL, B)) (h : zwf (zwl code B k [] c (zSH n, M, 0, 0)) = some (.gt, n', t, (pc, L, .inl x :: st), (zSH n, M, 0, 0))) (Kt : 0 < x → zG n (0, 0) d μ (t, L, st) M Q) (Kf : x ≤ 0 → zG n (0, 0) d μ (n', L, st) M Q) : zG n (0, 0) d μ c M Q := zG_wf k hd hm h (fun hb => Kt (of_decide_eq_true hb)) (fun hb => Kf (Int.not_lt.mp (of_decide_eq_false hb)))
theorem zG_wi_le (k : Nat) {c : zC} {pc n' t : Nat} {L st : List zV} {x y : Int} (hd : 0 < d) (hm : zP μ = (code, mL, B)) (h : zwi (zwl code B k [] c (zSH n, M, 0, 0)) = some (.le, n', t, (pc, L, .inl y :: .inl x :: st), (zSH n, M, 0, 0))) (Kt : x ≤ y → zG n (0, 0) d μ (t, L, st) M Q) (Kf : y < x → zG n (0, 0) d μ (n', L, st) M Q) : zG n (0, 0) d μ c M Q := zG_wi k hd hm h (fun hb => Kt (of_decide_eq_true hb)) (fun hb => Kf (Int.not_le.mp (of_decide_eq_false hb)))
theorem zG_wf_le (k : Nat) {c : zC} {pc n' t : Nat} {L st : List zV} {x : Int} (hd : 0 < d) (hm : zP μ = (code, mL, B)) (h : zwf (zwl code B k [] c (zSH n, M, 0, 0)) = some (.le, n', t, (pc, L, .inl x :: st), (zSH n, M, 0, 0))) (Kt : x ≤ 0 → zG n (0, 0) d μ (t, L, st) M Q) (Kf : 0 < x → zG n (0, 0) d μ (n', L, st) M Q) : zG n (0, 0) d μ c M Q := zG_wf k hd hm h (fun hb => Kt (of_decide_eq_true hb)) (fun hb => Kf (Int.not_le.mp (of_decide_eq_false hb)))
end BM
theorem zdk {k c d : Nat} (hd : k ≤ d) (h : Nat.ble (c + 1) k = true) : c ≤ d - 1 := by
  have := Nat.le_of_ble_eq_true h
  omega
section BP
variable {n : Nat} {d μ : Nat} {Q : Option zV → zM → Prop} {M : zM} {code : List zE} {mL : Nat} {B : Nat × Nat}
/-- a call that changes nothing and answers an int; a long -/
theorem zG_wp {R : Int → Prop} (k : Nat) {c : zC} {pc : Nat} {L st : List zV} {y : Nat} {as : List zV} {code' : List zE} {mL' : Nat} (hd : 0 < d) (hm : zP μ = (code, mL, B)) (hm' : zP y = (code', mL', (0, 0))) (hc : zG n (0, 0) (d - 1) y (0, zini as mL', []) M (fun v M' => M' = M ∧ ∃ x : Int, v = some (.inl x) ∧ R x)) (h : zwc B mL' (zwl code B k [] c (zSH n, M, 0, 0)) = some (y, as, (pc, L, st), (zSH n, M, 0, 0))) (K : ∀ x, R x → zG n (0, 0) d μ (pc, L, .inl x :: st) M Q) : zG n (0, 0) d μ c M Q :=
  zG_wc k hd hm hm' hc h (fun r M1 hr => by
    obtain ⟨rfl, x, rfl, hx⟩ := hr
    exact K x hx)
theorem zG_wl (k : Nat) {c : zC} {pc : Nat} {L st : List zV} {y : Nat} {as : List zV} {code' : List zE} {mL' : Nat} (hd : 0 < d) (hm : zP μ = (code, mL, B)) (hm' : zP y = (code', mL', (0, 0))) (hc : zG n (0, 0) (d - 1) y (0, zini as mL', []) M (fun v M' => M' = M ∧ ∃ x : Int, v = some (.inr (.inl x)))) (h : zwc B mL' (zwl code B k [] c (zSH n, M, 0, 0)) = some (y, as, (pc, L, st), (zSH n, M, 0, 0))) (K : ∀ x, zG n (0, 0) d μ (pc, L, .inr (.inl x) :: st) M Q) : zG n (0, 0) d μ c M Q :=
  zG_wc k hd hm hm' hc h (fun r M1 hr => by
    obtain ⟨rfl, x, rfl⟩ := hr
    exact K x)
/-- a call without an answer; with an int -/
theorem zG_wv {A : zM → Prop} (k : Nat) {c : zC} {pc : Nat} {L st : List zV} {y : Nat} {as : List zV} {code' : List zE} {mL' : Nat} (hd : 0 < d) (hm : zP μ = (code, mL, B)) (hm' : zP y = (code', mL', (0, 0))) (hc : zG n (0, 0) (d - 1) y (0, zini as mL', []) M (fun v M' => A M' ∧ v = none)) (h : zwc B mL' (zwl code B k [] c (zSH n, M, 0, 0)) = some (y, as, (pc, L, st), (zSH n, M, 0, 0))) (K : ∀ M1, A M1 → zG n (0, 0) d μ (pc, L, st) M1 Q) : zG n (0, 0) d μ c M Q :=
  zG_wc k hd hm hm' hc h (fun r M1 hr => by
    obtain ⟨ha, rfl⟩ := hr
    exact K M1 ha)
theorem zG_wn {A : zM → Prop} {R : Int → Prop} (k : Nat) {c : zC} {pc : Nat} {L st : List zV} {y : Nat} {as : List zV} {code' : List zE} {mL' : Nat} (hd : 0 < d) (hm : zP μ = (code, mL, B)) (hm' : zP y = (code', mL', (0, 0))) (hc : zG n (0, 0) (d - 1) y (0, zini as mL', []) M (fun v M' => A M' ∧ ∃ x : Int, v = some (.inl x) ∧ R x)) (h : zwc B mL' (zwl code B k [] c (zSH n, M, 0, 0)) = some (y, as, (pc, L, st), (zSH n, M, 0, 0))) (K : ∀ x M1, A M1 → R x → zG n (0, 0) d μ (pc, L, .inl x :: st) M1 Q) : zG n (0, 0) d μ c M Q :=
  zG_wc k hd hm hm' hc h (fun r M1 hr => by
    obtain ⟨ha, x, rfl, hx⟩ := hr
    exact K x M1 ha hx)
end BP
