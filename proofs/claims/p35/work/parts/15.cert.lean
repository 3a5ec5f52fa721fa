/-! THE TABLES' WORDS, CHECKED BY PROGRAM -/
theorem zch_sub : ∀ (c : Nat) (w : Cond), w ∈ zch c → w ∈ lw_tbl := by
  intro c w h
  unfold zch at h
  unfold lw_tbl tables_1
  simp only [List.mem_append]
  split at h
  · exact Or.inl h
  · exact Or.inr (Or.inl h)
  · exact Or.inr (Or.inr (Or.inl h))
  · exact Or.inr (Or.inr (Or.inr (Or.inl h)))
  · exact Or.inr (Or.inr (Or.inr (Or.inr (Or.inl h))))
  · exact Or.inr (Or.inr (Or.inr (Or.inr (Or.inr (Or.inl h)))))
  · exact Or.inr (Or.inr (Or.inr (Or.inr (Or.inr (Or.inr (Or.inl h))))))
  · exact Or.inr (Or.inr (Or.inr (Or.inr (Or.inr (Or.inr (Or.inr (Or.inl h)))))))
  · exact Or.inr (Or.inr (Or.inr (Or.inr (Or.inr (Or.inr (Or.inr (Or.inr h)))))))
  · cases h
noncomputable def zhas (q : Nat × Nat) (w : Cond) : Bool := decide ((zch q.1)[q.2]? = some w) && goodWord w
theorem zhas_ok {q : Nat × Nat} {w : Cond} (h : zhas q w = true) : w ∈ zTG := by
  simp only [zhas, Bool.and_eq_true, decide_eq_true_eq] at h
  exact List.mem_filter.mpr ⟨zch_sub q.1 w (List.mem_of_getElem? h.1), h.2⟩
noncomputable def zhs (cs : List (Nat × Nat)) (k : Nat) (w : Cond) : Bool := zhas (cs.getD k (9, 0)) w
def ztcB (t : Nat) (ty : FieldType) : Bool :=
  match t, ty with
  | 9, .object _ => true
  | 9, .array _ => true
  | 0, .int => true
  | 1, .long => true
  | 2, .boolean => true
  | _, _ => false
theorem ztcB_ok {t : Nat} {ty : FieldType} (h : ztcB t ty = true) : ztc t ty := by
  unfold ztcB at h
  split at h
  · exact Or.inl ⟨rfl, Or.inl ⟨_, rfl⟩⟩
  · exact Or.inl ⟨rfl, Or.inr ⟨_, rfl⟩⟩
  · exact Or.inr (Or.inl ⟨rfl, rfl⟩)
  · exact Or.inr (Or.inr (Or.inl ⟨rfl, rfl⟩))
  · exact Or.inr (Or.inr (Or.inr ⟨rfl, rfl⟩))
  · cases h
def zU (μ : Nat) : Prop := μ < 311
noncomputable def zpar (a : Nat) : Option Nat := (parseMethodDescriptor (zfy a).desc).map (fun d => d.parameters.length)
noncomputable def zpB (own : String) (q : zQc) (cs : List (Nat × Nat)) : Bool :=
  match q.2.1 with
  | 0 => (match zcl[q.2.2.1]? with
    | some (C, T, N) => Nat.blt q.2.2.2.1 N && (zhs cs 0 (.fieldLink own q.1 (T q.2.2.2.1).1 (T q.2.2.2.1).2.1 (T q.2.2.2.1).2.2.1) && (decide (q.2.2.2.2 = 2) || (if (T q.2.2.2.1).2.2.2 = true then decide ((T q.2.2.2.1).1 = own) && decide (q.2.2.2.2 = 1) else decide (q.2.2.2.2 = 0))))
    | none => false)
  | 10 => (Nat.beq q.2.2.2.1 0 && zhs cs 0 (.fieldLink own q.1 "java/lang/String" "value" "[B")) || (Nat.beq q.2.2.2.1 1 && zhs cs 0 (.fieldLink own q.1 "java/lang/String" "coder" "B"))
  | 2 => (match zcl[q.2.2.1]? with
    | some (C, T, N) => zhs cs 0 (.classLink own q.1 C) && (zhs cs 1 (.instantiable C N) && (zhs cs 2 (.initialized C) && (Nat.beq (ztsl q.2.2.1).length N && (List.range N).all (fun k => ztcB ((ztsl q.2.2.1).getD k 7) (ztf q.2.2.1 k)))))
    | none => false)
  | 3 => zhs cs 0 (.constant own q.1 (Int32.ofInt q.2.2.2.2)) && decide ((Int32.ofInt q.2.2.2.2).toInt = q.2.2.2.2)
  | 4 => zhs cs 0 (.constantLong own q.1 (Int64.ofInt q.2.2.2.2)) && decide ((Int64.ofInt q.2.2.2.2).toInt = q.2.2.2.2)
  | 5 => (match zstt[q.2.2.1]? with
    | some u => zhs cs 0 (.fieldLink own q.1 u.1 u.2.1 u.2.2.1)
    | none => false)
  | 6 => ztxt.any (fun r => decide (r.1 = own) && (Nat.beq r.2.1 q.1 && Nat.beq r.2.2.2 q.2.2.1))
  | 8 => zhs cs 0 (.methodLink own q.1 arraycopyName) && (zhs cs 1 (.native arraycopyName) && (zhs cs 2 (.static arraycopyName) && zhs cs 3 (.initialized "java/lang/System")))
  | 11 => zhs cs 2 (.initialized "java/lang/Math") && (match q.2.2.1 with
    | 9010 => zhs cs 0 (.methodLink own q.1 Lib.Math.max.name) && (zhs cs 1 (.static Lib.Math.max.name) && zhs cs 3 (.code Lib.Math.max.name Lib.Math.max.code 2 (some .int)))
    | 9011 => zhs cs 0 (.methodLink own q.1 Lib.Math.min.name) && (zhs cs 1 (.static Lib.Math.min.name) && zhs cs 3 (.code Lib.Math.min.name Lib.Math.min.code 2 (some .int)))
    | 9012 => zhs cs 0 (.methodLink own q.1 Lib.Math.abs.name) && (zhs cs 1 (.static Lib.Math.abs.name) && zhs cs 3 (.code Lib.Math.abs.name Lib.Math.abs.code 1 (some .int)))
    | 9013 => zhs cs 0 (.methodLink own q.1 Lib.MathLoose.max_long.x) && (zhs cs 1 (.static Lib.MathLoose.max_long.x) && zhs cs 3 (.code Lib.MathLoose.max_long.x Lib.MathLoose.max_long.code 4 (some .long)))
    | 9014 => zhs cs 0 (.methodLink own q.1 Lib.MathLoose.min_long.x) && (zhs cs 1 (.static Lib.MathLoose.min_long.x) && zhs cs 3 (.code Lib.MathLoose.min_long.x Lib.MathLoose.min_long.code 4 (some .long)))
    | _ => false)
  | 9 => zhs cs 0 (.methodLink own q.1 objectInit) && (zhs cs 1 (.instanceMethod objectInit) && zhs cs 2 (.code objectInit ⟨#[0xb1]⟩ 1 none))
  | 1 => Nat.blt q.2.2.1 311 && (match zpar q.2.2.1 with
    | some k => if q.2.2.2.2 = 0 then Nat.beq q.2.2.2.1 k && (zhs cs 0 (.methodLink own q.1 (zfy q.2.2.1)) && zhs cs 1 (.static (zfy q.2.2.1)))
      else if q.2.2.2.2 = -1 then Nat.beq q.2.2.2.1 (k + 1) && (zhs cs 0 (.methodLink own q.1 (zfy q.2.2.1)) && (zhs cs 1 (.instanceMethod (zfy q.2.2.1)) && (decide ((zfy q.2.2.1).name = "<init>") && decide (zfr q.2.2.1 = none))))
      else if q.2.2.2.2 = -2 then Nat.beq q.2.2.2.1 (k + 1) && (znel.any (fun r => decide (r.1 = own) && (Nat.beq r.2.1 q.1 && decide (r.2.2.1 = zfy q.2.2.1))) && (zhs cs 0 (.instanceMethod (zfy q.2.2.1)) && (decide ((zfy q.2.2.1).name = "<init>") && decide (zfr q.2.2.1 = none))))
      else Nat.beq q.2.2.2.1 (k + 1) && (decide (1 ≤ q.2.2.2.2) && (zhs cs 0 (.methodLink own q.1 (zfy q.2.2.1)) && (zhs cs 1 (.instanceMethod (zfy q.2.2.1)) && (zhs cs 2 (.selects (zfy q.2.2.1).cls (zfy q.2.2.1) (zfy q.2.2.1)) &&
        (if q.2.2.2.2 = 101 then decide ((zfy q.2.2.1).cls = "java/lang/String") else (match zcl[(q.2.2.2.2 - 1).toNat]? with
          | some (C, T, N) => decide (C = (zfy q.2.2.1).cls)
          | none => false))))))
    | none => false)
  | _ => false
theorem zpB_ok {own : String} {q : zQc} {cs : List (Nat × Nat)} (h : zpB own q cs = true) : zcpOk zTG zcl ztf ztsl zstt ztxt own q ∧ zcOk zTG zcl znel zfy zfr zU own q := by
  obtain ⟨i, kd, a, b, z⟩ := q
  unfold zpB at h
  dsimp only at h
  split at h
  · refine ⟨?_, fun q => absurd q (show ¬ (0 : Nat) = 1 by decide)⟩
    split at h
    · rename_i C T N hc
      simp only [Bool.and_eq_true, Bool.or_eq_true, decide_eq_true_eq] at h
      obtain ⟨h1, h2, h3⟩ := h
      refine ⟨C, T, N, hc, Nat.le_of_ble_eq_true h1, zhas_ok h2, ?_⟩
      rcases h3 with h3 | h3
      · exact Or.inr (Or.inr h3)
      · split at h3
        · rename_i h4
          simp only [Bool.and_eq_true, decide_eq_true_eq] at h3
          exact Or.inr (Or.inl ⟨h4, h3.1, h3.2⟩)
        · rename_i h4
          exact Or.inl ⟨by simpa using h4, by simpa using h3⟩
    · cases h
  · refine ⟨?_, fun q => absurd q (show ¬ (10 : Nat) = 1 by decide)⟩
    simp only [Bool.and_eq_true, Bool.or_eq_true] at h
    rcases h with ⟨h1, h2⟩ | ⟨h1, h2⟩
    · exact Or.inl ⟨Nat.eq_of_beq_eq_true h1, zhas_ok h2⟩
    · exact Or.inr ⟨Nat.eq_of_beq_eq_true h1, zhas_ok h2⟩
  · refine ⟨?_, fun q => absurd q (show ¬ (2 : Nat) = 1 by decide)⟩
    split at h
    · rename_i C T N hc
      simp only [Bool.and_eq_true] at h
      obtain ⟨h1, h2, h3, h4, h5⟩ := h
      have h4 := Nat.eq_of_beq_eq_true h4
      refine ⟨C, T, N, hc, zhas_ok h1, zhas_ok h2, zhas_ok h3, h4, fun k t hk => ?_⟩
      have hlt := (List.getElem?_eq_some_iff.mp hk).1
      have := List.all_eq_true.mp h5 k (List.mem_range.mpr (by rw [← h4]; exact hlt))
      rw [List.getD_eq_getElem?_getD, hk] at this
      exact ztcB_ok this
    · cases h
  · refine ⟨?_, fun q => absurd q (show ¬ (3 : Nat) = 1 by decide)⟩
    simp only [Bool.and_eq_true, decide_eq_true_eq] at h
    exact ⟨zhas_ok h.1, h.2⟩
  · refine ⟨?_, fun q => absurd q (show ¬ (4 : Nat) = 1 by decide)⟩
    simp only [Bool.and_eq_true, decide_eq_true_eq] at h
    exact ⟨zhas_ok h.1, h.2⟩
  · refine ⟨?_, fun q => absurd q (show ¬ (5 : Nat) = 1 by decide)⟩
    split at h
    · rename_i u hu
      exact ⟨u, hu, zhas_ok h⟩
    · cases h
  · refine ⟨?_, fun q => absurd q (show ¬ (6 : Nat) = 1 by decide)⟩
    obtain ⟨⟨r1, r2, r3, r4⟩, hr, h1⟩ := List.any_eq_true.mp h
    simp only [Bool.and_eq_true, decide_eq_true_eq] at h1
    obtain ⟨h1, h2, h3⟩ := h1
    have h2 := Nat.eq_of_beq_eq_true h2
    have h3 := Nat.eq_of_beq_eq_true h3
    subst h1 h2 h3
    exact ⟨r3, hr⟩
  · refine ⟨?_, fun q => absurd q (show ¬ (8 : Nat) = 1 by decide)⟩
    simp only [Bool.and_eq_true] at h
    exact ⟨zhas_ok h.1, zhas_ok h.2.1, zhas_ok h.2.2.1, zhas_ok h.2.2.2⟩
  · refine ⟨?_, fun q => absurd q (show ¬ (11 : Nat) = 1 by decide)⟩
    rw [Bool.and_eq_true] at h
    obtain ⟨h1, h2⟩ := h
    split at h2
    · simp only [Bool.and_eq_true] at h2
      exact ⟨Or.inl rfl, zhas_ok h1, fun _ => ⟨zhas_ok h2.1, zhas_ok h2.2.1, zhas_ok h2.2.2⟩, fun q => absurd q (by dsimp only; omega), fun q => absurd q (by dsimp only; omega), fun q => absurd q (by dsimp only; omega), fun q => absurd q (by dsimp only; omega)⟩
    · simp only [Bool.and_eq_true] at h2
      exact ⟨Or.inr (Or.inl rfl), zhas_ok h1, fun q => absurd q (by dsimp only; omega), fun _ => ⟨zhas_ok h2.1, zhas_ok h2.2.1, zhas_ok h2.2.2⟩, fun q => absurd q (by dsimp only; omega), fun q => absurd q (by dsimp only; omega), fun q => absurd q (by dsimp only; omega)⟩
    · simp only [Bool.and_eq_true] at h2
      exact ⟨Or.inr (Or.inr (Or.inl rfl)), zhas_ok h1, fun q => absurd q (by dsimp only; omega), fun q => absurd q (by dsimp only; omega), fun _ => ⟨zhas_ok h2.1, zhas_ok h2.2.1, zhas_ok h2.2.2⟩, fun q => absurd q (by dsimp only; omega), fun q => absurd q (by dsimp only; omega)⟩
    · simp only [Bool.and_eq_true] at h2
      exact ⟨Or.inr (Or.inr (Or.inr (Or.inl rfl))), zhas_ok h1, fun q => absurd q (by dsimp only; omega), fun q => absurd q (by dsimp only; omega), fun q => absurd q (by dsimp only; omega), fun _ => ⟨zhas_ok h2.1, zhas_ok h2.2.1, zhas_ok h2.2.2⟩, fun q => absurd q (by dsimp only; omega)⟩
    · simp only [Bool.and_eq_true] at h2
      exact ⟨Or.inr (Or.inr (Or.inr (Or.inr rfl))), zhas_ok h1, fun q => absurd q (by dsimp only; omega), fun q => absurd q (by dsimp only; omega), fun q => absurd q (by dsimp only; omega), fun q => absurd q (by dsimp only; omega), fun _ => ⟨zhas_ok h2.1, zhas_ok h2.2.1, zhas_ok h2.2.2⟩⟩
    · cases h2
  · refine ⟨?_, fun q => absurd q (show ¬ (9 : Nat) = 1 by decide)⟩
    simp only [Bool.and_eq_true] at h
    exact ⟨zhas_ok h.1, zhas_ok h.2.1, zhas_ok h.2.2⟩
  · refine ⟨trivial, fun _ => ?_⟩
    rw [Bool.and_eq_true] at h
    refine ⟨Nat.le_of_ble_eq_true h.1, ?_⟩
    have h := h.2
    split at h
    · rename_i k hk
      refine ⟨k, hk, ?_⟩
      split at h
      · rename_i hz
        simp only [Bool.and_eq_true] at h
        exact Or.inl ⟨hz, Nat.eq_of_beq_eq_true h.1, zhas_ok h.2.1, zhas_ok h.2.2⟩
      · split at h
        · rename_i hz
          simp only [Bool.and_eq_true, decide_eq_true_eq] at h
          exact Or.inr (Or.inl ⟨hz, Nat.eq_of_beq_eq_true h.1, zhas_ok h.2.1, zhas_ok h.2.2.1, h.2.2.2.1, h.2.2.2.2⟩)
        · split at h
          · rename_i hz
            simp only [Bool.and_eq_true, decide_eq_true_eq] at h
            obtain ⟨h1, h2, h3, h4, h5⟩ := h
            obtain ⟨⟨r1, r2, r3, r4⟩, hr, g1⟩ := List.any_eq_true.mp h2
            simp only [Bool.and_eq_true, decide_eq_true_eq] at g1
            obtain ⟨g1, g2, g3⟩ := g1
            have g2 := Nat.eq_of_beq_eq_true g2
            subst g1 g2 g3
            exact Or.inr (Or.inr (Or.inl ⟨hz, Nat.eq_of_beq_eq_true h1, ⟨r4, hr⟩, zhas_ok h3, h4, h5⟩))
          · simp only [Bool.and_eq_true, decide_eq_true_eq] at h
            obtain ⟨h1, h2, h3, h4, h5, h6⟩ := h
            obtain ⟨c, hc⟩ : ∃ c : Nat, z = ((c + 1 : Nat) : Int) := ⟨(z - 1).toNat, by omega⟩
            refine Or.inr (Or.inr (Or.inr ⟨c, hc, Nat.eq_of_beq_eq_true h1, zhas_ok h3, zhas_ok h4, zhas_ok h5, ?_⟩))
            split at h6
            · rename_i h7
              exact Or.inl ⟨by omega, by simpa using h6⟩
            · have h8 : (z - 1).toNat = c := by omega
              rw [h8] at h6
              split at h6
              · rename_i C T N h9
                have e : C = (zfy a).cls := by simpa using h6
                subst e
                refine Or.inr ⟨?_, T, N, h9⟩
                intro h10
                subst h10
                cases h9
              · cases h6
    · cases h
  · cases h
noncomputable def zmB (md : zMd) (yv : zYv) (cs : Nat × Nat) : Bool :=
  decide (yv.1.cls = "SenateRollLaw") || (plainName yv.1.cls && (zhas cs (.initialized yv.1.cls) && (decide (yv.1.cls ≠ "java/lang/invoke/MethodHandle") && (decide (yv.1.cls ≠ "java/lang/invoke/VarHandle")))))
noncomputable def zmC (md : zMd) (yv : zYv) : Bool := Nat.ble md.2.1 31 && (!yv.2.2.2.1 || decide (yv.1.name = "<init>"))
theorem ztg {c j : Nat} {w : Cond} (h : (zch c)[j]? = some w) (g : goodWord w = true) : w ∈ zTG := List.mem_filter.mpr ⟨zch_sub c w (List.mem_of_getElem? h), g⟩
theorem zall20 {P : Nat → Prop} (b : Nat) (h0 : P b) (h1 : P (b + 1)) (h2 : P (b + 2)) (h3 : P (b + 3)) (h4 : P (b + 4)) (h5 : P (b + 5)) (h6 : P (b + 6)) (h7 : P (b + 7)) (h8 : P (b + 8)) (h9 : P (b + 9)) : ∀ i, b ≤ i → i < b + 10 → P i := by
  intro i g1 g2
  obtain rfl | rfl | rfl | rfl | rfl | rfl | rfl | rfl | rfl | rfl : i = b ∨ i = b + 1 ∨ i = b + 2 ∨ i = b + 3 ∨ i = b + 4 ∨ i = b + 5 ∨ i = b + 6 ∨ i = b + 7 ∨ i = b + 8 ∨ i = b + 9 := by omega
  all_goals assumption
theorem zten {P : Nat → Prop} {N : Nat} (h : ∀ k, k < N → ∀ i, 10 * k ≤ i → i < 10 * k + 10 → P i) : ∀ i, i < 10 * N → P i := fun i hi => h (i / 10) (by omega) i (by omega) (by omega)
def zCw (i : Nat) : Prop := Cond.code (zfy i) (zfb i) (zP i).2.1 (zfr i) ∈ zTG
def zMc (i : Nat) : Prop := ∀ ei ∈ (zP i).1, decode (zfb i) ei.1 = .ok (ei.2.1, ei.2.2.1 - ei.1) ∧ zokB (zfc i) ztsl zstt (zfi i) (zfr i) (zfb i) ei = true
theorem zmc_of {cc : ByteArray} {cp : List zQc} {isI : Bool} {rt : Option FieldType} {code : List zE} (h : (zwalk cc cc.data.toList 0 code && code.all (zokB cp ztsl zstt isI rt cc)) = true) : ∀ ei ∈ code, decode cc ei.1 = .ok (ei.2.1, ei.2.2.1 - ei.1) ∧ zokB cp ztsl zstt isI rt cc ei = true := by
  rw [Bool.and_eq_true] at h
  exact fun ei hei => ⟨zwalk_ok code _ 0 rfl h.1 ei hei, List.all_eq_true.mp h.2 ei hei⟩
