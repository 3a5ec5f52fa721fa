/-! WAYS: WHAT IS ALWAYS SO -/
section WL9
variable {M M' M1 M2 : zM}
/-- courses as they were told -/
noncomputable def wRF (f : Nat → Int) : Prop := ∀ c : Nat, (c : Int) < f 0 → (0 ≤ f (21 + 4 * c) ∧ f (21 + 4 * c) < ((2 ^ c : Nat) : Int)) ∧ 1 ≤ f (22 + 4 * c) ∧ f (22 + 4 * c) ≤ 7
noncomputable def wmL (f : Nat → Int) (c : Nat) : Nat := if (c : Int) < f 0 then (f (21 + 4 * c)).toNat else 0
noncomputable def wmT (f : Nat → Int) (c : Nat) : Nat := if (c : Int) < f 0 then (f (22 + 4 * c)).toNat else 0
noncomputable def qU (M : zM) : Prop := wRF (M 98) ∧ (M 100 0 ≠ 0 → wRF (fun j => M 99 j)) ∧ (M 100 1 ≠ 0 → wRF (fun j => M 99 (5664 + j))) ∧ wVt (wmL (M 98)) (wmT (M 98)) M
/-- the same courses -/
noncomputable def wSm (f f' : Nat → Int) : Prop := (0 ≤ f 0 ∧ f 0 ≤ 14) ∧ f' 0 = f 0 ∧ ∀ j, 20 ≤ j → j < 76 → f' j = f j
theorem wSm.rf {f f' : Nat → Int} (h : wSm f f') (r : wRF f) : wRF f' := fun c hc => by
  have h0 := h.1
  rw [h.2.1] at hc
  rw [h.2.2 (21 + 4 * c) (by omega) (by omega), h.2.2 (22 + 4 * c) (by omega) (by omega)]
  exact r c hc
theorem wSm.l {f f' : Nat → Int} (h : wSm f f') : wmL f' = wmL f := funext fun c => by
  have h0 := h.1
  unfold wmL
  rw [h.2.1]
  by_cases z : (c : Int) < f 0
  · rw [if_pos z, if_pos z, h.2.2 (21 + 4 * c) (by omega) (by omega)]
  · rw [if_neg z, if_neg z]
theorem wSm.t {f f' : Nat → Int} (h : wSm f f') : wmT f' = wmT f := funext fun c => by
  have h0 := h.1
  unfold wmT
  rw [h.2.1]
  by_cases z : (c : Int) < f 0
  · rw [if_pos z, if_pos z, h.2.2 (22 + 4 * c) (by omega) (by omega)]
  · rw [if_neg z, if_neg z]
theorem wSm.rfl {f : Nat → Int} (h : 0 ≤ f 0 ∧ f 0 ≤ 14) : wSm f f := ⟨h, Eq.refl _, fun _ _ _ => Eq.refl _⟩
theorem qU.cg (h : qU M) (e : ∀ r k, 97 ≤ r → M' r k = M r k) : qU M' := by
  have g := fun r (hr : 97 ≤ r) => (funext fun k => e r k hr : M' r = M r)
  obtain ⟨h1, h2, h3, h4⟩ := h
  refine ⟨?_, ?_, ?_, ?_⟩
  · rw [g 98 (by decide)]; exact h1
  · rw [g 99 (by decide), g 100 (by decide)]; exact h2
  · rw [g 99 (by decide), g 100 (by decide)]; exact h3
  · rw [g 98 (by decide)]; exact h4.mv (e 97 31 (by decide)) (e 97 33 (by decide)) (g 114 (by decide))
theorem qU.md (h : qU M) (s : wSm (M 98) (M' 98)) (e99 : M' 99 = M 99) (e100 : M' 100 = M 100) (e31 : M' 97 31 = M 97 31) (e33 : M' 97 33 = M 97 33) (e114 : M' 114 = M 114) : qU M' := by
  obtain ⟨h1, h2, h3, h4⟩ := h
  refine ⟨s.rf h1, ?_, ?_, ?_⟩
  · rw [e99, e100]; exact h2
  · rw [e99, e100]; exact h3
  · rw [s.l, s.t]; exact h4.mv e31 e33 e114
/-- nothing is kept -/
theorem wVt.no {L T : Nat → Nat} (e : M 97 31 = -1) : wVt L T M := fun W n9 q _ => by omega
noncomputable def hMu (r : Nat) : Bool := Nat.ble 97 r && (Nat.blt r 98 || (Nat.blt 100 r && (Nat.blt r 114 || (Nat.blt 114 r && (Nat.blt r 1031 || Nat.blt 1033 r)))))
noncomputable def hMv (r : Nat) : Bool := Nat.ble 97 r && (Nat.blt r 99 || (Nat.blt 100 r && (Nat.blt r 114 || (Nat.blt 114 r && (Nat.blt r 1031 || Nat.blt 1033 r)))))
theorem hMv_no {g : List Nat} (hg : g.all hMv = true) : 99 ∉ g ∧ 100 ∉ g ∧ 114 ∉ g ∧ 1031 ∉ g ∧ 1033 ∉ g := by
  have q := fun r hm => List.all_eq_true.mp hg r hm
  refine ⟨fun hm => absurd (q _ hm) (by decide), fun hm => absurd (q _ hm) (by decide), fun hm => absurd (q _ hm) (by decide), fun hm => absurd (q _ hm) (by decide), fun hm => absurd (q _ hm) (by decide)⟩
theorem hMu_no {g : List Nat} (hg : g.all hMu = true) : 98 ∉ g ∧ 99 ∉ g ∧ 100 ∉ g ∧ 114 ∉ g ∧ 1031 ∉ g ∧ 1033 ∉ g := by
  have q := fun r hm => List.all_eq_true.mp hg r hm
  refine ⟨fun hm => absurd (q _ hm) (by decide), fun hm => absurd (q _ hm) (by decide), fun hm => absurd (q _ hm) (by decide), fun hm => absurd (q _ hm) (by decide), fun hm => absurd (q _ hm) (by decide), fun hm => absurd (q _ hm) (by decide)⟩
theorem qU.fr {g : List Nat} (h : qU M) (h0 : 0 ≤ M 98 0 ∧ M 98 0 ≤ 14) (hf : qFm g M M') (hg : g.all hMu = true) : qU M' := by
  obtain ⟨n98, n99, n100, n114, n31, n33⟩ := hMu_no hg
  have e98 : M' 98 = M 98 := hf.fn 98 (by decide) n98
  exact h.md (by rw [e98]; exact wSm.rfl h0) (hf.fn 99 (by decide) n99) (hf.fn 100 (by decide) n100) (hf 97 31 n31) (hf 97 33 n33) (hf.fn 114 (by decide) n114)
theorem qU.f9 {g : List Nat} (h : qU M) (s : wSm (M 98) (M' 98)) (hf : qFm g M M') (hg : g.all hMv = true) : qU M' := by
  obtain ⟨n99, n100, n114, n31, n33⟩ := hMv_no hg
  exact h.md s (hf.fn 99 (by decide) n99) (hf.fn 100 (by decide) n100) (hf 97 31 n31) (hf 97 33 n33) (hf.fn 114 (by decide) n114)
/-- the class's courses stand: so do the reference's -/
theorem wSm.of (h : hHs M 9 (M 98)) (h' : hHs M' 9 (M' 98)) (h0 : 0 ≤ M 98 0 ∧ M 98 0 ≤ 14) (e10 : M' 10 3 = M 10 3) (e11 : ∀ j, M' 11 j = M 11 j) : wSm (M 98) (M' 98) := by
  have k0 : M 10 3 = M 98 0 := h.1.1
  have k0' : M' 10 3 = M' 98 0 := h'.1.1
  refine ⟨h0, k0'.symm.trans (e10.trans k0), fun j j1 j2 => ?_⟩
  have q : M 11 (j - 20) = M 98 (20 + (j - 20)) := h.1.2 (j - 20) (by omega)
  have q' : M' 11 (j - 20) = M' 98 (20 + (j - 20)) := h'.1.2 (j - 20) (by omega)
  rw [show 20 + (j - 20) = j by omega] at q q'
  exact q'.symm.trans ((e11 _).trans q)
noncomputable def hNc (r : Nat) : Bool := Nat.blt r 97 && (Nat.blt r 10 || Nat.blt 11 r)
theorem wSm.mut {g : List Nat} (h : hHs M 9 (M 98)) (h' : hHs M2 9 (M2 98)) (h0 : 0 ≤ M 98 0 ∧ M 98 0 ≤ 14) (hf : qFr g M M1) (hg : g.all hNc = true) (lo : ∀ r k, r < 97 → M2 r k = M1 r k) : wSm (M1 98) (M2 98) := by
  have no : ∀ r, r ∈ g → r < 97 ∧ r ≠ 10 ∧ r ≠ 11 := fun r hm => by
    have := List.all_eq_true.mp hg r hm
    simp only [hNc, Bool.and_eq_true, Bool.or_eq_true, Nat.blt_eq] at this
    omega
  have e98 : M1 98 = M 98 := funext fun j => hf 98 j (fun hm => absurd (no _ hm).1 (by decide))
  rw [e98]
  exact wSm.of h h' h0 ((lo 10 3 (by decide)).trans (hf 10 3 (fun hm => (no _ hm).2.1 (Eq.refl _)))) (fun j => (lo 11 j (by decide)).trans (hf 11 j (fun hm => (no _ hm).2.2 (Eq.refl _))))
/-- a course more, or none -/
theorem hv_123 (h : hHs M 9 (M 98)) (hT : hTb M) (hB : hBd M) {a1 a2 a3 a4 : Int} : (hf_187_97 (hf_123_8 M a1 a2 a3 a4).2 a1 a2 a3 a4).2 = M ∨ (((0 ≤ a2 ∧ a2 ≤ w32 (zbshl 1 (M 98 0) - 1)) ∧ (1 ≤ a3 ∧ a3 ≤ 7)) ∧ ∃ X : zM, X = (hf_187_97 (hf_123_8 M a1 a2 a3 a4).2 a1 a2 a3 a4).2 ∧ X 97 31 = -1 ∧ X 98 0 = M 98 0 + 1 ∧ (∀ j, 20 ≤ j → j < 20 + 4 * (M 98 0).toNat → X 98 j = M 98 j) ∧ X 98 (21 + 4 * (M 98 0).toNat) = a2 ∧ X 98 (22 + 4 * (M 98 0).toNat) = a3) := by
  have k0 : M 10 3 = M 98 0 := h.1.1
  have b0 := hB.1
  by_cases C : (1 ≤ a1 ∧ a1 ≤ 60) ∧ (0 ≤ a2 ∧ a2 ≤ w32 (zbshl 1 (M 98 0) - 1)) ∧ (1 ≤ a3 ∧ a3 ≤ 7) ∧ (0 ≤ a4 ∧ a4 ≤ 100)
  · by_cases hf : M 98 0 < 14
    · refine .inr ⟨⟨C.2.1, C.2.2.1⟩, _, rfl, ?_⟩
      have e1 : hf_123_8 M a1 a2 a3 a4 = (M 98 0, zput (zput (zput (zput (zput M 10 3 (M 98 0 + 1)) 11 (4 * (M 98 0).toNat + 0) a1) 11 (4 * (M 98 0).toNat + 1) a2) 11 (4 * (M 98 0).toNat + 2) a3) 11 (4 * (M 98 0).toNat + 3) a4) := by
        have eo : hR_open M 10 = (M 98 0, zput M 10 3 (M 98 0 + 1)) := by rw [hO_10 hT (by omega), k0]
        unfold hf_123_8 hf_177_8 hR_size; simp only [hq_174, hq_175, hq_171, hq_172, hq_170, hq_169, hq_178, hq_19, hq_has, hq_173, eo, k0]
        (repeat' split) <;> first | omega | (rw [hS_10 (hTb.p3 hT) (by omega) (by decide), hS_10 (hTb.pc (hTb.p3 hT) (by decide)) (by omega) (by decide), hS_10 (hTb.pc (hTb.pc (hTb.p3 hT) (by decide)) (by decide)) (by omega) (by decide), hS_10 (hTb.pc (hTb.pc (hTb.pc (hTb.p3 hT) (by decide)) (by decide)) (by decide)) (by omega) (by decide)] <;> rfl)
      rw [e1]; dsimp only
      obtain ⟨X, hXe⟩ : ∃ X, X = zput (zput (zput (zput (zput M 10 3 (M 98 0 + 1)) 11 (4 * (M 98 0).toNat + 0) a1) 11 (4 * (M 98 0).toNat + 1) a2) 11 (4 * (M 98 0).toNat + 2) a3) 11 (4 * (M 98 0).toNat + 3) a4 := ⟨_, rfl⟩
      rw [← hXe]
      have hX : X 98 = M 98 := by rw [hXe]; rfl
      have hBX : hBd X := hB.same hX
      have j0 : w32 (20 + w32 (4 * M 98 0)) = 20 + 4 * M 98 0 := by rw [w32_id (x := 4 * M 98 0) (by omega), w32_id (by omega)]
      have n0 : (20 + 4 * M 98 0 : Int).toNat = 20 + (4 * (M 98 0).toNat + 0) := by omega
      have j1 : w32 (20 + 4 * M 98 0 + 1) = 20 + 4 * M 98 0 + 1 := w32_id (by omega)
      have n1 : (20 + 4 * M 98 0 + 1 : Int).toNat = 20 + (4 * (M 98 0).toNat + 1) := by omega
      have j2 : w32 (20 + 4 * M 98 0 + 2) = 20 + 4 * M 98 0 + 2 := w32_id (by omega)
      have n2 : (20 + 4 * M 98 0 + 2 : Int).toNat = 20 + (4 * (M 98 0).toNat + 2) := by omega
      have j3 : w32 (20 + 4 * M 98 0 + 3) = 20 + 4 * M 98 0 + 3 := w32_id (by omega)
      have n3 : (20 + 4 * M 98 0 + 3 : Int).toNat = 20 + (4 * (M 98 0).toNat + 3) := by omega
      obtain ⟨Y, hYe⟩ : ∃ Y, Y = zput (zput (zput (zput (zput X 98 (20 + (4 * (M 98 0).toNat + 0)) a1) 98 (20 + (4 * (M 98 0).toNat + 1)) a2) 98 (20 + (4 * (M 98 0).toNat + 2)) a3) 98 (20 + (4 * (M 98 0).toNat + 3)) a4) 97 31 (-1) := ⟨_, rfl⟩
      have e3 : Y 98 0 = M 98 0 := by rw [hYe, qput_ne (by decide), qput_nk (by omega), qput_nk (by omega), qput_nk (by omega), qput_nk (by omega)]; exact congrFun hX 0
      have e5 := hN183 (M := Y) (c := 0) (by show 0 ≤ Y 98 0 ∧ Y 98 0 < 300; rw [e3]; omega)
      simp only [Int.reduceToNat, e3] at e5
      have e2 : hf_187_97 X a1 a2 a3 a4 = (M 98 0, zput Y 98 0 (M 98 0 + 1)) := by
        unfold hf_187_97; simp only [hq_182_0 hBX, hq_182_1 hBX, hq_182_2 hBX, hq_182_3 hBX, hq_182_4 hBX, hq_182_5 hBX, hq_185, hq_184, hq_180, hq_197, hq_198 hBX, hq_200 hBX, hq_252, hX, Int.reduceToNat, j0, n0, j1, n1, j2, n2, j3, n3]
        rw [hYe] at e5
        (repeat' split) <;> first | omega | (rw [e5, hYe])
      rw [e2]; dsimp only
      refine ⟨?_, by rw [qput_eq], fun j q1 q2 => ?_, ?_, ?_⟩
      · rw [zput_oth (by decide), hYe, qput_eq]
      · rw [qput_nk (by omega), hYe, zput_oth (by decide), qput_nk (by omega), qput_nk (by omega), qput_nk (by omega), qput_nk (by omega)]; exact congrFun hX j
      · rw [qput_nk (by omega), hYe, zput_oth (by decide), qput_nk (by omega), qput_nk (by omega), show 21 + 4 * (M 98 0).toNat = 20 + (4 * (M 98 0).toNat + 1) by omega, qput_eq]
      · rw [qput_nk (by omega), hYe, zput_oth (by decide), qput_nk (by omega), show 22 + 4 * (M 98 0).toNat = 20 + (4 * (M 98 0).toNat + 2) by omega, qput_eq]
    · have e1 : hf_123_8 M a1 a2 a3 a4 = (-4, M) := by
        have eo : hR_open M 10 = (-4, M) := hF_10 hT (by omega)
        unfold hf_123_8 hf_177_8 hR_size; simp only [hq_174, hq_175, hq_171, hq_172, hq_170, hq_169, hq_178, hq_19, hq_has, hq_173, eo, k0]
        (repeat' split) <;> first | omega | ((repeat rw [hS_neg (by decide)]) <;> rfl)
      rw [e1]; dsimp only
      have e2 : hf_187_97 M a1 a2 a3 a4 = (-4, M) := by
        unfold hf_187_97; simp only [hq_182_0 hB, hq_182_1 hB, hq_182_2 hB, hq_182_3 hB, hq_182_4 hB, hq_182_5 hB, hq_185, hq_184, hq_180, hq_197, hq_198 hB, hq_200 hB, hq_252, Int.reduceToNat]
        (repeat' split) <;> first | omega | rfl
      rw [e2]; exact .inl rfl
  · have e1 : hf_123_8 M a1 a2 a3 a4 = (-2, M) := by
      unfold hf_123_8 hf_177_8 hR_size; simp only [hq_174, hq_175, hq_171, hq_172, hq_170, hq_169, hq_178, hq_19, hq_has, hq_173, k0]
      (repeat' split) <;> first | omega | rfl
    rw [e1]; dsimp only
    have e2 : hf_187_97 M a1 a2 a3 a4 = (-2, M) := by
      unfold hf_187_97; simp only [hq_182_0 hB, hq_182_1 hB, hq_182_2 hB, hq_182_3 hB, hq_182_4 hB, hq_182_5 hB, hq_185, hq_184, hq_180, hq_197, hq_198 hB, hq_200 hB, hq_252, Int.reduceToNat]
      (repeat' split) <;> first | omega | rfl
    rw [e2]; exact .inl rfl
/-- courses told -/
theorem qU.crs {a1 a2 a3 a4 : Int} (h : qU M) (hH : hHs M 9 (M 98)) (hT : hTb M) (hB : hBd M) (e2 : M2 = (hf_187_97 (hf_123_8 M a1 a2 a3 a4).2 a1 a2 a3 a4).2) (e99 : M2 99 = M 99) (e100 : M2 100 = M 100) : qU M2 := by
  rcases hv_123 hH hT hB (a1 := a1) (a2 := a2) (a3 := a3) (a4 := a4) with q | ⟨⟨c1, c2⟩, X, x1, x2, x3, x4, x5, x6⟩
  · rw [e2, q]; exact h
  · rw [← e2] at x1
    subst x1
    have b0 := hB.1
    obtain ⟨h1, h2, h3, -⟩ := h
    refine ⟨fun c hc => ?_, ?_, ?_, wVt.no x2⟩
    · rw [x3] at hc
      by_cases z : (c : Int) < M 98 0
      · rw [x4 (21 + 4 * c) (by omega) (by omega), x4 (22 + 4 * c) (by omega) (by omega)]
        exact h1 c z
      · have ec : c = (M 98 0).toNat := by omega
        have pn := w2n (N := (M 98 0).toNat) (by omega) (x := M 98 0) (by omega)
        rw [pn.1] at c1
        rw [ec, x5, x6]
        exact ⟨⟨c1.1, by omega⟩, c2⟩
    · rw [e99, e100]; exact h2
    · rw [e99, e100]; exact h3
/-- an image kept -/
theorem qU.img (h : qU M) {a : Nat} (ha : a = 0 ∨ a = 1) (n98 : ∀ j, M2 98 j = M 98 j) (v1 : M2 100 a = 1) (v2 : ∀ b, b ≤ 1 → b ≠ a → M2 100 b = M 100 b) (v3 : ∀ j : Nat, j < 5664 → M2 99 (5664 * a + j) = M 98 j) (v4 : ∀ j : Nat, (j < 5664 * a ∨ 5664 * a + 5664 ≤ j) → M2 99 j = M 99 j) (h0 : 0 ≤ M 98 0 ∧ M 98 0 ≤ 14) (e31 : M2 97 31 = M 97 31) (e33 : M2 97 33 = M 97 33) (e114 : M2 114 = M 114) (hb : ∀ b : Nat, b ≤ 1 → M 100 b ≠ 0 → 0 ≤ M 99 (5664 * b) ∧ M 99 (5664 * b) ≤ 14) : qU M2 := by
  obtain ⟨h1, h2, h3, h4⟩ := h
  have e98 : M2 98 = M 98 := funext n98
  refine ⟨by rw [e98]; exact h1, fun hk => ?_, fun hk => ?_, by rw [e98]; exact h4.mv e31 e33 e114⟩
  · rcases ha with rfl | rfl
    · refine wSm.rf (f := M 98) ⟨h0, ?_, fun j j1 j2 => ?_⟩ h1
      · have q := v3 0 (by decide); exact q
      · have q := v3 j (by omega)
        rw [show 5664 * 0 + j = j by omega] at q
        exact q
    · rw [v2 0 (by decide) (by decide)] at hk
      refine wSm.rf (f := fun j => M 99 j) ⟨hb 0 (by decide) hk, ?_, fun j j1 j2 => ?_⟩ (h2 hk)
      · exact v4 0 (.inl (by decide))
      · exact v4 j (.inl (by omega))
  · rcases ha with rfl | rfl
    · rw [v2 1 (by decide) (by decide)] at hk
      refine wSm.rf (f := fun j => M 99 (5664 + j)) ⟨hb 1 (by decide) hk, ?_, fun j j1 j2 => ?_⟩ (h3 hk)
      · exact v4 5664 (.inr (by decide))
      · exact v4 (5664 + j) (.inr (by omega))
    · refine wSm.rf (f := M 98) ⟨h0, ?_, fun j j1 j2 => ?_⟩ h1
      · have q := v3 0 (by decide); exact q
      · have q := v3 j (by omega)
        rw [show 5664 * 1 + j = 5664 + j by omega] at q
        exact q
/-- an image taken up -/
theorem qU.frm (h : qU M) {a : Nat} (ha : a = 0 ∨ a = 1) (hk : M 100 a ≠ 0) (n99 : ∀ j, M2 99 j = M 99 j) (n100 : ∀ j, M2 100 j = M 100 j) (v3 : ∀ j : Nat, j < 5664 → M2 98 j = M 99 (5664 * a + j)) (e31 : M2 97 31 = -1) (hb : 0 ≤ M 99 (5664 * a) ∧ M 99 (5664 * a) ≤ 14) : qU M2 := by
  obtain ⟨h1, h2, h3, h4⟩ := h
  have e99 : M2 99 = M 99 := funext n99
  have e100 : M2 100 = M 100 := funext n100
  refine ⟨?_, by rw [e99, e100]; exact h2, by rw [e99, e100]; exact h3, wVt.no e31⟩
  rcases ha with rfl | rfl
  · refine wSm.rf (f := fun j => M 99 j) ⟨hb, ?_, fun j j1 j2 => ?_⟩ (h2 hk)
    · have q := v3 0 (by decide); exact q
    · have q := v3 j (by omega)
      rw [show 5664 * 0 + j = j by omega] at q
      exact q
  · refine wSm.rf (f := fun j => M 99 (5664 + j)) ⟨hb, ?_, fun j j1 j2 => ?_⟩ (h3 hk)
    · have q := v3 0 (by decide); exact q
    · have q := v3 j (by omega)
      rw [show 5664 * 1 + j = 5664 + j by omega] at q
      exact q
/-- what ways take for granted -/
theorem qU.co (h : qU M) (h0 : 0 ≤ M 98 0 ∧ M 98 0 ≤ 14) : wCo (wmL (M 98)) (wmT (M 98)) (M 98 0).toNat ∧ ∀ c, c < (M 98 0).toNat → M 98 (21 + 4 * c) = (wmL (M 98) c : Int) ∧ M 98 (22 + 4 * c) = (wmT (M 98) c : Int) := by
  have hr := h.1
  have el : ∀ c, c < (M 98 0).toNat → wmL (M 98) c = (M 98 (21 + 4 * c)).toNat ∧ wmT (M 98) c = (M 98 (22 + 4 * c)).toNat := fun c hc => by
    unfold wmL wmT
    rw [if_pos (show (c : Int) < M 98 0 by omega), if_pos (show (c : Int) < M 98 0 by omega)]
    exact ⟨rfl, rfl⟩
  have en : ∀ c, ¬ c < (M 98 0).toNat → wmL (M 98) c = 0 ∧ wmT (M 98) c = 0 := fun c hc => by
    unfold wmL wmT
    rw [if_neg (show ¬ (c : Int) < M 98 0 by omega), if_neg (show ¬ (c : Int) < M 98 0 by omega)]
    exact ⟨rfl, rfl⟩
  refine ⟨⟨by omega, ⟨fun c hc => ?_, fun c hc => ?_⟩, fun c hc => ?_⟩, fun c hc => ?_⟩
  · by_cases z : c < (M 98 0).toNat
    · have q := hr c (by omega)
      rw [(el c z).1]; omega
    · rw [(en c z).1]; exact Nat.two_pow_pos c
  · by_cases z : c < (M 98 0).toNat
    · have q := hr c (by omega)
      rw [(el c z).2]; omega
    · rw [(en c z).2]; exact Nat.zero_le _
  · have q := hr c (by omega)
    rw [(el c hc).2]; omega
  · have q := hr c (by omega)
    rw [(el c hc).1, (el c hc).2]
    omega
theorem qU.tb (h : qU M) (hH : hHs M 9 (M 98)) (h0 : 0 ≤ M 98 0 ∧ M 98 0 ≤ 14) (t10 : M 10 0 = 14 ∧ M 10 1 = 4) (t83 : M 83 0 = 14 ∧ M 83 1 = 1) (t85 : M 85 0 = 8 ∧ M 85 1 = 1) : wTb (wmL (M 98)) (wmT (M 98)) M := by
  refine ⟨t10, t83, t85, fun c hc ht => ?_⟩
  have z : c < (M 98 0).toNat := by
    rcases Nat.lt_or_ge c (M 98 0).toNat with q | q
    · exact q
    · unfold wmT at ht
      rw [if_neg (by omega)] at ht
      omega
  have q := (h.co h0).2 c z
  have p1 : M 11 (4 * c + 1) = M 98 (20 + (4 * c + 1)) := hH.1.2 (4 * c + 1) (by omega)
  have p2 : M 11 (4 * c + 2) = M 98 (20 + (4 * c + 2)) := hH.1.2 (4 * c + 2) (by omega)
  rw [p1, p2, show 20 + (4 * c + 1) = 21 + 4 * c by omega, show 20 + (4 * c + 2) = 22 + 4 * c by omega]
  exact q
end WL9
