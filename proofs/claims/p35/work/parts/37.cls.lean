/-! THE CLASS: LINE, CLEAR, IMAGE, FROM AS THE LISTS SEE THEM -/
section CL
variable {n d r l c : Nat} {M : zM}
theorem qe_within {n d : Nat} {M : zM} (hd : 1 ≤ d) (a : Int) (b : Int) (c : Int) : qOkP n d 169 [.inl a, .inl b, .inl c] 3 M (qRi (fun x => 0 ≤ x ∧ x ≤ 1 ∧ (x = 1 ↔ b ≤ a ∧ a ≤ c))) := by
  have hz := zp_169
  have hd0 : 0 < d := by omega
  show zG n (0, 0) d 169 (0, [.inl a, .inl b, .inl c], []) M _
  have j14 : ¬ (b ≤ a ∧ a ≤ c) → zG n (0, 0) d 169 (14, [.inl a, .inl b, .inl c], []) M (fun v M' => M' = M ∧ qRi (fun x => 0 ≤ x ∧ x ≤ 1 ∧ (x = 1 ↔ b ≤ a ∧ a ≤ c)) v) := by
    intro hn
    refine zG_blk (c' := (15, [.inl a, .inl b, .inl c], [.inl 0])) 1 hd0 hz rfl ?_
    exact zG_zret hd0 hz rfl (by omega) ⟨rfl, _, rfl, by omega⟩
  refine zG_blk (c' := (2, [.inl a, .inl b, .inl c], [.inl b, .inl a])) 2 hd0 hz rfl ?_
  refine zG_icmp_lt hd0 hz rfl (fun hb2 => j14 (by omega)) (fun hb2 => ?_)
  refine zG_blk (c' := (7, [.inl a, .inl b, .inl c], [.inl c, .inl a])) 2 hd0 hz rfl ?_
  refine zG_icmp_gt hd0 hz rfl (fun hb2 => j14 (by omega)) (fun hb2 => ?_)
  refine zG_blk (c' := (15, [.inl a, .inl b, .inl c], [.inl 1])) 2 hd0 hz rfl ?_
  exact zG_zret hd0 hz rfl (by omega) ⟨rfl, _, rfl, by omega⟩
theorem qe_size (hd : 1 ≤ d) (hC : qCI M) (hT : qT n r l c) : qOkP n d 101 [zR r] 1 M (qRi (fun x => (0 ≤ x ∧ x ≤ l) ∧ x = M r 3)) := by
  have hT' := hT
  obtain ⟨hm, hr, hq⟩ := hT
  have h1 := hC.rows r l c hm
  have h9 := qRTL_lc _ hm
  have h8 := qRTL_rz _ hm
  simp only at h8 h9
  have hd0 : 0 < d := by omega
  have hA : zisA 9 (some (zR r)) (zSH n) = true := by simp [zisA, hr]
  have hz := zp_101
  show zG n (0, 0) d 101 (0, [zR r], []) M _
  refine zG_blk 1 hd0 hz rfl ?_
  show zG n (0, 0) d 101 (1, [zR r], [zR r]) M _
  refine zG_getf hd0 hz rfl hr rfl rfl ?_
  show zG n (0, 0) d 101 (4, [zR r], [.inl (M r 3)]) M _
  exact zG_ret hd0 hz rfl rfl ⟨rfl, _, rfl, h1.2.2, rfl⟩
theorem qe_drop (hd : 1 ≤ d) (hC : qCI M) (hT : qT n r l c) : zG n (0, 0) d 104 (0, zini [zR r] 1, []) M (fun v M' => (qWf qCI [r] M M' ∧ qRn v) ∧ M' r 3 = 0) := by
  have hT' := hT
  obtain ⟨hm, hr, hq⟩ := hT
  have h1 := hC.rows r l c hm
  have h9 := qRTL_lc _ hm
  have h8 := qRTL_rz _ hm
  simp only at h8 h9
  have hd0 : 0 < d := by omega
  have hA : zisA 9 (some (zR r)) (zSH n) = true := by simp [zisA, hr]
  have hz := zp_104
  show zG n (0, 0) d 104 (0, [zR r], []) M _
  refine zG_blk 2 hd0 hz rfl ?_
  show zG n (0, 0) d 104 (2, [zR r], [.inl 0, zR r]) M _
  refine zG_putf (.inl rfl) hd0 hz rfl (by omega) hr rfl ?_
  exact zG_ret hd0 hz rfl rfl ⟨⟨⟨hC.putU hm (by omega), qFr.rfl.put (by simp)⟩, rfl⟩, qput_eq⟩
theorem qe_open (hd : 1 ≤ d) (hC : qCI M) (hT : qT n r l c) : zG n (0, 0) d 103 (0, zini [zR r] 1, []) M (fun v M' => qWf qCI [r] M M' ∧ ∃ x : Int, v = some (.inl x) ∧ ((x = -4 ∧ l ≤ M r 3 ∧ M' r 3 = M r 3) ∨ (x = M r 3 ∧ M r 3 < l ∧ M' r 3 = M r 3 + 1))) := by
  have hT' := hT
  obtain ⟨hm, hr, hq⟩ := hT
  have h1 := hC.rows r l c hm
  have h9 := qRTL_lc _ hm
  have h8 := qRTL_rz _ hm
  simp only at h8 h9
  have hd0 : 0 < d := by omega
  have hA : zisA 9 (some (zR r)) (zSH n) = true := by simp [zisA, hr]
  have hz := zp_103
  show zG n (0, 0) d 103 (0, [zR r], []) M _
  refine zG_blk 1 hd0 hz rfl ?_
  show zG n (0, 0) d 103 (1, [zR r], [zR r]) M _
  refine zG_getf hd0 hz rfl hr rfl rfl ?_
  show zG n (0, 0) d 103 (4, [zR r], [.inl (M r 3)]) M _
  refine zG_blk 1 hd0 hz rfl ?_
  show zG n (0, 0) d 103 (5, [zR r], [zR r, .inl (M r 3)]) M _
  refine zG_getf hd0 hz rfl hr rfl rfl ?_
  show zG n (0, 0) d 103 (8, [zR r], [.inl (M r 0), .inl (M r 3)]) M _
  rw [h1.1]
  refine zG_icmp_lt hd0 hz rfl (fun hb => ?_) (fun hb => ?_)
  · show zG n (0, 0) d 103 (14, [zR r], []) M _
    refine zG_blk 2 hd0 hz rfl ?_
    show zG n (0, 0) d 103 (16, [zR r], [zR r, zR r]) M _
    refine zG_getf hd0 hz rfl hr rfl rfl ?_
    show zG n (0, 0) d 103 (19, [zR r], [.inl (M r 3), zR r]) M _
    refine zG_blk (c' := (21, [zR r], [.inl (M r 3 + 1), zR r])) 2 hd0 hz (by rw [show M r 3 + 1 = w32 (M r 3 + 1) from (w32_id (by omega)).symm]; rfl) ?_
    refine zG_putf (.inl rfl) hd0 hz rfl (by omega) hr rfl ?_
    have hC1 : qCI (zput M r 3 (M r 3 + 1)) := hC.putU hm (by omega)
    show zG n (0, 0) d 103 (24, [zR r], []) (zput M r 3 (M r 3 + 1)) _
    refine zG_blk 1 hd0 hz rfl ?_
    show zG n (0, 0) d 103 (25, [zR r], [zR r]) (zput M r 3 (M r 3 + 1)) _
    refine zG_getf hd0 hz rfl hr rfl rfl ?_
    show zG n (0, 0) d 103 (28, [zR r], [.inl (zput M r 3 (M r 3 + 1) r 3)]) (zput M r 3 (M r 3 + 1)) _
    rw [qput_eq]
    refine zG_blk (c' := (30, [zR r], [.inl (M r 3)])) 2 hd0 hz (by rw [show (.inl (M r 3) : zV) = .inl (w32 ((M r 3 + 1) - 1)) from by rw [w32_id (by omega)]; congr 1; omega]; rfl) ?_
    exact zG_ret hd0 hz rfl rfl ⟨⟨hC1, qFr.rfl.put (by simp)⟩, _, rfl, .inr ⟨rfl, by omega, qput_eq⟩⟩
  · refine zG_blk (c' := (13, [zR r], [.inl (-4)])) 1 hd0 hz rfl ?_
    exact zG_ret hd0 hz rfl rfl ⟨⟨hC, qFr.rfl⟩, _, rfl, .inl ⟨rfl, by omega, rfl⟩⟩
theorem qe_takeOver (hd : 1 ≤ d) (hC : qCI M) (hT : qT n r l c) {s : Nat} (hT2 : qT n s l c) (hsr : s ≠ r + 1) : zG n (0, 0) d 110 (0, zini [zR r, zR s] 2, []) M (fun v M' => (qWf qCI [r, r + 1] M M' ∧ qRn v) ∧ M' r 3 = M s 3) := by
  have hT' := hT
  obtain ⟨hm, hr, hq⟩ := hT
  have h1 := hC.rows r l c hm
  have h9 := qRTL_lc _ hm
  have h8 := qRTL_rz _ hm
  simp only at h8 h9
  have hd0 : 0 < d := by omega
  have hA : zisA 9 (some (zR r)) (zSH n) = true := by simp [zisA, hr]
  have hz := zp_110
  show zG n (0, 0) d 110 (0, [zR r, zR s], []) M _
  obtain ⟨hm2, hr2, hq2⟩ := hT2
  have h2 := hC.rows s l c hm2
  have h29 := qRTL_lc _ hm2
  simp only at h29
  refine zG_blk 1 hd0 hz rfl ?_
  show zG n (0, 0) d 110 (1, [zR r, zR s], [zR s]) M _
  refine zG_getf hd0 hz rfl hr2 rfl rfl ?_
  show zG n (0, 0) d 110 (4, [zR r, zR s], [zR (s + 1)]) M _
  refine zG_blk 2 hd0 hz rfl ?_
  show zG n (0, 0) d 110 (6, [zR r, zR s], [zR r, .inl 0, zR (s + 1)]) M _
  refine zG_getf hd0 hz rfl hr rfl rfl ?_
  show zG n (0, 0) d 110 (9, [zR r, zR s], [zR (r + 1), .inl 0, zR (s + 1)]) M _
  refine zG_blk 2 hd0 hz rfl ?_
  show zG n (0, 0) d 110 (11, [zR r, zR s], [zR s, .inl 0, zR (r + 1), .inl 0, zR (s + 1)]) M _
  refine zG_getf hd0 hz rfl hr2 rfl rfl ?_
  show zG n (0, 0) d 110 (14, [zR r, zR s], [zR (s + 1), .inl 0, zR (r + 1), .inl 0, zR (s + 1)]) M _
  refine zG_alen hd0 hz rfl hq2 ?_
  show zG n (0, 0) d 110 (15, [zR r, zR s], [.inl ((l * c : Nat) : Int), .inl 0, zR (r + 1), .inl 0, zR (s + 1)]) M _
  refine zG_blk 1 hd0 hz rfl ?_
  show zG n (0, 0) d 110 (16, [zR r, zR s], [zR r, .inl ((l * c : Nat) : Int), .inl 0, zR (r + 1), .inl 0, zR (s + 1)]) M _
  refine zG_getf hd0 hz rfl hr rfl rfl ?_
  show zG n (0, 0) d 110 (19, [zR r, zR s], [zR (r + 1), .inl ((l * c : Nat) : Int), .inl 0, zR (r + 1), .inl 0, zR (s + 1)]) M _
  refine zG_alen hd0 hz rfl hq ?_
  show zG n (0, 0) d 110 (20, [zR r, zR s], [.inl ((l * c : Nat) : Int), .inl ((l * c : Nat) : Int), .inl 0, zR (r + 1), .inl 0, zR (s + 1)]) M _
  refine zG_blk (c' := (23, [zR r, zR s], [.inl (if ((l * c : Nat) : Int) < ((l * c : Nat) : Int) then ((l * c : Nat) : Int) else ((l * c : Nat) : Int)), .inl 0, zR (r + 1), .inl 0, zR (s + 1)])) 1 hd0 hz rfl ?_
  rw [ite_self]
  obtain ⟨k, hk⟩ : ∃ k : Nat, k = l * c := ⟨_, rfl⟩
  rw [← hk] at hq hq2 ⊢
  show zG n (0, 0) d 110 (23, [zR r, zR s], [.inl (k : Int), .inl 0, zR (r + 1), .inl 0, zR (s + 1)]) M _
  refine zG_copy hd0 hz rfl hq2 hq ⟨Nat.le_of_ble_eq_true rfl, by omega⟩ ?_
  obtain ⟨M1, hM1⟩ : ∃ X : zM, X = zcopy M (s + 1) (r + 1) (0 : Int).toNat (0 : Int).toNat (k : Int).toNat := ⟨_, rfl⟩
  rw [← hM1]
  have hC1 : qCI M1 := by rw [hM1]; exact hC.copy h9.2.2.2.2 ⟨h29.2.2.1, h29.2.2.2.1⟩
  have hF1 : qFr [r, r + 1] M M1 := fun i j hi => by rw [hM1]; simp only [zcopy]; rw [if_neg (by intro e; subst e; simp at hi)]
  have hs1 : M1 s 3 = M s 3 := by rw [hM1]; simp only [zcopy]; rw [if_neg hsr]
  have h1b := hC1.rows r l c hm
  have h2b := hC1.rows s l c hm2
  show zG n (0, 0) d 110 (26, [zR r, zR s], []) M1 _
  refine zG_blk 2 hd0 hz rfl ?_
  show zG n (0, 0) d 110 (28, [zR r, zR s], [zR s, zR r]) M1 _
  refine zG_getf hd0 hz rfl hr2 rfl rfl ?_
  show zG n (0, 0) d 110 (31, [zR r, zR s], [.inl (M1 s 3), zR r]) M1 _
  refine zG_blk 1 hd0 hz rfl ?_
  show zG n (0, 0) d 110 (32, [zR r, zR s], [zR r, .inl (M1 s 3), zR r]) M1 _
  refine zG_getf hd0 hz rfl hr rfl rfl ?_
  show zG n (0, 0) d 110 (35, [zR r, zR s], [.inl (M1 r 0), .inl (M1 s 3), zR r]) M1 _
  obtain ⟨x, hx⟩ : ∃ x : Int, x = (if M1 r 0 < M1 s 3 then M1 r 0 else M1 s 3) := ⟨_, rfl⟩
  refine zG_blk (c' := (38, [zR r, zR s], [.inl x, zR r])) 1 hd0 hz (by subst hx; rfl) ?_
  have hxq := qite hx
  refine zG_putf (.inl rfl) hd0 hz rfl (by omega) hr rfl ?_
  exact zG_ret hd0 hz rfl rfl ⟨⟨⟨hC1.putU hm (by omega), hF1.put (by simp)⟩, rfl⟩, by rw [qput_eq, ← hs1]; omega⟩
end CL
theorem qe_26_26_9 {n d : Nat} {M : zM} (hd : 2 ≤ d) (hC : qCI M)  : zG n (0, 0) d 26 (0, zini [.inr (.inr (some 26)), .inr (.inr (some 9))] 2, []) M (fun v M' => (qWf qCI [26, 27, 28, 29, 30, 31, 32, 33, 34, 35, 36, 37, 38, 39, 40, 41, 42] M M' ∧ qRn v) ∧ M' 41 3 = M 24 3) := by
  have hz := zp_26
  have hd0 : 0 < d := by omega
  have hW : qFr [26, 27, 28, 29, 30, 31, 32, 33, 34, 35, 36, 37, 38, 39, 40, 41, 42] M M := qFr.rfl
  show zG n (0, 0) d 26 (0, [.inr (.inr (some 26)), .inr (.inr (some 9))], []) M _
  refine zG_blk (c' := (8, [.inr (.inr (some 26)), .inr (.inr (some 9))], [.inr (.inr (some 10)), .inr (.inr (some 27))])) 4 hd0 hz (by rfl) ?_
  refine zG_call hd0 hz zp_110 rfl rfl (Nat.le_of_ble_eq_true rfl) ⟨Nat.le_refl _, Nat.le_refl _⟩ (qe_takeOver (by omega) hC (⟨by decide, rfl, rfl⟩ : qT n 27 14 4) (⟨by decide, rfl, rfl⟩ : qT n 10 14 4) (by decide)) (fun vr M1 hr => ?_)
  obtain ⟨⟨⟨hCM1, hFM1⟩, rfl⟩, huM1⟩ := hr
  have hWM1 : qFr [26, 27, 28, 29, 30, 31, 32, 33, 34, 35, 36, 37, 38, 39, 40, 41, 42] M M1 := hW.tr hFM1 (by decide)
  show zG n (0, 0) d 26 (11, [.inr (.inr (some 26)), .inr (.inr (some 9))], []) M1 _
  refine zG_blk (c' := (19, [.inr (.inr (some 26)), .inr (.inr (some 9))], [.inr (.inr (some 12)), .inr (.inr (some 29))])) 4 hd0 hz (by rfl) ?_
  refine zG_call hd0 hz zp_110 rfl rfl (Nat.le_of_ble_eq_true rfl) ⟨Nat.le_refl _, Nat.le_refl _⟩ (qe_takeOver (by omega) hCM1 (⟨by decide, rfl, rfl⟩ : qT n 29 20 3) (⟨by decide, rfl, rfl⟩ : qT n 12 20 3) (by decide)) (fun vr M3 hr => ?_)
  obtain ⟨⟨⟨hCM3, hFM3⟩, rfl⟩, huM3⟩ := hr
  have hWM3 : qFr [26, 27, 28, 29, 30, 31, 32, 33, 34, 35, 36, 37, 38, 39, 40, 41, 42] M M3 := hWM1.tr hFM3 (by decide)
  show zG n (0, 0) d 26 (22, [.inr (.inr (some 26)), .inr (.inr (some 9))], []) M3 _
  refine zG_blk (c' := (30, [.inr (.inr (some 26)), .inr (.inr (some 9))], [.inr (.inr (some 14)), .inr (.inr (some 31))])) 4 hd0 hz (by rfl) ?_
  refine zG_call hd0 hz zp_110 rfl rfl (Nat.le_of_ble_eq_true rfl) ⟨Nat.le_refl _, Nat.le_refl _⟩ (qe_takeOver (by omega) hCM3 (⟨by decide, rfl, rfl⟩ : qT n 31 4 2) (⟨by decide, rfl, rfl⟩ : qT n 14 4 2) (by decide)) (fun vr M5 hr => ?_)
  obtain ⟨⟨⟨hCM5, hFM5⟩, rfl⟩, huM5⟩ := hr
  have hWM5 : qFr [26, 27, 28, 29, 30, 31, 32, 33, 34, 35, 36, 37, 38, 39, 40, 41, 42] M M5 := hWM3.tr hFM5 (by decide)
  show zG n (0, 0) d 26 (33, [.inr (.inr (some 26)), .inr (.inr (some 9))], []) M5 _
  refine zG_blk (c' := (41, [.inr (.inr (some 26)), .inr (.inr (some 9))], [.inr (.inr (some 16)), .inr (.inr (some 33))])) 4 hd0 hz (by rfl) ?_
  refine zG_call hd0 hz zp_110 rfl rfl (Nat.le_of_ble_eq_true rfl) ⟨Nat.le_refl _, Nat.le_refl _⟩ (qe_takeOver (by omega) hCM5 (⟨by decide, rfl, rfl⟩ : qT n 33 40 5) (⟨by decide, rfl, rfl⟩ : qT n 16 40 5) (by decide)) (fun vr M7 hr => ?_)
  obtain ⟨⟨⟨hCM7, hFM7⟩, rfl⟩, huM7⟩ := hr
  have hWM7 : qFr [26, 27, 28, 29, 30, 31, 32, 33, 34, 35, 36, 37, 38, 39, 40, 41, 42] M M7 := hWM5.tr hFM7 (by decide)
  show zG n (0, 0) d 26 (44, [.inr (.inr (some 26)), .inr (.inr (some 9))], []) M7 _
  refine zG_blk (c' := (52, [.inr (.inr (some 26)), .inr (.inr (some 9))], [.inr (.inr (some 18)), .inr (.inr (some 35))])) 4 hd0 hz (by rfl) ?_
  refine zG_call hd0 hz zp_110 rfl rfl (Nat.le_of_ble_eq_true rfl) ⟨Nat.le_refl _, Nat.le_refl _⟩ (qe_takeOver (by omega) hCM7 (⟨by decide, rfl, rfl⟩ : qT n 35 250 11) (⟨by decide, rfl, rfl⟩ : qT n 18 250 11) (by decide)) (fun vr M9 hr => ?_)
  obtain ⟨⟨⟨hCM9, hFM9⟩, rfl⟩, huM9⟩ := hr
  have hWM9 : qFr [26, 27, 28, 29, 30, 31, 32, 33, 34, 35, 36, 37, 38, 39, 40, 41, 42] M M9 := hWM7.tr hFM9 (by decide)
  show zG n (0, 0) d 26 (55, [.inr (.inr (some 26)), .inr (.inr (some 9))], []) M9 _
  refine zG_blk (c' := (63, [.inr (.inr (some 26)), .inr (.inr (some 9))], [.inr (.inr (some 20)), .inr (.inr (some 37))])) 4 hd0 hz (by rfl) ?_
  refine zG_call hd0 hz zp_110 rfl rfl (Nat.le_of_ble_eq_true rfl) ⟨Nat.le_refl _, Nat.le_refl _⟩ (qe_takeOver (by omega) hCM9 (⟨by decide, rfl, rfl⟩ : qT n 37 8 81) (⟨by decide, rfl, rfl⟩ : qT n 20 8 81) (by decide)) (fun vr M11 hr => ?_)
  obtain ⟨⟨⟨hCM11, hFM11⟩, rfl⟩, huM11⟩ := hr
  have hWM11 : qFr [26, 27, 28, 29, 30, 31, 32, 33, 34, 35, 36, 37, 38, 39, 40, 41, 42] M M11 := hWM9.tr hFM11 (by decide)
  show zG n (0, 0) d 26 (66, [.inr (.inr (some 26)), .inr (.inr (some 9))], []) M11 _
  refine zG_blk (c' := (74, [.inr (.inr (some 26)), .inr (.inr (some 9))], [.inr (.inr (some 22)), .inr (.inr (some 39))])) 4 hd0 hz (by rfl) ?_
  refine zG_call hd0 hz zp_110 rfl rfl (Nat.le_of_ble_eq_true rfl) ⟨Nat.le_refl _, Nat.le_refl _⟩ (qe_takeOver (by omega) hCM11 (⟨by decide, rfl, rfl⟩ : qT n 39 10 164) (⟨by decide, rfl, rfl⟩ : qT n 22 10 164) (by decide)) (fun vr M13 hr => ?_)
  obtain ⟨⟨⟨hCM13, hFM13⟩, rfl⟩, huM13⟩ := hr
  have hWM13 : qFr [26, 27, 28, 29, 30, 31, 32, 33, 34, 35, 36, 37, 38, 39, 40, 41, 42] M M13 := hWM11.tr hFM13 (by decide)
  show zG n (0, 0) d 26 (77, [.inr (.inr (some 26)), .inr (.inr (some 9))], []) M13 _
  refine zG_blk (c' := (85, [.inr (.inr (some 26)), .inr (.inr (some 9))], [.inr (.inr (some 24)), .inr (.inr (some 41))])) 4 hd0 hz (by rfl) ?_
  refine zG_call hd0 hz zp_110 rfl rfl (Nat.le_of_ble_eq_true rfl) ⟨Nat.le_refl _, Nat.le_refl _⟩ (qe_takeOver (by omega) hCM13 (⟨by decide, rfl, rfl⟩ : qT n 41 12 2) (⟨by decide, rfl, rfl⟩ : qT n 24 12 2) (by decide)) (fun vr M15 hr => ?_)
  obtain ⟨⟨⟨hCM15, hFM15⟩, rfl⟩, huM15⟩ := hr
  have hWM15 : qFr [26, 27, 28, 29, 30, 31, 32, 33, 34, 35, 36, 37, 38, 39, 40, 41, 42] M M15 := hWM13.tr hFM15 (by decide)
  show zG n (0, 0) d 26 (88, [.inr (.inr (some 26)), .inr (.inr (some 9))], []) M15 _
  have r17 := hCM15.rng 9 8 (by decide) (by decide)
  refine zG_blk (c' := (93, [.inr (.inr (some 26)), .inr (.inr (some 9))], [.inl (M15 9 8), .inr (.inr (some 26))])) 3 hd0 hz (by rfl) ?_
  refine zG_putf (.inl rfl) hd0 hz rfl (by decide) rfl rfl ?_
  obtain ⟨M18, hM18⟩ : ∃ X : zM, X = zput M15 26 8 (M15 9 8) := ⟨_, rfl⟩
  rw [← hM18]
  have hCM18 : qCI M18 := by rw [hM18]; exact hCM15.put (r := 26) (k := 8) rfl (.inl (by omega))
  have hWM18 : qFr [26, 27, 28, 29, 30, 31, 32, 33, 34, 35, 36, 37, 38, 39, 40, 41, 42] M M18 := by rw [hM18]; exact hWM15.put (by decide)
  have e19 : M18 9 8 = M15 9 8 := by rw [hM18]; exact qput_ne (by decide)
  have e20 : M18 26 8 = (M15 9 8) := by rw [hM18]; exact qput_eq
  show zG n (0, 0) d 26 (96, [.inr (.inr (some 26)), .inr (.inr (some 9))], []) M18 _
  have r21 := hCM18.rng 9 9 (by decide) (by decide)
  refine zG_blk (c' := (101, [.inr (.inr (some 26)), .inr (.inr (some 9))], [.inl (M18 9 9), .inr (.inr (some 26))])) 3 hd0 hz (by rfl) ?_
  refine zG_putf (.inl rfl) hd0 hz rfl (by decide) rfl rfl ?_
  obtain ⟨M22, hM22⟩ : ∃ X : zM, X = zput M18 26 9 (M18 9 9) := ⟨_, rfl⟩
  rw [← hM22]
  have hCM22 : qCI M22 := by rw [hM22]; exact hCM18.put (r := 26) (k := 9) rfl (.inl (by omega))
  have hWM22 : qFr [26, 27, 28, 29, 30, 31, 32, 33, 34, 35, 36, 37, 38, 39, 40, 41, 42] M M22 := by rw [hM22]; exact hWM18.put (by decide)
  have e23 : M22 9 8 = M18 9 8 := by rw [hM22]; exact qput_ne (by decide)
  have e24 : M22 26 8 = M18 26 8 := by rw [hM22]; exact qput_nk (by decide)
  have e25 : M22 9 9 = M18 9 9 := by rw [hM22]; exact qput_ne (by decide)
  have e26 : M22 26 9 = (M18 9 9) := by rw [hM22]; exact qput_eq
  show zG n (0, 0) d 26 (104, [.inr (.inr (some 26)), .inr (.inr (some 9))], []) M22 _
  exact zG_ret hd0 hz rfl rfl ⟨⟨⟨hCM22, hWM22⟩, rfl⟩, by rw [hM22, qput_ne (by decide), hM18, qput_ne (by decide), huM15]; exact hWM13 24 3 (by decide)⟩
theorem qe_26_43_9 {n d : Nat} {M : zM} (hd : 2 ≤ d) (hC : qCI M)  : zG n (0, 0) d 26 (0, zini [.inr (.inr (some 43)), .inr (.inr (some 9))] 2, []) M (fun v M' => (qWf qCI [43, 44, 45, 46, 47, 48, 49, 50, 51, 52, 53, 54, 55, 56, 57, 58, 59] M M' ∧ qRn v) ∧ M' 58 3 = M 24 3) := by
  have hz := zp_26
  have hd0 : 0 < d := by omega
  have hW : qFr [43, 44, 45, 46, 47, 48, 49, 50, 51, 52, 53, 54, 55, 56, 57, 58, 59] M M := qFr.rfl
  show zG n (0, 0) d 26 (0, [.inr (.inr (some 43)), .inr (.inr (some 9))], []) M _
  refine zG_blk (c' := (8, [.inr (.inr (some 43)), .inr (.inr (some 9))], [.inr (.inr (some 10)), .inr (.inr (some 44))])) 4 hd0 hz (by rfl) ?_
  refine zG_call hd0 hz zp_110 rfl rfl (Nat.le_of_ble_eq_true rfl) ⟨Nat.le_refl _, Nat.le_refl _⟩ (qe_takeOver (by omega) hC (⟨by decide, rfl, rfl⟩ : qT n 44 14 4) (⟨by decide, rfl, rfl⟩ : qT n 10 14 4) (by decide)) (fun vr M1 hr => ?_)
  obtain ⟨⟨⟨hCM1, hFM1⟩, rfl⟩, huM1⟩ := hr
  have hWM1 : qFr [43, 44, 45, 46, 47, 48, 49, 50, 51, 52, 53, 54, 55, 56, 57, 58, 59] M M1 := hW.tr hFM1 (by decide)
  show zG n (0, 0) d 26 (11, [.inr (.inr (some 43)), .inr (.inr (some 9))], []) M1 _
  refine zG_blk (c' := (19, [.inr (.inr (some 43)), .inr (.inr (some 9))], [.inr (.inr (some 12)), .inr (.inr (some 46))])) 4 hd0 hz (by rfl) ?_
  refine zG_call hd0 hz zp_110 rfl rfl (Nat.le_of_ble_eq_true rfl) ⟨Nat.le_refl _, Nat.le_refl _⟩ (qe_takeOver (by omega) hCM1 (⟨by decide, rfl, rfl⟩ : qT n 46 20 3) (⟨by decide, rfl, rfl⟩ : qT n 12 20 3) (by decide)) (fun vr M3 hr => ?_)
  obtain ⟨⟨⟨hCM3, hFM3⟩, rfl⟩, huM3⟩ := hr
  have hWM3 : qFr [43, 44, 45, 46, 47, 48, 49, 50, 51, 52, 53, 54, 55, 56, 57, 58, 59] M M3 := hWM1.tr hFM3 (by decide)
  show zG n (0, 0) d 26 (22, [.inr (.inr (some 43)), .inr (.inr (some 9))], []) M3 _
  refine zG_blk (c' := (30, [.inr (.inr (some 43)), .inr (.inr (some 9))], [.inr (.inr (some 14)), .inr (.inr (some 48))])) 4 hd0 hz (by rfl) ?_
  refine zG_call hd0 hz zp_110 rfl rfl (Nat.le_of_ble_eq_true rfl) ⟨Nat.le_refl _, Nat.le_refl _⟩ (qe_takeOver (by omega) hCM3 (⟨by decide, rfl, rfl⟩ : qT n 48 4 2) (⟨by decide, rfl, rfl⟩ : qT n 14 4 2) (by decide)) (fun vr M5 hr => ?_)
  obtain ⟨⟨⟨hCM5, hFM5⟩, rfl⟩, huM5⟩ := hr
  have hWM5 : qFr [43, 44, 45, 46, 47, 48, 49, 50, 51, 52, 53, 54, 55, 56, 57, 58, 59] M M5 := hWM3.tr hFM5 (by decide)
  show zG n (0, 0) d 26 (33, [.inr (.inr (some 43)), .inr (.inr (some 9))], []) M5 _
  refine zG_blk (c' := (41, [.inr (.inr (some 43)), .inr (.inr (some 9))], [.inr (.inr (some 16)), .inr (.inr (some 50))])) 4 hd0 hz (by rfl) ?_
  refine zG_call hd0 hz zp_110 rfl rfl (Nat.le_of_ble_eq_true rfl) ⟨Nat.le_refl _, Nat.le_refl _⟩ (qe_takeOver (by omega) hCM5 (⟨by decide, rfl, rfl⟩ : qT n 50 40 5) (⟨by decide, rfl, rfl⟩ : qT n 16 40 5) (by decide)) (fun vr M7 hr => ?_)
  obtain ⟨⟨⟨hCM7, hFM7⟩, rfl⟩, huM7⟩ := hr
  have hWM7 : qFr [43, 44, 45, 46, 47, 48, 49, 50, 51, 52, 53, 54, 55, 56, 57, 58, 59] M M7 := hWM5.tr hFM7 (by decide)
  show zG n (0, 0) d 26 (44, [.inr (.inr (some 43)), .inr (.inr (some 9))], []) M7 _
  refine zG_blk (c' := (52, [.inr (.inr (some 43)), .inr (.inr (some 9))], [.inr (.inr (some 18)), .inr (.inr (some 52))])) 4 hd0 hz (by rfl) ?_
  refine zG_call hd0 hz zp_110 rfl rfl (Nat.le_of_ble_eq_true rfl) ⟨Nat.le_refl _, Nat.le_refl _⟩ (qe_takeOver (by omega) hCM7 (⟨by decide, rfl, rfl⟩ : qT n 52 250 11) (⟨by decide, rfl, rfl⟩ : qT n 18 250 11) (by decide)) (fun vr M9 hr => ?_)
  obtain ⟨⟨⟨hCM9, hFM9⟩, rfl⟩, huM9⟩ := hr
  have hWM9 : qFr [43, 44, 45, 46, 47, 48, 49, 50, 51, 52, 53, 54, 55, 56, 57, 58, 59] M M9 := hWM7.tr hFM9 (by decide)
  show zG n (0, 0) d 26 (55, [.inr (.inr (some 43)), .inr (.inr (some 9))], []) M9 _
  refine zG_blk (c' := (63, [.inr (.inr (some 43)), .inr (.inr (some 9))], [.inr (.inr (some 20)), .inr (.inr (some 54))])) 4 hd0 hz (by rfl) ?_
  refine zG_call hd0 hz zp_110 rfl rfl (Nat.le_of_ble_eq_true rfl) ⟨Nat.le_refl _, Nat.le_refl _⟩ (qe_takeOver (by omega) hCM9 (⟨by decide, rfl, rfl⟩ : qT n 54 8 81) (⟨by decide, rfl, rfl⟩ : qT n 20 8 81) (by decide)) (fun vr M11 hr => ?_)
  obtain ⟨⟨⟨hCM11, hFM11⟩, rfl⟩, huM11⟩ := hr
  have hWM11 : qFr [43, 44, 45, 46, 47, 48, 49, 50, 51, 52, 53, 54, 55, 56, 57, 58, 59] M M11 := hWM9.tr hFM11 (by decide)
  show zG n (0, 0) d 26 (66, [.inr (.inr (some 43)), .inr (.inr (some 9))], []) M11 _
  refine zG_blk (c' := (74, [.inr (.inr (some 43)), .inr (.inr (some 9))], [.inr (.inr (some 22)), .inr (.inr (some 56))])) 4 hd0 hz (by rfl) ?_
  refine zG_call hd0 hz zp_110 rfl rfl (Nat.le_of_ble_eq_true rfl) ⟨Nat.le_refl _, Nat.le_refl _⟩ (qe_takeOver (by omega) hCM11 (⟨by decide, rfl, rfl⟩ : qT n 56 10 164) (⟨by decide, rfl, rfl⟩ : qT n 22 10 164) (by decide)) (fun vr M13 hr => ?_)
  obtain ⟨⟨⟨hCM13, hFM13⟩, rfl⟩, huM13⟩ := hr
  have hWM13 : qFr [43, 44, 45, 46, 47, 48, 49, 50, 51, 52, 53, 54, 55, 56, 57, 58, 59] M M13 := hWM11.tr hFM13 (by decide)
  show zG n (0, 0) d 26 (77, [.inr (.inr (some 43)), .inr (.inr (some 9))], []) M13 _
  refine zG_blk (c' := (85, [.inr (.inr (some 43)), .inr (.inr (some 9))], [.inr (.inr (some 24)), .inr (.inr (some 58))])) 4 hd0 hz (by rfl) ?_
  refine zG_call hd0 hz zp_110 rfl rfl (Nat.le_of_ble_eq_true rfl) ⟨Nat.le_refl _, Nat.le_refl _⟩ (qe_takeOver (by omega) hCM13 (⟨by decide, rfl, rfl⟩ : qT n 58 12 2) (⟨by decide, rfl, rfl⟩ : qT n 24 12 2) (by decide)) (fun vr M15 hr => ?_)
  obtain ⟨⟨⟨hCM15, hFM15⟩, rfl⟩, huM15⟩ := hr
  have hWM15 : qFr [43, 44, 45, 46, 47, 48, 49, 50, 51, 52, 53, 54, 55, 56, 57, 58, 59] M M15 := hWM13.tr hFM15 (by decide)
  show zG n (0, 0) d 26 (88, [.inr (.inr (some 43)), .inr (.inr (some 9))], []) M15 _
  have r17 := hCM15.rng 9 8 (by decide) (by decide)
  refine zG_blk (c' := (93, [.inr (.inr (some 43)), .inr (.inr (some 9))], [.inl (M15 9 8), .inr (.inr (some 43))])) 3 hd0 hz (by rfl) ?_
  refine zG_putf (.inl rfl) hd0 hz rfl (by decide) rfl rfl ?_
  obtain ⟨M18, hM18⟩ : ∃ X : zM, X = zput M15 43 8 (M15 9 8) := ⟨_, rfl⟩
  rw [← hM18]
  have hCM18 : qCI M18 := by rw [hM18]; exact hCM15.put (r := 43) (k := 8) rfl (.inl (by omega))
  have hWM18 : qFr [43, 44, 45, 46, 47, 48, 49, 50, 51, 52, 53, 54, 55, 56, 57, 58, 59] M M18 := by rw [hM18]; exact hWM15.put (by decide)
  have e19 : M18 9 8 = M15 9 8 := by rw [hM18]; exact qput_ne (by decide)
  have e20 : M18 43 8 = (M15 9 8) := by rw [hM18]; exact qput_eq
  show zG n (0, 0) d 26 (96, [.inr (.inr (some 43)), .inr (.inr (some 9))], []) M18 _
  have r21 := hCM18.rng 9 9 (by decide) (by decide)
  refine zG_blk (c' := (101, [.inr (.inr (some 43)), .inr (.inr (some 9))], [.inl (M18 9 9), .inr (.inr (some 43))])) 3 hd0 hz (by rfl) ?_
  refine zG_putf (.inl rfl) hd0 hz rfl (by decide) rfl rfl ?_
  obtain ⟨M22, hM22⟩ : ∃ X : zM, X = zput M18 43 9 (M18 9 9) := ⟨_, rfl⟩
  rw [← hM22]
  have hCM22 : qCI M22 := by rw [hM22]; exact hCM18.put (r := 43) (k := 9) rfl (.inl (by omega))
  have hWM22 : qFr [43, 44, 45, 46, 47, 48, 49, 50, 51, 52, 53, 54, 55, 56, 57, 58, 59] M M22 := by rw [hM22]; exact hWM18.put (by decide)
  have e23 : M22 9 8 = M18 9 8 := by rw [hM22]; exact qput_ne (by decide)
  have e24 : M22 43 8 = M18 43 8 := by rw [hM22]; exact qput_nk (by decide)
  have e25 : M22 9 9 = M18 9 9 := by rw [hM22]; exact qput_ne (by decide)
  have e26 : M22 43 9 = (M18 9 9) := by rw [hM22]; exact qput_eq
  show zG n (0, 0) d 26 (104, [.inr (.inr (some 43)), .inr (.inr (some 9))], []) M22 _
  exact zG_ret hd0 hz rfl rfl ⟨⟨⟨hCM22, hWM22⟩, rfl⟩, by rw [hM22, qput_ne (by decide), hM18, qput_ne (by decide), huM15]; exact hWM13 24 3 (by decide)⟩
theorem qe_26_9_26 {n d : Nat} {M : zM} (hd : 2 ≤ d) (hC : qCI M)  : zG n (0, 0) d 26 (0, zini [.inr (.inr (some 9)), .inr (.inr (some 26))] 2, []) M (fun v M' => (qWf qCI [9, 10, 11, 12, 13, 14, 15, 16, 17, 18, 19, 20, 21, 22, 23, 24, 25] M M' ∧ qRn v) ∧ M' 24 3 = M 41 3) := by
  have hz := zp_26
  have hd0 : 0 < d := by omega
  have hW : qFr [9, 10, 11, 12, 13, 14, 15, 16, 17, 18, 19, 20, 21, 22, 23, 24, 25] M M := qFr.rfl
  show zG n (0, 0) d 26 (0, [.inr (.inr (some 9)), .inr (.inr (some 26))], []) M _
  refine zG_blk (c' := (8, [.inr (.inr (some 9)), .inr (.inr (some 26))], [.inr (.inr (some 27)), .inr (.inr (some 10))])) 4 hd0 hz (by rfl) ?_
  refine zG_call hd0 hz zp_110 rfl rfl (Nat.le_of_ble_eq_true rfl) ⟨Nat.le_refl _, Nat.le_refl _⟩ (qe_takeOver (by omega) hC (⟨by decide, rfl, rfl⟩ : qT n 10 14 4) (⟨by decide, rfl, rfl⟩ : qT n 27 14 4) (by decide)) (fun vr M1 hr => ?_)
  obtain ⟨⟨⟨hCM1, hFM1⟩, rfl⟩, huM1⟩ := hr
  have hWM1 : qFr [9, 10, 11, 12, 13, 14, 15, 16, 17, 18, 19, 20, 21, 22, 23, 24, 25] M M1 := hW.tr hFM1 (by decide)
  show zG n (0, 0) d 26 (11, [.inr (.inr (some 9)), .inr (.inr (some 26))], []) M1 _
  refine zG_blk (c' := (19, [.inr (.inr (some 9)), .inr (.inr (some 26))], [.inr (.inr (some 29)), .inr (.inr (some 12))])) 4 hd0 hz (by rfl) ?_
  refine zG_call hd0 hz zp_110 rfl rfl (Nat.le_of_ble_eq_true rfl) ⟨Nat.le_refl _, Nat.le_refl _⟩ (qe_takeOver (by omega) hCM1 (⟨by decide, rfl, rfl⟩ : qT n 12 20 3) (⟨by decide, rfl, rfl⟩ : qT n 29 20 3) (by decide)) (fun vr M3 hr => ?_)
  obtain ⟨⟨⟨hCM3, hFM3⟩, rfl⟩, huM3⟩ := hr
  have hWM3 : qFr [9, 10, 11, 12, 13, 14, 15, 16, 17, 18, 19, 20, 21, 22, 23, 24, 25] M M3 := hWM1.tr hFM3 (by decide)
  show zG n (0, 0) d 26 (22, [.inr (.inr (some 9)), .inr (.inr (some 26))], []) M3 _
  refine zG_blk (c' := (30, [.inr (.inr (some 9)), .inr (.inr (some 26))], [.inr (.inr (some 31)), .inr (.inr (some 14))])) 4 hd0 hz (by rfl) ?_
  refine zG_call hd0 hz zp_110 rfl rfl (Nat.le_of_ble_eq_true rfl) ⟨Nat.le_refl _, Nat.le_refl _⟩ (qe_takeOver (by omega) hCM3 (⟨by decide, rfl, rfl⟩ : qT n 14 4 2) (⟨by decide, rfl, rfl⟩ : qT n 31 4 2) (by decide)) (fun vr M5 hr => ?_)
  obtain ⟨⟨⟨hCM5, hFM5⟩, rfl⟩, huM5⟩ := hr
  have hWM5 : qFr [9, 10, 11, 12, 13, 14, 15, 16, 17, 18, 19, 20, 21, 22, 23, 24, 25] M M5 := hWM3.tr hFM5 (by decide)
  show zG n (0, 0) d 26 (33, [.inr (.inr (some 9)), .inr (.inr (some 26))], []) M5 _
  refine zG_blk (c' := (41, [.inr (.inr (some 9)), .inr (.inr (some 26))], [.inr (.inr (some 33)), .inr (.inr (some 16))])) 4 hd0 hz (by rfl) ?_
  refine zG_call hd0 hz zp_110 rfl rfl (Nat.le_of_ble_eq_true rfl) ⟨Nat.le_refl _, Nat.le_refl _⟩ (qe_takeOver (by omega) hCM5 (⟨by decide, rfl, rfl⟩ : qT n 16 40 5) (⟨by decide, rfl, rfl⟩ : qT n 33 40 5) (by decide)) (fun vr M7 hr => ?_)
  obtain ⟨⟨⟨hCM7, hFM7⟩, rfl⟩, huM7⟩ := hr
  have hWM7 : qFr [9, 10, 11, 12, 13, 14, 15, 16, 17, 18, 19, 20, 21, 22, 23, 24, 25] M M7 := hWM5.tr hFM7 (by decide)
  show zG n (0, 0) d 26 (44, [.inr (.inr (some 9)), .inr (.inr (some 26))], []) M7 _
  refine zG_blk (c' := (52, [.inr (.inr (some 9)), .inr (.inr (some 26))], [.inr (.inr (some 35)), .inr (.inr (some 18))])) 4 hd0 hz (by rfl) ?_
  refine zG_call hd0 hz zp_110 rfl rfl (Nat.le_of_ble_eq_true rfl) ⟨Nat.le_refl _, Nat.le_refl _⟩ (qe_takeOver (by omega) hCM7 (⟨by decide, rfl, rfl⟩ : qT n 18 250 11) (⟨by decide, rfl, rfl⟩ : qT n 35 250 11) (by decide)) (fun vr M9 hr => ?_)
  obtain ⟨⟨⟨hCM9, hFM9⟩, rfl⟩, huM9⟩ := hr
  have hWM9 : qFr [9, 10, 11, 12, 13, 14, 15, 16, 17, 18, 19, 20, 21, 22, 23, 24, 25] M M9 := hWM7.tr hFM9 (by decide)
  show zG n (0, 0) d 26 (55, [.inr (.inr (some 9)), .inr (.inr (some 26))], []) M9 _
  refine zG_blk (c' := (63, [.inr (.inr (some 9)), .inr (.inr (some 26))], [.inr (.inr (some 37)), .inr (.inr (some 20))])) 4 hd0 hz (by rfl) ?_
  refine zG_call hd0 hz zp_110 rfl rfl (Nat.le_of_ble_eq_true rfl) ⟨Nat.le_refl _, Nat.le_refl _⟩ (qe_takeOver (by omega) hCM9 (⟨by decide, rfl, rfl⟩ : qT n 20 8 81) (⟨by decide, rfl, rfl⟩ : qT n 37 8 81) (by decide)) (fun vr M11 hr => ?_)
  obtain ⟨⟨⟨hCM11, hFM11⟩, rfl⟩, huM11⟩ := hr
  have hWM11 : qFr [9, 10, 11, 12, 13, 14, 15, 16, 17, 18, 19, 20, 21, 22, 23, 24, 25] M M11 := hWM9.tr hFM11 (by decide)
  show zG n (0, 0) d 26 (66, [.inr (.inr (some 9)), .inr (.inr (some 26))], []) M11 _
  refine zG_blk (c' := (74, [.inr (.inr (some 9)), .inr (.inr (some 26))], [.inr (.inr (some 39)), .inr (.inr (some 22))])) 4 hd0 hz (by rfl) ?_
  refine zG_call hd0 hz zp_110 rfl rfl (Nat.le_of_ble_eq_true rfl) ⟨Nat.le_refl _, Nat.le_refl _⟩ (qe_takeOver (by omega) hCM11 (⟨by decide, rfl, rfl⟩ : qT n 22 10 164) (⟨by decide, rfl, rfl⟩ : qT n 39 10 164) (by decide)) (fun vr M13 hr => ?_)
  obtain ⟨⟨⟨hCM13, hFM13⟩, rfl⟩, huM13⟩ := hr
  have hWM13 : qFr [9, 10, 11, 12, 13, 14, 15, 16, 17, 18, 19, 20, 21, 22, 23, 24, 25] M M13 := hWM11.tr hFM13 (by decide)
  show zG n (0, 0) d 26 (77, [.inr (.inr (some 9)), .inr (.inr (some 26))], []) M13 _
  refine zG_blk (c' := (85, [.inr (.inr (some 9)), .inr (.inr (some 26))], [.inr (.inr (some 41)), .inr (.inr (some 24))])) 4 hd0 hz (by rfl) ?_
  refine zG_call hd0 hz zp_110 rfl rfl (Nat.le_of_ble_eq_true rfl) ⟨Nat.le_refl _, Nat.le_refl _⟩ (qe_takeOver (by omega) hCM13 (⟨by decide, rfl, rfl⟩ : qT n 24 12 2) (⟨by decide, rfl, rfl⟩ : qT n 41 12 2) (by decide)) (fun vr M15 hr => ?_)
  obtain ⟨⟨⟨hCM15, hFM15⟩, rfl⟩, huM15⟩ := hr
  have hWM15 : qFr [9, 10, 11, 12, 13, 14, 15, 16, 17, 18, 19, 20, 21, 22, 23, 24, 25] M M15 := hWM13.tr hFM15 (by decide)
  show zG n (0, 0) d 26 (88, [.inr (.inr (some 9)), .inr (.inr (some 26))], []) M15 _
  have r17 := hCM15.rng 26 8 (by decide) (by decide)
  refine zG_blk (c' := (93, [.inr (.inr (some 9)), .inr (.inr (some 26))], [.inl (M15 26 8), .inr (.inr (some 9))])) 3 hd0 hz (by rfl) ?_
  refine zG_putf (.inl rfl) hd0 hz rfl (by decide) rfl rfl ?_
  obtain ⟨M18, hM18⟩ : ∃ X : zM, X = zput M15 9 8 (M15 26 8) := ⟨_, rfl⟩
  rw [← hM18]
  have hCM18 : qCI M18 := by rw [hM18]; exact hCM15.put (r := 9) (k := 8) rfl (.inl (by omega))
  have hWM18 : qFr [9, 10, 11, 12, 13, 14, 15, 16, 17, 18, 19, 20, 21, 22, 23, 24, 25] M M18 := by rw [hM18]; exact hWM15.put (by decide)
  have e19 : M18 26 8 = M15 26 8 := by rw [hM18]; exact qput_ne (by decide)
  have e20 : M18 9 8 = (M15 26 8) := by rw [hM18]; exact qput_eq
  show zG n (0, 0) d 26 (96, [.inr (.inr (some 9)), .inr (.inr (some 26))], []) M18 _
  have r21 := hCM18.rng 26 9 (by decide) (by decide)
  refine zG_blk (c' := (101, [.inr (.inr (some 9)), .inr (.inr (some 26))], [.inl (M18 26 9), .inr (.inr (some 9))])) 3 hd0 hz (by rfl) ?_
  refine zG_putf (.inl rfl) hd0 hz rfl (by decide) rfl rfl ?_
  obtain ⟨M22, hM22⟩ : ∃ X : zM, X = zput M18 9 9 (M18 26 9) := ⟨_, rfl⟩
  rw [← hM22]
  have hCM22 : qCI M22 := by rw [hM22]; exact hCM18.put (r := 9) (k := 9) rfl (.inl (by omega))
  have hWM22 : qFr [9, 10, 11, 12, 13, 14, 15, 16, 17, 18, 19, 20, 21, 22, 23, 24, 25] M M22 := by rw [hM22]; exact hWM18.put (by decide)
  have e23 : M22 26 8 = M18 26 8 := by rw [hM22]; exact qput_ne (by decide)
  have e24 : M22 9 8 = M18 9 8 := by rw [hM22]; exact qput_nk (by decide)
  have e25 : M22 26 9 = M18 26 9 := by rw [hM22]; exact qput_ne (by decide)
  have e26 : M22 9 9 = (M18 26 9) := by rw [hM22]; exact qput_eq
  show zG n (0, 0) d 26 (104, [.inr (.inr (some 9)), .inr (.inr (some 26))], []) M22 _
  exact zG_ret hd0 hz rfl rfl ⟨⟨⟨hCM22, hWM22⟩, rfl⟩, by rw [hM22, qput_ne (by decide), hM18, qput_ne (by decide), huM15]; exact hWM13 41 3 (by decide)⟩
theorem qe_26_9_43 {n d : Nat} {M : zM} (hd : 2 ≤ d) (hC : qCI M)  : zG n (0, 0) d 26 (0, zini [.inr (.inr (some 9)), .inr (.inr (some 43))] 2, []) M (fun v M' => (qWf qCI [9, 10, 11, 12, 13, 14, 15, 16, 17, 18, 19, 20, 21, 22, 23, 24, 25] M M' ∧ qRn v) ∧ M' 24 3 = M 58 3) := by
  have hz := zp_26
  have hd0 : 0 < d := by omega
  have hW : qFr [9, 10, 11, 12, 13, 14, 15, 16, 17, 18, 19, 20, 21, 22, 23, 24, 25] M M := qFr.rfl
  show zG n (0, 0) d 26 (0, [.inr (.inr (some 9)), .inr (.inr (some 43))], []) M _
  refine zG_blk (c' := (8, [.inr (.inr (some 9)), .inr (.inr (some 43))], [.inr (.inr (some 44)), .inr (.inr (some 10))])) 4 hd0 hz (by rfl) ?_
  refine zG_call hd0 hz zp_110 rfl rfl (Nat.le_of_ble_eq_true rfl) ⟨Nat.le_refl _, Nat.le_refl _⟩ (qe_takeOver (by omega) hC (⟨by decide, rfl, rfl⟩ : qT n 10 14 4) (⟨by decide, rfl, rfl⟩ : qT n 44 14 4) (by decide)) (fun vr M1 hr => ?_)
  obtain ⟨⟨⟨hCM1, hFM1⟩, rfl⟩, huM1⟩ := hr
  have hWM1 : qFr [9, 10, 11, 12, 13, 14, 15, 16, 17, 18, 19, 20, 21, 22, 23, 24, 25] M M1 := hW.tr hFM1 (by decide)
  show zG n (0, 0) d 26 (11, [.inr (.inr (some 9)), .inr (.inr (some 43))], []) M1 _
  refine zG_blk (c' := (19, [.inr (.inr (some 9)), .inr (.inr (some 43))], [.inr (.inr (some 46)), .inr (.inr (some 12))])) 4 hd0 hz (by rfl) ?_
  refine zG_call hd0 hz zp_110 rfl rfl (Nat.le_of_ble_eq_true rfl) ⟨Nat.le_refl _, Nat.le_refl _⟩ (qe_takeOver (by omega) hCM1 (⟨by decide, rfl, rfl⟩ : qT n 12 20 3) (⟨by decide, rfl, rfl⟩ : qT n 46 20 3) (by decide)) (fun vr M3 hr => ?_)
  obtain ⟨⟨⟨hCM3, hFM3⟩, rfl⟩, huM3⟩ := hr
  have hWM3 : qFr [9, 10, 11, 12, 13, 14, 15, 16, 17, 18, 19, 20, 21, 22, 23, 24, 25] M M3 := hWM1.tr hFM3 (by decide)
  show zG n (0, 0) d 26 (22, [.inr (.inr (some 9)), .inr (.inr (some 43))], []) M3 _
  refine zG_blk (c' := (30, [.inr (.inr (some 9)), .inr (.inr (some 43))], [.inr (.inr (some 48)), .inr (.inr (some 14))])) 4 hd0 hz (by rfl) ?_
  refine zG_call hd0 hz zp_110 rfl rfl (Nat.le_of_ble_eq_true rfl) ⟨Nat.le_refl _, Nat.le_refl _⟩ (qe_takeOver (by omega) hCM3 (⟨by decide, rfl, rfl⟩ : qT n 14 4 2) (⟨by decide, rfl, rfl⟩ : qT n 48 4 2) (by decide)) (fun vr M5 hr => ?_)
  obtain ⟨⟨⟨hCM5, hFM5⟩, rfl⟩, huM5⟩ := hr
  have hWM5 : qFr [9, 10, 11, 12, 13, 14, 15, 16, 17, 18, 19, 20, 21, 22, 23, 24, 25] M M5 := hWM3.tr hFM5 (by decide)
  show zG n (0, 0) d 26 (33, [.inr (.inr (some 9)), .inr (.inr (some 43))], []) M5 _
  refine zG_blk (c' := (41, [.inr (.inr (some 9)), .inr (.inr (some 43))], [.inr (.inr (some 50)), .inr (.inr (some 16))])) 4 hd0 hz (by rfl) ?_
  refine zG_call hd0 hz zp_110 rfl rfl (Nat.le_of_ble_eq_true rfl) ⟨Nat.le_refl _, Nat.le_refl _⟩ (qe_takeOver (by omega) hCM5 (⟨by decide, rfl, rfl⟩ : qT n 16 40 5) (⟨by decide, rfl, rfl⟩ : qT n 50 40 5) (by decide)) (fun vr M7 hr => ?_)
  obtain ⟨⟨⟨hCM7, hFM7⟩, rfl⟩, huM7⟩ := hr
  have hWM7 : qFr [9, 10, 11, 12, 13, 14, 15, 16, 17, 18, 19, 20, 21, 22, 23, 24, 25] M M7 := hWM5.tr hFM7 (by decide)
  show zG n (0, 0) d 26 (44, [.inr (.inr (some 9)), .inr (.inr (some 43))], []) M7 _
  refine zG_blk (c' := (52, [.inr (.inr (some 9)), .inr (.inr (some 43))], [.inr (.inr (some 52)), .inr (.inr (some 18))])) 4 hd0 hz (by rfl) ?_
  refine zG_call hd0 hz zp_110 rfl rfl (Nat.le_of_ble_eq_true rfl) ⟨Nat.le_refl _, Nat.le_refl _⟩ (qe_takeOver (by omega) hCM7 (⟨by decide, rfl, rfl⟩ : qT n 18 250 11) (⟨by decide, rfl, rfl⟩ : qT n 52 250 11) (by decide)) (fun vr M9 hr => ?_)
  obtain ⟨⟨⟨hCM9, hFM9⟩, rfl⟩, huM9⟩ := hr
  have hWM9 : qFr [9, 10, 11, 12, 13, 14, 15, 16, 17, 18, 19, 20, 21, 22, 23, 24, 25] M M9 := hWM7.tr hFM9 (by decide)
  show zG n (0, 0) d 26 (55, [.inr (.inr (some 9)), .inr (.inr (some 43))], []) M9 _
  refine zG_blk (c' := (63, [.inr (.inr (some 9)), .inr (.inr (some 43))], [.inr (.inr (some 54)), .inr (.inr (some 20))])) 4 hd0 hz (by rfl) ?_
  refine zG_call hd0 hz zp_110 rfl rfl (Nat.le_of_ble_eq_true rfl) ⟨Nat.le_refl _, Nat.le_refl _⟩ (qe_takeOver (by omega) hCM9 (⟨by decide, rfl, rfl⟩ : qT n 20 8 81) (⟨by decide, rfl, rfl⟩ : qT n 54 8 81) (by decide)) (fun vr M11 hr => ?_)
  obtain ⟨⟨⟨hCM11, hFM11⟩, rfl⟩, huM11⟩ := hr
  have hWM11 : qFr [9, 10, 11, 12, 13, 14, 15, 16, 17, 18, 19, 20, 21, 22, 23, 24, 25] M M11 := hWM9.tr hFM11 (by decide)
  show zG n (0, 0) d 26 (66, [.inr (.inr (some 9)), .inr (.inr (some 43))], []) M11 _
  refine zG_blk (c' := (74, [.inr (.inr (some 9)), .inr (.inr (some 43))], [.inr (.inr (some 56)), .inr (.inr (some 22))])) 4 hd0 hz (by rfl) ?_
  refine zG_call hd0 hz zp_110 rfl rfl (Nat.le_of_ble_eq_true rfl) ⟨Nat.le_refl _, Nat.le_refl _⟩ (qe_takeOver (by omega) hCM11 (⟨by decide, rfl, rfl⟩ : qT n 22 10 164) (⟨by decide, rfl, rfl⟩ : qT n 56 10 164) (by decide)) (fun vr M13 hr => ?_)
  obtain ⟨⟨⟨hCM13, hFM13⟩, rfl⟩, huM13⟩ := hr
  have hWM13 : qFr [9, 10, 11, 12, 13, 14, 15, 16, 17, 18, 19, 20, 21, 22, 23, 24, 25] M M13 := hWM11.tr hFM13 (by decide)
  show zG n (0, 0) d 26 (77, [.inr (.inr (some 9)), .inr (.inr (some 43))], []) M13 _
  refine zG_blk (c' := (85, [.inr (.inr (some 9)), .inr (.inr (some 43))], [.inr (.inr (some 58)), .inr (.inr (some 24))])) 4 hd0 hz (by rfl) ?_
  refine zG_call hd0 hz zp_110 rfl rfl (Nat.le_of_ble_eq_true rfl) ⟨Nat.le_refl _, Nat.le_refl _⟩ (qe_takeOver (by omega) hCM13 (⟨by decide, rfl, rfl⟩ : qT n 24 12 2) (⟨by decide, rfl, rfl⟩ : qT n 58 12 2) (by decide)) (fun vr M15 hr => ?_)
  obtain ⟨⟨⟨hCM15, hFM15⟩, rfl⟩, huM15⟩ := hr
  have hWM15 : qFr [9, 10, 11, 12, 13, 14, 15, 16, 17, 18, 19, 20, 21, 22, 23, 24, 25] M M15 := hWM13.tr hFM15 (by decide)
  show zG n (0, 0) d 26 (88, [.inr (.inr (some 9)), .inr (.inr (some 43))], []) M15 _
  have r17 := hCM15.rng 43 8 (by decide) (by decide)
  refine zG_blk (c' := (93, [.inr (.inr (some 9)), .inr (.inr (some 43))], [.inl (M15 43 8), .inr (.inr (some 9))])) 3 hd0 hz (by rfl) ?_
  refine zG_putf (.inl rfl) hd0 hz rfl (by decide) rfl rfl ?_
  obtain ⟨M18, hM18⟩ : ∃ X : zM, X = zput M15 9 8 (M15 43 8) := ⟨_, rfl⟩
  rw [← hM18]
  have hCM18 : qCI M18 := by rw [hM18]; exact hCM15.put (r := 9) (k := 8) rfl (.inl (by omega))
  have hWM18 : qFr [9, 10, 11, 12, 13, 14, 15, 16, 17, 18, 19, 20, 21, 22, 23, 24, 25] M M18 := by rw [hM18]; exact hWM15.put (by decide)
  have e19 : M18 43 8 = M15 43 8 := by rw [hM18]; exact qput_ne (by decide)
  have e20 : M18 9 8 = (M15 43 8) := by rw [hM18]; exact qput_eq
  show zG n (0, 0) d 26 (96, [.inr (.inr (some 9)), .inr (.inr (some 43))], []) M18 _
  have r21 := hCM18.rng 43 9 (by decide) (by decide)
  refine zG_blk (c' := (101, [.inr (.inr (some 9)), .inr (.inr (some 43))], [.inl (M18 43 9), .inr (.inr (some 9))])) 3 hd0 hz (by rfl) ?_
  refine zG_putf (.inl rfl) hd0 hz rfl (by decide) rfl rfl ?_
  obtain ⟨M22, hM22⟩ : ∃ X : zM, X = zput M18 9 9 (M18 43 9) := ⟨_, rfl⟩
  rw [← hM22]
  have hCM22 : qCI M22 := by rw [hM22]; exact hCM18.put (r := 9) (k := 9) rfl (.inl (by omega))
  have hWM22 : qFr [9, 10, 11, 12, 13, 14, 15, 16, 17, 18, 19, 20, 21, 22, 23, 24, 25] M M22 := by rw [hM22]; exact hWM18.put (by decide)
  have e23 : M22 43 8 = M18 43 8 := by rw [hM22]; exact qput_ne (by decide)
  have e24 : M22 9 8 = M18 9 8 := by rw [hM22]; exact qput_nk (by decide)
  have e25 : M22 43 9 = M18 43 9 := by rw [hM22]; exact qput_ne (by decide)
  have e26 : M22 9 9 = (M18 43 9) := by rw [hM22]; exact qput_eq
  show zG n (0, 0) d 26 (104, [.inr (.inr (some 9)), .inr (.inr (some 43))], []) M22 _
  exact zG_ret hd0 hz rfl rfl ⟨⟨⟨hCM22, hWM22⟩, rfl⟩, by rw [hM22, qput_ne (by decide), hM18, qput_ne (by decide), huM15]; exact hWM13 58 3 (by decide)⟩
theorem qe_176_8 {n d : Nat} {M : zM} (hd : 1 ≤ d) (hC : qCI M) (a1 : Int) (ha1 : (-2147483648) ≤ a1 ∧ a1 ≤ 2147483647) : qOkP n d 176 [.inr (.inr (some 8)), .inl a1] 2 M (fun v => (v = some (.inr (.inr (some 26))) ∧ a1 = 0) ∨ (v = some (.inr (.inr (some 43))) ∧ a1 ≠ 0)) := by
  have hz := zp_176
  have hd0 : 0 < d := by omega
  show zG n (0, 0) d 176 (0, [.inr (.inr (some 8)), .inl a1], []) M _
  refine zG_blk (c' := (1, [.inr (.inr (some 8)), .inl a1], [.inl a1])) 1 hd0 hz (by rfl) ?_
  refine zG_if_ne hd0 hz rfl (fun hb1 => ?_) (fun hb1 => ?_)
  · refine zG_blk (c' := (15, [.inr (.inr (some 8)), .inl a1], [.inr (.inr (some 43))])) 2 hd0 hz (by rfl) ?_
    exact zG_ret hd0 hz rfl rfl ⟨rfl, by first | exact .inl ⟨rfl, by omega⟩ | exact .inr ⟨rfl, by omega⟩⟩
  · refine zG_blk (c' := (15, [.inr (.inr (some 8)), .inl a1], [.inr (.inr (some 26))])) 3 hd0 hz (by rfl) ?_
    exact zG_ret hd0 hz rfl rfl ⟨rfl, by first | exact .inl ⟨rfl, by omega⟩ | exact .inr ⟨rfl, by omega⟩⟩
theorem qe_163_8 {n d : Nat} {M : zM} (hd : 2 ≤ d) (hC : qCI M)  : zG n (0, 0) d 163 (0, zini [.inr (.inr (some 8))] 2, []) M (fun v M' => qWf qCI [24] M M' ∧ v = some (.inl (M 24 3)) ∧ M' 24 3 = 0) := by
  have hz := zp_163
  have hd0 : 0 < d := by omega
  have hW : qFr [24] M M := qFr.rfl
  show zG n (0, 0) d 163 (0, [.inr (.inr (some 8)), zN], []) M _
  refine zG_blk (c' := (7, [.inr (.inr (some 8)), zN], [.inr (.inr (some 24))])) 3 hd0 hz (by rfl) ?_
  refine zG_call hd0 hz zp_101 rfl rfl (Nat.le_of_ble_eq_true rfl) ⟨Nat.le_refl _, Nat.le_refl _⟩ (qe_size (by omega) hC (⟨by decide, rfl, rfl⟩ : qT n 24 12 2) ) (fun vr M1 hr => ?_)
  obtain ⟨hq, x2, rfl, hx2⟩ := hr
  replace hq := hq.symm; subst hq
  show zG n (0, 0) d 163 (10, [.inr (.inr (some 8)), zN], [.inl x2]) M _
  refine zG_blk (c' := (18, [.inr (.inr (some 8)), .inl x2], [.inr (.inr (some 24))])) 4 hd0 hz (by rfl) ?_
  refine zG_call hd0 hz zp_104 rfl rfl (Nat.le_of_ble_eq_true rfl) ⟨Nat.le_refl _, Nat.le_refl _⟩ (qe_drop (by omega) hC (⟨by decide, rfl, rfl⟩ : qT n 24 12 2) ) (fun vr M3 hr => ?_)
  obtain ⟨⟨⟨hCM3, hFM3⟩, rfl⟩, huM3⟩ := hr
  have hWM3 : qFr [24] M M3 := hW.tr hFM3 (by decide)
  show zG n (0, 0) d 163 (21, [.inr (.inr (some 8)), .inl x2], []) M3 _
  refine zG_blk (c' := (22, [.inr (.inr (some 8)), .inl x2], [.inl x2])) 1 hd0 hz (by rfl) ?_
  exact zG_ret hd0 hz rfl rfl ⟨⟨hCM3, hWM3⟩, by rw [hx2.2], huM3⟩
theorem qe_162_8 {n d : Nat} {M : zM} (hd : 2 ≤ d) (hC : qCI M) (a1 : Int) (ha1 : (-2147483648) ≤ a1 ∧ a1 ≤ 2147483647) (a2 : Int) (ha2 : (-2147483648) ≤ a2 ∧ a2 ≤ 2147483647) : zG n (0, 0) d 162 (0, zini [.inr (.inr (some 8)), .inl a1, .inl a2] 4, []) M (fun v M' => qWf qCI [24, 25] M M' ∧ ∃ x : Int, v = some (.inl x) ∧ ((x < 0 ∧ M' 24 3 = M 24 3 ∧ (x = -4 → M 24 3 = 12) ∧ (x = -2 → ¬ (0 ≤ a1 ∧ a1 ≤ 1000 ∧ 0 ≤ a2 ∧ a2 ≤ 1000))) ∨ ((0 ≤ a1 ∧ a1 ≤ 1000 ∧ 0 ≤ a2 ∧ a2 ≤ 1000) ∧ M 24 3 < 12 ∧ x = M 24 3 + 1 ∧ M' 24 3 = M 24 3 + 1))) := by
  have hz := zp_162
  have hd0 : 0 < d := by omega
  have hW : qFr [24, 25] M M := qFr.rfl
  have hrw := hC.rows 24 12 2 (by decide)
  show zG n (0, 0) d 162 (0, [.inr (.inr (some 8)), .inl a1, .inl a2, zN], []) M _
  refine zG_blk (c' := (5, [.inr (.inr (some 8)), .inl a1, .inl a2, zN], [.inl 1000, .inl 0, .inl a1])) 3 hd0 hz (by rfl) ?_
  refine zG_call hd0 hz zp_169 rfl rfl (Nat.le_of_ble_eq_true rfl) ⟨Nat.le_refl _, Nat.le_refl _⟩ (qe_within (by omega) a1 0 1000) (fun vr M1 hr => ?_)
  obtain ⟨hq, x2, rfl, hx2⟩ := hr
  replace hq := hq.symm; subst hq
  show zG n (0, 0) d 162 (8, [.inr (.inr (some 8)), .inl a1, .inl a2, zN], [.inl x2]) M _
  have j22 : ¬ (0 ≤ a1 ∧ a1 ≤ 1000 ∧ 0 ≤ a2 ∧ a2 ≤ 1000) → zG n (0, 0) d 162 (22, [.inr (.inr (some 8)), .inl a1, .inl a2, zN], []) M (fun v M' => qWf qCI [24, 25] M M' ∧ ∃ x : Int, v = some (.inl x) ∧ ((x < 0 ∧ M' 24 3 = M 24 3 ∧ (x = -4 → M 24 3 = 12) ∧ (x = -2 → ¬ (0 ≤ a1 ∧ a1 ≤ 1000 ∧ 0 ≤ a2 ∧ a2 ≤ 1000))) ∨ ((0 ≤ a1 ∧ a1 ≤ 1000 ∧ 0 ≤ a2 ∧ a2 ≤ 1000) ∧ M 24 3 < 12 ∧ x = M 24 3 + 1 ∧ M' 24 3 = M 24 3 + 1))) := by
    intro hnok
    refine zG_blk (c' := (24, [.inr (.inr (some 8)), .inl a1, .inl a2, zN], [.inl (-2)])) 1 hd0 hz (by rfl) ?_
    exact zG_ret hd0 hz rfl rfl ⟨⟨hC, hW⟩, _, rfl, by omega⟩
  refine zG_if_eq hd0 hz rfl (fun hb3 => ?_) (fun hb3 => ?_)
  · exact j22 (by omega)
  · refine zG_blk (c' := (16, [.inr (.inr (some 8)), .inl a1, .inl a2, zN], [.inl 1000, .inl 0, .inl a2])) 3 hd0 hz (by rfl) ?_
    refine zG_call hd0 hz zp_169 rfl rfl (Nat.le_of_ble_eq_true rfl) ⟨Nat.le_refl _, Nat.le_refl _⟩ (qe_within (by omega) a2 0 1000) (fun vr M4 hr => ?_)
    obtain ⟨hq, x5, rfl, hx5⟩ := hr
    replace hq := hq.symm; subst hq
    show zG n (0, 0) d 162 (19, [.inr (.inr (some 8)), .inl a1, .inl a2, zN], [.inl x5]) M _
    refine zG_if_ne hd0 hz rfl (fun hb6 => ?_) (fun hb6 => ?_)
    · refine zG_blk (c' := (32, [.inr (.inr (some 8)), .inl a1, .inl a2, zN], [.inr (.inr (some 24))])) 3 hd0 hz (by rfl) ?_
      refine zG_call hd0 hz zp_103 rfl rfl (Nat.le_of_ble_eq_true rfl) ⟨Nat.le_refl _, Nat.le_refl _⟩ (qe_open (by omega) hC (⟨by decide, rfl, rfl⟩ : qT n 24 12 2) ) (fun vr M7 hr => ?_)
      obtain ⟨⟨hCM7, hFM7⟩, x8, rfl, hx8⟩ := hr
      have hWM7 : qFr [24, 25] M M7 := hW.tr hFM7 (by decide)
      show zG n (0, 0) d 162 (35, [.inr (.inr (some 8)), .inl a1, .inl a2, zN], [.inl x8]) M7 _
      refine zG_blk (c' := (39, [.inr (.inr (some 8)), .inl a1, .inl a2, .inl x8], [.inl (-4), .inl x8])) 3 hd0 hz (by rfl) ?_
      refine zG_icmp_ne hd0 hz rfl (fun hb9 => ?_) (fun hb9 => ?_)
      · refine zG_blk (c' := (55, [.inr (.inr (some 8)), .inl a1, .inl a2, .inl x8], [.inl a1, .inl 0, .inl x8, .inr (.inr (some 24))])) 6 hd0 hz (by rfl) ?_
        refine zG_call hd0 hz zp_107 rfl rfl (Nat.le_of_ble_eq_true rfl) ⟨Nat.le_refl _, Nat.le_refl _⟩ (qw_set (by first | exact zdp hd (by decide) | omega) hCM7 (⟨by decide, rfl, rfl⟩ : qT n 24 12 2) x8 (by omega) 0 (by first | decide | omega) a1 (by first | with_reducible exact ha1 | omega)) (fun vr M10 hr => ?_)
        obtain ⟨⟨hCM10, hFM10⟩, rfl⟩ := hr
        have hWM10 : qFr [24, 25] M M10 := hWM7.tr hFM10 (by decide)
        have hu10 : M10 24 3 = M7 24 3 := hFM10 24 3 (by decide)
        show zG n (0, 0) d 162 (58, [.inr (.inr (some 8)), .inl a1, .inl a2, .inl x8], []) M10 _
        refine zG_blk (c' := (68, [.inr (.inr (some 8)), .inl a1, .inl a2, .inl x8], [.inl a2, .inl 1, .inl x8, .inr (.inr (some 24))])) 6 hd0 hz (by rfl) ?_
        refine zG_call hd0 hz zp_107 rfl rfl (Nat.le_of_ble_eq_true rfl) ⟨Nat.le_refl _, Nat.le_refl _⟩ (qw_set (by first | exact zdp hd (by decide) | omega) hCM10 (⟨by decide, rfl, rfl⟩ : qT n 24 12 2) x8 (by omega) 1 (by first | decide | omega) a2 (by first | with_reducible exact ha2 | omega)) (fun vr M12 hr => ?_)
        obtain ⟨⟨hCM12, hFM12⟩, rfl⟩ := hr
        have hWM12 : qFr [24, 25] M M12 := hWM10.tr hFM12 (by decide)
        have hu12 : M12 24 3 = M10 24 3 := hFM12 24 3 (by decide)
        show zG n (0, 0) d 162 (71, [.inr (.inr (some 8)), .inl a1, .inl a2, .inl x8], []) M12 _
        obtain ⟨x14, hx14⟩ : ∃ x : Int, x = w32 (x8 + 1) := ⟨_, rfl⟩
        have hx14e : x14 = x8 + 1 := by rw [hx14]; exact w32_id (by omega)
        refine zG_blk (c' := (74, [.inr (.inr (some 8)), .inl a1, .inl a2, .inl x8], [.inl x14])) 3 hd0 hz (by subst hx14; rfl) ?_
        exact zG_ret hd0 hz rfl rfl ⟨⟨hCM12, hWM12⟩, _, rfl, by omega⟩
      · refine zG_blk (c' := (44, [.inr (.inr (some 8)), .inl a1, .inl a2, .inl x8], [.inl (-4)])) 1 hd0 hz (by rfl) ?_
        exact zG_ret hd0 hz rfl rfl ⟨⟨hCM7, hWM7⟩, _, rfl, by omega⟩
    · exact j22 (by omega)
theorem qe_165_8 {n d : Nat} {M : zM} (hd : 3 ≤ d) (hC : qCI M) (a1 : Int) (ha1 : (-2147483648) ≤ a1 ∧ a1 ≤ 2147483647) : zG n (0, 0) d 165 (0, zini [.inr (.inr (some 8)), .inl a1] 2, []) M (fun v M' => qWf qCI [8, 26, 27, 28, 29, 30, 31, 32, 33, 34, 35, 36, 37, 38, 39, 40, 41, 42, 43, 44, 45, 46, 47, 48, 49, 50, 51, 52, 53, 54, 55, 56, 57, 58, 59] M M' ∧ ((v = some (.inl (-2)) ∧ ¬ (0 ≤ a1 ∧ a1 ≤ 1) ∧ M' = M) ∨ (v = some (.inl 1) ∧ (0 ≤ a1 ∧ a1 ≤ 1) ∧ M' 24 3 = M 24 3 ∧ M' 8 3 = zbor (M 8 3) (zbshl 1 a1) ∧ (a1 = 0 → M' 41 3 = M 24 3 ∧ M' 58 3 = M 58 3) ∧ (a1 = 1 → M' 58 3 = M 24 3 ∧ M' 41 3 = M 41 3)))) := by
  have hz := zp_165
  have hd0 : 0 < d := by omega
  have hW : qFr [8, 26, 27, 28, 29, 30, 31, 32, 33, 34, 35, 36, 37, 38, 39, 40, 41, 42, 43, 44, 45, 46, 47, 48, 49, 50, 51, 52, 53, 54, 55, 56, 57, 58, 59] M M := qFr.rfl
  show zG n (0, 0) d 165 (0, [.inr (.inr (some 8)), .inl a1], []) M _
  refine zG_blk (c' := (3, [.inr (.inr (some 8)), .inl a1], [.inl 1, .inl 0, .inl a1])) 3 hd0 hz (by rfl) ?_
  refine zG_call hd0 hz zp_169 rfl rfl (Nat.le_of_ble_eq_true rfl) ⟨Nat.le_refl _, Nat.le_refl _⟩ (qe_within (by omega) a1 0 1) (fun vr M1 hr => ?_)
  obtain ⟨hq, x2, rfl, hx2⟩ := hr
  replace hq := hq.symm; subst hq
  show zG n (0, 0) d 165 (6, [.inr (.inr (some 8)), .inl a1], [.inl x2]) M _
  refine zG_if_ne hd0 hz rfl (fun hb3 => ?_) (fun hb3 => ?_)
  · refine zG_blk (c' := (14, [.inr (.inr (some 8)), .inl a1], [.inl a1, .inr (.inr (some 8))])) 2 hd0 hz (by rfl) ?_
    refine zG_call hd0 hz zp_176 rfl rfl (Nat.le_of_ble_eq_true rfl) ⟨Nat.le_refl _, Nat.le_refl _⟩ (qe_176_8 (by omega) hC  a1 (by first | with_reducible exact ha1 | omega)) (fun vr M4 hr => ?_)
    obtain ⟨hq, hv⟩ := hr
    replace hq := hq.symm; subst hq
    rcases hv with ⟨rfl, ha9⟩ | ⟨rfl, ha9⟩
    · show zG n (0, 0) d 165 (17, [.inr (.inr (some 8)), .inl a1], [.inr (.inr (some 26))]) M _
      refine zG_blk (c' := (21, [.inr (.inr (some 8)), .inl a1], [.inr (.inr (some 9)), .inr (.inr (some 26))])) 2 hd0 hz (by rfl) ?_
      refine zG_call hd0 hz zp_26 rfl rfl (Nat.le_of_ble_eq_true rfl) ⟨Nat.le_refl _, Nat.le_refl _⟩ (qe_26_26_9 (by omega) hC  ) (fun vr M6 hr => ?_)
      obtain ⟨⟨⟨hCM6, hFM6⟩, rfl⟩, huM6⟩ := hr
      have hWM6 : qFr [8, 26, 27, 28, 29, 30, 31, 32, 33, 34, 35, 36, 37, 38, 39, 40, 41, 42, 43, 44, 45, 46, 47, 48, 49, 50, 51, 52, 53, 54, 55, 56, 57, 58, 59] M M6 := hW.tr hFM6 (by decide)
      show zG n (0, 0) d 165 (24, [.inr (.inr (some 8)), .inl a1], []) M6 _
      have r8 := hCM6.rng 8 3 (by decide) (by decide)
      obtain ⟨x9, hx9⟩ : ∃ x : Int, x = zbshl 1 a1 := ⟨_, rfl⟩
      have hx9r : qin x9 := by rw [hx9]; exact qb32 _
      obtain ⟨x10, hx10⟩ : ∃ x : Int, x = zbor (M6 8 3) x9 := ⟨_, rfl⟩
      have hx10r : qin x10 := by rw [hx10]; exact qb32 _
      refine zG_blk (c' := (33, [.inr (.inr (some 8)), .inl a1], [.inl x10, .inr (.inr (some 8))])) 7 hd0 hz (by subst hx10; subst hx9; rfl) ?_
      refine zG_putf (.inl rfl) hd0 hz rfl (by decide) rfl rfl ?_
      obtain ⟨M11, hM11⟩ : ∃ X : zM, X = zput M6 8 3 x10 := ⟨_, rfl⟩
      rw [← hM11]
      have hCM11 : qCI M11 := by rw [hM11]; exact hCM6.put (r := 8) (k := 3) rfl (.inl (by omega))
      have hWM11 : qFr [8, 26, 27, 28, 29, 30, 31, 32, 33, 34, 35, 36, 37, 38, 39, 40, 41, 42, 43, 44, 45, 46, 47, 48, 49, 50, 51, 52, 53, 54, 55, 56, 57, 58, 59] M M11 := by rw [hM11]; exact hWM6.put (by decide)
      have e12 : M11 8 3 = x10 := by rw [hM11]; exact qput_eq
      show zG n (0, 0) d 165 (36, [.inr (.inr (some 8)), .inl a1], []) M11 _
      refine zG_blk (c' := (37, [.inr (.inr (some 8)), .inl a1], [.inl 1])) 1 hd0 hz (by rfl) ?_
      exact zG_ret hd0 hz rfl rfl ⟨⟨hCM11, hWM11⟩, .inr ⟨rfl, by omega, by rw [hM11, qput_ne (by decide)]; exact hFM6 24 3 (by decide), by rw [e12, hx10, hx9, hFM6 8 3 (by decide)], fun _ => ⟨by rw [hM11, qput_ne (by decide)]; exact huM6, by rw [hM11, qput_ne (by decide)]; exact hFM6 58 3 (by decide)⟩, fun h => by omega⟩⟩
    · show zG n (0, 0) d 165 (17, [.inr (.inr (some 8)), .inl a1], [.inr (.inr (some 43))]) M _
      refine zG_blk (c' := (21, [.inr (.inr (some 8)), .inl a1], [.inr (.inr (some 9)), .inr (.inr (some 43))])) 2 hd0 hz (by rfl) ?_
      refine zG_call hd0 hz zp_26 rfl rfl (Nat.le_of_ble_eq_true rfl) ⟨Nat.le_refl _, Nat.le_refl _⟩ (qe_26_43_9 (by omega) hC  ) (fun vr M13 hr => ?_)
      obtain ⟨⟨⟨hCM13, hFM13⟩, rfl⟩, huM13⟩ := hr
      have hWM13 : qFr [8, 26, 27, 28, 29, 30, 31, 32, 33, 34, 35, 36, 37, 38, 39, 40, 41, 42, 43, 44, 45, 46, 47, 48, 49, 50, 51, 52, 53, 54, 55, 56, 57, 58, 59] M M13 := hW.tr hFM13 (by decide)
      show zG n (0, 0) d 165 (24, [.inr (.inr (some 8)), .inl a1], []) M13 _
      have r15 := hCM13.rng 8 3 (by decide) (by decide)
      obtain ⟨x16, hx16⟩ : ∃ x : Int, x = zbshl 1 a1 := ⟨_, rfl⟩
      have hx16r : qin x16 := by rw [hx16]; exact qb32 _
      obtain ⟨x17, hx17⟩ : ∃ x : Int, x = zbor (M13 8 3) x16 := ⟨_, rfl⟩
      have hx17r : qin x17 := by rw [hx17]; exact qb32 _
      refine zG_blk (c' := (33, [.inr (.inr (some 8)), .inl a1], [.inl x17, .inr (.inr (some 8))])) 7 hd0 hz (by subst hx17; subst hx16; rfl) ?_
      refine zG_putf (.inl rfl) hd0 hz rfl (by decide) rfl rfl ?_
      obtain ⟨M18, hM18⟩ : ∃ X : zM, X = zput M13 8 3 x17 := ⟨_, rfl⟩
      rw [← hM18]
      have hCM18 : qCI M18 := by rw [hM18]; exact hCM13.put (r := 8) (k := 3) rfl (.inl (by omega))
      have hWM18 : qFr [8, 26, 27, 28, 29, 30, 31, 32, 33, 34, 35, 36, 37, 38, 39, 40, 41, 42, 43, 44, 45, 46, 47, 48, 49, 50, 51, 52, 53, 54, 55, 56, 57, 58, 59] M M18 := by rw [hM18]; exact hWM13.put (by decide)
      have e19 : M18 8 3 = x17 := by rw [hM18]; exact qput_eq
      show zG n (0, 0) d 165 (36, [.inr (.inr (some 8)), .inl a1], []) M18 _
      refine zG_blk (c' := (37, [.inr (.inr (some 8)), .inl a1], [.inl 1])) 1 hd0 hz (by rfl) ?_
      exact zG_ret hd0 hz rfl rfl ⟨⟨hCM18, hWM18⟩, .inr ⟨rfl, by omega, by rw [hM18, qput_ne (by decide)]; exact hFM13 24 3 (by decide), by rw [e19, hx17, hx16, hFM13 8 3 (by decide)], fun h => by omega, fun _ => ⟨by rw [hM18, qput_ne (by decide)]; exact huM13, by rw [hM18, qput_ne (by decide)]; exact hFM13 41 3 (by decide)⟩⟩⟩
  · refine zG_blk (c' := (11, [.inr (.inr (some 8)), .inl a1], [.inl (-2)])) 1 hd0 hz (by rfl) ?_
    exact zG_ret hd0 hz rfl rfl ⟨⟨hC, hW⟩, .inl ⟨rfl, by omega, rfl⟩⟩
theorem qe_166_8 {n d : Nat} {M : zM} (hd : 3 ≤ d) (hC : qCI M) (a1 : Int) (ha1 : (-2147483648) ≤ a1 ∧ a1 ≤ 2147483647) : zG n (0, 0) d 166 (0, zini [.inr (.inr (some 8)), .inl a1] 2, []) M (fun v M' => qWf qCI [9, 10, 11, 12, 13, 14, 15, 16, 17, 18, 19, 20, 21, 22, 23, 24, 25] M M' ∧ ((v = some (.inl (-2)) ∧ ¬ (0 ≤ a1 ∧ a1 ≤ 1) ∧ M' = M) ∨ (v = some (.inl (-3)) ∧ (0 ≤ a1 ∧ a1 ≤ 1) ∧ zband (zbshr (M 8 3) a1) 1 = 0 ∧ M' = M) ∨ (v = some (.inl 1) ∧ (0 ≤ a1 ∧ a1 ≤ 1) ∧ zband (zbshr (M 8 3) a1) 1 ≠ 0 ∧ (a1 = 0 → M' 24 3 = M 41 3) ∧ (a1 = 1 → M' 24 3 = M 58 3)))) := by
  have hz := zp_166
  have hd0 : 0 < d := by omega
  have hW : qFr [9, 10, 11, 12, 13, 14, 15, 16, 17, 18, 19, 20, 21, 22, 23, 24, 25] M M := qFr.rfl
  show zG n (0, 0) d 166 (0, [.inr (.inr (some 8)), .inl a1], []) M _
  refine zG_blk (c' := (3, [.inr (.inr (some 8)), .inl a1], [.inl 1, .inl 0, .inl a1])) 3 hd0 hz (by rfl) ?_
  refine zG_call hd0 hz zp_169 rfl rfl (Nat.le_of_ble_eq_true rfl) ⟨Nat.le_refl _, Nat.le_refl _⟩ (qe_within (by omega) a1 0 1) (fun vr M1 hr => ?_)
  obtain ⟨hq, x2, rfl, hx2⟩ := hr
  replace hq := hq.symm; subst hq
  show zG n (0, 0) d 166 (6, [.inr (.inr (some 8)), .inl a1], [.inl x2]) M _
  refine zG_if_ne hd0 hz rfl (fun hb3 => ?_) (fun hb3 => ?_)
  · have r4 := hC.rng 8 3 (by decide) (by decide)
    obtain ⟨x5, hx5⟩ : ∃ x : Int, x = zbshr (M 8 3) a1 := ⟨_, rfl⟩
    have hx5r : qin x5 := by rw [hx5]; exact qb32 _
    obtain ⟨x6, hx6⟩ : ∃ x : Int, x = zband x5 1 := ⟨_, rfl⟩
    have hx6r := qband_r x5 1 (by first | decide | omega) (by omega); rw [← hx6] at hx6r
    refine zG_blk (c' := (20, [.inr (.inr (some 8)), .inl a1], [.inl x6])) 6 hd0 hz (by subst hx6; subst hx5; rfl) ?_
    refine zG_if_ne hd0 hz rfl (fun hb7 => ?_) (fun hb7 => ?_)
    · refine zG_blk (c' := (32, [.inr (.inr (some 8)), .inl a1], [.inl a1, .inr (.inr (some 8)), .inr (.inr (some 9))])) 4 hd0 hz (by rfl) ?_
      refine zG_call hd0 hz zp_176 rfl rfl (Nat.le_of_ble_eq_true rfl) ⟨Nat.le_refl _, Nat.le_refl _⟩ (qe_176_8 (by omega) hC  a1 (by first | with_reducible exact ha1 | omega)) (fun vr M8 hr => ?_)
      obtain ⟨hq, hv⟩ := hr
      replace hq := hq.symm; subst hq
      rcases hv with ⟨rfl, ha9⟩ | ⟨rfl, ha9⟩
      · show zG n (0, 0) d 166 (35, [.inr (.inr (some 8)), .inl a1], [.inr (.inr (some 26)), .inr (.inr (some 9))]) M _
        refine zG_call hd0 hz zp_26 rfl rfl (Nat.le_of_ble_eq_true rfl) ⟨Nat.le_refl _, Nat.le_refl _⟩ (qe_26_9_26 (by omega) hC  ) (fun vr M10 hr => ?_)
        obtain ⟨⟨⟨hCM10, hFM10⟩, rfl⟩, huM10⟩ := hr
        have hWM10 : qFr [9, 10, 11, 12, 13, 14, 15, 16, 17, 18, 19, 20, 21, 22, 23, 24, 25] M M10 := hW.tr hFM10 (by decide)
        have e12 : M10 8 3 = M 8 3 := hFM10 8 3 (by decide)
        show zG n (0, 0) d 166 (38, [.inr (.inr (some 8)), .inl a1], []) M10 _
        refine zG_blk (c' := (39, [.inr (.inr (some 8)), .inl a1], [.inl 1])) 1 hd0 hz (by rfl) ?_
        exact zG_ret hd0 hz rfl rfl ⟨⟨hCM10, hWM10⟩, .inr (.inr ⟨rfl, by omega, by rw [← hx5, ← hx6]; exact hb7, fun _ => huM10, fun h => by omega⟩)⟩
      · show zG n (0, 0) d 166 (35, [.inr (.inr (some 8)), .inl a1], [.inr (.inr (some 43)), .inr (.inr (some 9))]) M _
        refine zG_call hd0 hz zp_26 rfl rfl (Nat.le_of_ble_eq_true rfl) ⟨Nat.le_refl _, Nat.le_refl _⟩ (qe_26_9_43 (by omega) hC  ) (fun vr M13 hr => ?_)
        obtain ⟨⟨⟨hCM13, hFM13⟩, rfl⟩, huM13⟩ := hr
        have hWM13 : qFr [9, 10, 11, 12, 13, 14, 15, 16, 17, 18, 19, 20, 21, 22, 23, 24, 25] M M13 := hW.tr hFM13 (by decide)
        have e15 : M13 8 3 = M 8 3 := hFM13 8 3 (by decide)
        show zG n (0, 0) d 166 (38, [.inr (.inr (some 8)), .inl a1], []) M13 _
        refine zG_blk (c' := (39, [.inr (.inr (some 8)), .inl a1], [.inl 1])) 1 hd0 hz (by rfl) ?_
        exact zG_ret hd0 hz rfl rfl ⟨⟨hCM13, hWM13⟩, .inr (.inr ⟨rfl, by omega, by rw [← hx5, ← hx6]; exact hb7, fun h => by omega, fun _ => huM13⟩)⟩
    · refine zG_blk (c' := (25, [.inr (.inr (some 8)), .inl a1], [.inl (-3)])) 1 hd0 hz (by rfl) ?_
      exact zG_ret hd0 hz rfl rfl ⟨⟨hC, hW⟩, .inr (.inl ⟨rfl, by omega, by rw [← hx5, ← hx6]; omega, rfl⟩)⟩
  · refine zG_blk (c' := (11, [.inr (.inr (some 8)), .inl a1], [.inl (-2)])) 1 hd0 hz (by rfl) ?_
    exact zG_ret hd0 hz rfl rfl ⟨⟨hC, hW⟩, .inl ⟨rfl, by omega, rfl⟩⟩
