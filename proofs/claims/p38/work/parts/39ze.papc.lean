/-! HOURS: THE CLASS -/
noncomputable def hf_72_87 (M : zM) (a1 : Int) (a2 : Int) : Int :=
  (if ¬ (zband (M 90 (a1 : Int).toNat) (M 88 (a2 : Int).toNat)) = 0 then 0 else (if (M 87 6) < (w32 ((M 91 (a1 : Int).toNat) + (hf_296 M (M 88 (a2 : Int).toNat)))) then 0 else 1))
set_option maxRecDepth 100000 in
theorem fh_72_87 {n : Nat} {M : zM} (a1 : Int) (a2 : Int) : zH n (0, 0) 72 (0, zini [zR 87, .inl a1, .inl a2] 3, []) M (fun r M' => r = some (.inl (hf_72_87 M a1 a2)) ∧ M' = M) := by
  have hz := zp_72
  have hE : hf_72_87 M a1 a2 = hf_72_87 M a1 a2 := rfl
  show zH n (0, 0) 72 (0, [zR 87, .inl a1, .inl a2], []) M _
  refine zH_w (c' := (5, [zR 87, .inl a1, .inl a2], [.inl a1, zR 90])) 3 hz rfl ?_
  refine zH_iald hz rfl rfl (.inl rfl) (fun _ => ?_)
  show zH n (0, 0) 72 (6, [zR 87, .inl a1, .inl a2], [.inl (M 90 (a1 : Int).toNat)]) M _
  refine zH_w (c' := (11, [zR 87, .inl a1, .inl a2], [.inl a2, zR 88, .inl (M 90 (a1 : Int).toNat)])) 3 hz rfl ?_
  refine zH_iald hz rfl rfl (.inl rfl) (fun _ => ?_)
  show zH n (0, 0) 72 (12, [zR 87, .inl a1, .inl a2], [.inl (M 88 (a2 : Int).toNat), .inl (M 90 (a1 : Int).toNat)]) M _
  refine zH_wf_ne (pc := 13) (n' := 16) (t := 43) (L := [zR 87, .inl a1, .inl a2]) (st := []) (x := (zband (M 90 (a1 : Int).toNat) (M 88 (a2 : Int).toNat))) 1 hz (by rfl) (fun hb => ?_) (fun hb => ?_)
  · have hE := hE.trans (if_pos hb)
    refine zH_w (c' := (44, [zR 87, .inl a1, .inl a2], [.inl 0])) 1 hz rfl ?_
    exact zH_zret hz rfl (hfinP hE)
  · have hE := hE.trans (if_neg hb)
    refine zH_w (c' := (21, [zR 87, .inl a1, .inl a2], [.inl a1, zR 91])) 3 hz rfl ?_
    refine zH_iald hz rfl rfl (.inl rfl) (fun _ => ?_)
    show zH n (0, 0) 72 (22, [zR 87, .inl a1, .inl a2], [.inl (M 91 (a1 : Int).toNat)]) M _
    refine zH_w (c' := (27, [zR 87, .inl a1, .inl a2], [.inl a2, zR 88, .inl (M 91 (a1 : Int).toNat)])) 3 hz rfl ?_
    refine zH_iald hz rfl rfl (.inl rfl) (fun _ => ?_)
    show zH n (0, 0) 72 (28, [zR 87, .inl a1, .inl a2], [.inl (M 88 (a2 : Int).toNat), .inl (M 91 (a1 : Int).toNat)]) M _
    refine zH_wE (c1 := (31, [zR 87, .inl a1, .inl a2], [.inl (M 91 (a1 : Int).toNat)])) 0 hz zp_296 (fh_296 (M 88 (a2 : Int).toNat)) (by rfl) ?_
    show zH n (0, 0) 72 (31, [zR 87, .inl a1, .inl a2], [.inl (hf_296 M (M 88 (a2 : Int).toNat)), .inl (M 91 (a1 : Int).toNat)]) M _
    refine zH_wi_gt (pc := 36) (n' := 39) (t := 43) (L := [zR 87, .inl a1, .inl a2]) (st := []) (x := (w32 ((M 91 (a1 : Int).toNat) + (hf_296 M (M 88 (a2 : Int).toNat))))) (y := (M 87 6)) 3 hz (by rfl) (fun hb => ?_) (fun hb => ?_)
    · have hE := hE.trans (if_pos hb)
      refine zH_w (c' := (44, [zR 87, .inl a1, .inl a2], [.inl 0])) 1 hz rfl ?_
      exact zH_zret hz rfl (hfinP hE)
    · have hE := hE.trans (if_neg hb)
      refine zH_w (c' := (44, [zR 87, .inl a1, .inl a2], [.inl 1])) 2 hz rfl ?_
      exact zH_zret hz rfl (hfinP hE)
noncomputable def hf_69_87 (M : zM) (a1 : Int) : Int :=
  (if a1 < 0 then (-1) else (if (M 87 5) ≤ a1 then (-1) else (if 9 ≤ a1 then (-1) else M 89 (a1 : Int).toNat)))
set_option maxRecDepth 100000 in
theorem fh_69_87 {n : Nat} {M : zM} (a1 : Int) : zH n (0, 0) 69 (0, zini [zR 87, .inl a1] 2, []) M (fun r M' => r = some (.inl (hf_69_87 M a1)) ∧ M' = M) := by
  have hz := zp_69
  have hE : hf_69_87 M a1 = hf_69_87 M a1 := rfl
  show zH n (0, 0) 69 (0, [zR 87, .inl a1], []) M _
  refine zH_wf_lt (pc := 1) (n' := 4) (t := 30) (L := [zR 87, .inl a1]) (st := []) (x := a1) 1 hz (by rfl) (fun hb => ?_) (fun hb => ?_)
  · have hE := hE.trans (if_pos hb)
    exact zH_wr (r := some (.inl (-1))) 1 hz (by rfl) (hfinP hE)
  · have hE := hE.trans (if_neg hb)
    refine zH_wi_ge (pc := 9) (n' := 12) (t := 30) (L := [zR 87, .inl a1]) (st := []) (x := a1) (y := (M 87 5)) 3 hz (by rfl) (fun hb => ?_) (fun hb => ?_)
    · have hE := hE.trans (if_pos hb)
      exact zH_wr (r := some (.inl (-1))) 1 hz (by rfl) (hfinP hE)
    · have hE := hE.trans (if_neg hb)
      refine zH_wi_ge (pc := 18) (n' := 21) (t := 30) (L := [zR 87, .inl a1]) (st := []) (x := a1) (y := 9) 4 hz (by rfl) (fun hb => ?_) (fun hb => ?_)
      · have hE := hE.trans (if_pos hb)
        exact zH_wr (r := some (.inl (-1))) 1 hz (by rfl) (hfinP hE)
      · have hE := hE.trans (if_neg hb)
        refine zH_w (c' := (26, [zR 87, .inl a1], [.inl a1, zR 89])) 3 hz rfl ?_
        refine zH_iald hz rfl rfl (.inl rfl) (fun _ => ?_)
        show zH n (0, 0) 69 (27, [zR 87, .inl a1], [.inl (M 89 (a1 : Int).toNat)]) M _
        exact zH_wr (r := some (.inl (M 89 (a1 : Int).toNat))) 1 hz (by rfl) (hfinP hE)
section PK
variable {M M' : zM}
/-- who sits, as bits -/
noncomputable def hMk (M : zM) (c : Int) : Nat → Int
  | 0 => 0
  | i + 1 => if hbt M i c = 1 then zbor (hMk M c i) (zbshl 1 (i : Int)) else hMk M c i
theorem hMk_s (M : zM) (c : Int) (i : Nat) : hMk M c (i + 1) = if hbt M i c = 1 then zbor (hMk M c i) (zbshl 1 (i : Int)) else hMk M c i := rfl
theorem k2p : ∀ k : Fin 31, zbshl 1 (k.val : Int) = ((2 ^ k.val : Nat) : Int) := by decide +kernel
theorem k_or {x : Int} {c : Nat} (hc : c ≤ 20) (hx : 0 ≤ x ∧ x < ((2 ^ c : Nat) : Int)) : zbor x (zbshl 1 (c : Int)) = x + ((2 ^ c : Nat) : Int) := by
  have hp : 1 ≤ 2 ^ c ∧ 2 ^ c ≤ 1048576 := ⟨Nat.one_le_two_pow, Nat.pow_le_pow_right (n := 2) (by decide) (show c ≤ 20 by omega)⟩
  have hc2 : x.toNat < 2 ^ c := by omega
  rw [show zbshl 1 (c : Int) = ((2 ^ c : Nat) : Int) from k2p ⟨c, by omega⟩, qbor_N x _ (by omega) (by omega), Int.toNat_natCast, Nat.or_two_pow_eq_add_of_lt hc2]
  omega
theorem hMk_r (M : zM) (c : Int) : ∀ i : Nat, i ≤ 20 → 0 ≤ hMk M c i ∧ hMk M c i < ((2 ^ i : Nat) : Int)
  | 0, _ => by show 0 ≤ (0 : Int) ∧ (0 : Int) < ((2 ^ 0 : Nat) : Int); decide
  | i + 1, hi => by
    have q := hMk_r M c i (by omega)
    rw [hMk_s, Nat.pow_succ]
    split
    · rw [k_or (by omega) q]; omega
    · omega
theorem hMk_20 (M : zM) (c : Int) {i : Nat} (hi : i ≤ 20) : 0 ≤ hMk M c i ∧ hMk M c i < 1048576 := by
  have q := hMk_r M c i hi
  have := Nat.pow_le_pow_right (n := 2) (by decide) hi
  omega
theorem hMk_n (M : zM) (c : Int) {i : Nat} (hi : i + 1 ≤ 20) : (hMk M c (i + 1)).toNat = 2 ^ i * (hbt M i c).toNat + (hMk M c i).toNat := by
  have q := hMk_r M c i (by omega)
  have b := hbt_r M i c
  rw [hMk_s]
  by_cases e : hbt M i c = 1
  · rw [if_pos e, k_or (by omega) q, e, show (1 : Int).toNat = 1 from rfl]; omega
  · rw [if_neg e, show (hbt M i c).toNat = 0 by omega]; omega
theorem hMk_c (M : zM) (c : Int) : ∀ i : Nat, i ≤ 20 → ((qpc i (hMk M c i).toNat : Nat) : Int) = hS M c i
  | 0, _ => rfl
  | i + 1, hi => by
    have q := hMk_c M c i (by omega)
    have r := hMk_r M c i (by omega)
    have b := hbt_r M i c
    have hp : 0 < 2 ^ i := Nat.two_pow_pos _
    rw [hMk_n M c hi, qpc_next, qpc_low, hS_s, ← q, Nat.mul_add_div hp, Nat.div_eq_of_lt (show (hMk M c i).toNat < 2 ^ i by omega)]
    omega
theorem hMk_b {M : zM} {n : Nat} (hn : n ≤ 20) (c : Int) : hf_296 M' (hMk M c n) = hS M c n := by
  have r := hMk_20 M c hn
  have r2 := hMk_r M c n hn
  rw [hbc20 r, ← hMk_c M c n hn]
  have q := qpc_add n (20 - n) (hMk M c n).toNat
  rw [show n + (20 - n) = 20 by omega, Nat.div_eq_of_lt (show (hMk M c n).toNat < 2 ^ n by omega)] at q
  have z : ∀ j, qpc j 0 = 0 := fun j => by
    induction j with
    | zero => rfl
    | succ j ih => show 0 % 2 + qpc j (0 / 2) = 0; rw [Nat.zero_div, ih]
  rw [z] at q
  rw [q, Nat.add_zero]
theorem hMk_ap (M : zM) (a b : Int) : ∀ n : Nat, n ≤ 20 → ((hMk M a n).toNat &&& (hMk M b n).toNat = 0 ↔ hAp M a b n = true)
  | 0, _ => ⟨fun _ => rfl, fun _ => by show (0 : Int).toNat &&& (0 : Int).toNat = 0; exact Nat.zero_and _⟩
  | i + 1, hi => by
    have q := hMk_ap M a b i (by omega)
    have ra := hMk_r M a i (by omega)
    have rb := hMk_r M b i (by omega)
    have ba := hbt_r M i a
    have bb := hbt_r M i b
    have hp : 0 < 2 ^ i := Nat.two_pow_pos _
    rw [hMk_n M a hi, hMk_n M b hi, and_pw i _ _ (by omega) (by omega), hAp_s]
    by_cases e : hbt M i a = 1 ∧ hbt M i b = 1
    · rw [if_pos e, e.1, e.2, show (1 : Int).toNat &&& (1 : Int).toNat = 1 from rfl]
      exact ⟨fun z => by omega, fun z => Bool.noConfusion z⟩
    · have z : (hbt M i a).toNat &&& (hbt M i b).toNat = 0 := by
        rcases (by omega : hbt M i a = 0 ∨ hbt M i b = 0) with k | k
        · rw [k, show (0 : Int).toNat = 0 from rfl, Nat.zero_and]
        · rw [k, show (0 : Int).toNat = 0 from rfl, Nat.and_zero]
      rw [if_neg e, z, Nat.mul_zero, Nat.zero_add]
      exact q
/-- what lies in hour g of the first papers -/
noncomputable def gM (mk h : Nat → Int) (g : Int) : Nat → Int
  | 0 => 0
  | j + 1 => if h j = g then zbor (gM mk h g j) (mk j) else gM mk h g j
theorem gM_s (mk h : Nat → Int) (g : Int) (j : Nat) : gM mk h g (j + 1) = if h j = g then zbor (gM mk h g j) (mk j) else gM mk h g j := rfl
theorem gM_cg {mk h f : Nat → Int} {u : Int} : ∀ (j : Nat), (∀ i, i < j → f i = h i) → gM mk f u j = gM mk h u j
  | 0, _ => rfl
  | j + 1, e => by rw [gM_s, gM_s, gM_cg j (fun i hi => e i (by omega)), e j (by omega)]
theorem gM_no {mk h : Nat → Int} {u : Int} : ∀ (j : Nat), (∀ i, i < j → h i ≠ u) → gM mk h u j = 0
  | 0, _ => rfl
  | j + 1, e => by rw [gM_s, if_neg (e j (by omega)), gM_no j (fun i hi => e i (by omega))]
theorem gS_no {b h : Nat → Int} {u : Int} : ∀ (j : Nat), (∀ i, i < j → h i ≠ u) → gS b h u j = 0
  | 0, _ => rfl
  | j + 1, e => by rw [gS_s, if_neg (e j (by omega)), gS_no j (fun i hi => e i (by omega))]
theorem us_lt {h : Nat → Int} : ∀ (i j : Nat), j < i → h j < us h i
  | 0, j, e => absurd e (Nat.not_lt_zero _)
  | i + 1, j, e => by
    rw [us_s]
    by_cases z : j = i
    · rw [z]; split <;> omega
    · have q := us_lt i j (by omega) (h := h); split <;> omega
theorem gM_r {mk h : Nat → Int} (hm : ∀ j, 0 ≤ mk j ∧ mk j < 1048576) (u : Int) : ∀ j : Nat, 0 ≤ gM mk h u j ∧ gM mk h u j < 1048576
  | 0 => by show 0 ≤ (0 : Int) ∧ (0 : Int) < 1048576; decide
  | j + 1 => by
    have q := gM_r (h := h) hm u j
    have m := hm j
    rw [gM_s]
    split
    · rw [qbor_N _ _ (by omega) (by omega)]
      have k := Nat.or_lt_two_pow (n := 20) (x := (gM mk h u j).toNat) (y := (mk j).toNat) (by omega) (by omega)
      omega
    · exact q
/-- free of what lies there: free of each -/
theorem gM_ap {mk h : Nat → Int} (hm : ∀ j, 0 ≤ mk j ∧ mk j < 1048576) (u : Int) {x : Int} (hx : 0 ≤ x ∧ x < 1048576) : ∀ j : Nat, zband (gM mk h u j) x = 0 ↔ ∀ i, i < j → h i = u → (mk i).toNat &&& x.toNat = 0
  | 0 => by
    refine ⟨fun _ i hi => absurd hi (Nat.not_lt_zero _), fun _ => ?_⟩
    show zband 0 x = 0
    rw [qband_N 0 x (by decide) (by omega), show (0 : Int).toNat = 0 from rfl, Nat.zero_and]
    rfl
  | j + 1 => by
    have q := gM_ap (h := h) hm u hx j
    have g := gM_r (h := h) hm u j
    have m := hm j
    rw [gM_s]
    by_cases e : h j = u
    · have gr := gM_r (h := h) hm u (j + 1)
      rw [gM_s, if_pos e] at gr
      rw [if_pos e, qband_N _ _ (by omega) (by omega)]
      rw [qband_N _ _ (by omega) (by omega)] at q
      rw [qbor_N _ _ (by omega) (by omega), Int.toNat_natCast, Nat.and_or_distrib_right]
      constructor
      · intro z i hi he
        have z2 : (gM mk h u j).toNat &&& x.toNat ||| (mk j).toNat &&& x.toNat = 0 := by omega
        rw [Nat.or_eq_zero_iff] at z2
        by_cases k : i = j
        · rw [k]; exact z2.2
        · exact q.mp (by omega) i (by omega) he
      · intro z
        have a := q.mpr (fun i hi he => z i (by omega) he)
        have b := z j (by omega) e
        rw [show (gM mk h u j).toNat &&& x.toNat = 0 by omega, b]
        rfl
    · rw [if_neg e]
      refine q.trans ⟨fun z i hi he => ?_, fun z i hi he => z i (by omega) he⟩
      by_cases k : i = j
      · rw [k] at he; exact absurd he e
      · exact z i (by omega) he
theorem hq_72 {h p : Int} : hf_72_87 M h p = 0 ↔ ¬ (zband (M 90 h.toNat) (M 88 p.toNat) = 0 ∧ w32 (M 91 h.toNat + hf_296 M (M 88 p.toNat)) ≤ M 87 6) := by
  unfold hf_72_87
  (repeat' split) <;> omega
end PK
set_option maxRecDepth 100000 in
theorem fh_70_87 {n : Nat} {M : zM} {Mo : zM} (hC : qMI Mo) (hH : hHs Mo 9 (Mo 98)) (hT : hTb Mo) (eq : ∀ r, (r < 87 ∨ 91 < r) → M r = Mo r) (a1 : Int) : zH n (0, 0) 70 (0, zini [zR 87, .inl a1] 4, []) M (fun r M' => r = some (.inl (hMk Mo a1 (Mo 98 1).toNat)) ∧ M' = M) := by
  have hz := zp_70
  show zH n (0, 0) 70 (0, [zR 87, .inl a1, zN, zN], []) M _
  have hn := hC.cnt1
  refine zH_w (c' := (4, [zR 87, .inl a1, .inl 0, .inl 0], [])) 4 hz rfl ?_
  have lp4 : ∀ (N : Nat) (s : Int) (i : Int), ((20 - i).toNat) < N → (0 ≤ i ∧ i ≤ Mo 98 1) → (s = hMk Mo a1 i.toNat) → zH n (0, 0) 70 (4, [zR 87, .inl a1, .inl s, .inl i], []) M (fun r M' => r = some (.inl (hMk Mo a1 (Mo 98 1).toNat)) ∧ M' = M) := by
    intro N
    induction N with
    | zero => intro s i hN; exact absurd hN (Nat.not_lt_zero _)
    | succ N ih4 =>
      intro s i hN hi hs
      refine zH_w (c' := (12, [zR 87, .inl a1, .inl s, .inl i], [zR 12, .inl i])) 4 hz rfl ?_
      refine zH_wE (c1 := (15, [zR 87, .inl a1, .inl s, .inl i], [.inl i])) 0 hz zp_101 (fh_101_12) (by rfl) ?_
      show zH n (0, 0) 70 (15, [zR 87, .inl a1, .inl s, .inl i], [.inl (hR_size M 12), .inl i]) M _
      rw [show hR_size M 12 = Mo 98 1 from by unfold hR_size; rw [eq 12 (by omega)]; exact hH.2.1.1]
      refine zH_icmp_ge hz rfl (fun hb15 => ?_) (fun hb15 => ?_)
      · skip
        refine zH_w (c' := (51, [zR 87, .inl a1, .inl s, .inl i], [.inl s])) 1 hz rfl ?_
        exact zH_wr (r := some (.inl s)) 0 hz (by rfl) (⟨by rw [hs, show i.toNat = (Mo 98 1).toNat by omega], rfl⟩)
      · skip
        have ei : ((i.toNat : Nat) : Int) = i := by omega
        have hb0 := True.intro
        have hb1 := True.intro
        refine zH_w (c' := (27, [zR 87, .inl a1, .inl s, .inl i], [.inl 2, .inl i, zR 12])) 5 hz rfl ?_
        refine zH_wE (c1 := (30, [zR 87, .inl a1, .inl s, .inl i], [])) 0 hz zp_106 (fh_106_12 i 2) (by rfl) ?_
        show zH n (0, 0) 70 (30, [zR 87, .inl a1, .inl s, .inl i], [.inl (hR_get M 12 i 2)]) M _
        rw [show hR_get M 12 i 2 = Mo 98 (82 + 3 * i.toNat) from by
  rw [show hR_get M 12 i 2 = hR_get Mo 12 i 2 from by unfold hR_get; rw [eq 12 (by omega), show M (12 + 1) = Mo (12 + 1) from eq 13 (by omega)], hG_12 hT (by omega) (by decide)]
  exact (hH.2.1.2 i.toNat (by omega)).2.1]
        refine zH_w (c' := (34, [zR 87, .inl a1, .inl s, .inl i], [.inl (zband (zbshr (Mo 98 (82 + 3 * i.toNat)) a1) 1)])) 4 hz rfl ?_
        rw [show zband (zbshr (Mo 98 (82 + 3 * i.toNat)) a1) 1 = hbt Mo i.toNat a1 from rfl]
        refine zH_w (c' := (35, [zR 87, .inl a1, .inl s, .inl i], [.inl 1, .inl (hbt Mo i.toNat a1)])) 1 hz rfl ?_
        refine zH_wi_ne (pc := 35) (n' := 38) (t := 44) (L := [zR 87, .inl a1, .inl s, .inl i]) (st := []) (x := (hbt Mo i.toNat a1)) (y := 1) 0 hz (by rfl) (fun hb35 => ?_) (fun hb35 => ?_)
        · skip
          have hb0 : ¬ hbt Mo i.toNat a1 = 1 := hb35
          refine zH_w (c' := (4, [zR 87, .inl a1, .inl s, .inl (i + 1)], [])) 2 hz (by rw [show (.inl (i + 1) : zV) = .inl (w32 (i + 1)) from by rw [w32_id (by omega)]]; rfl) ?_
          refine ih4 s (i + 1) (by omega) ?_ ?_
          · omega
          · rw [show (i + 1).toNat = i.toNat + 1 by omega, hMk_s, ei]
            first
              | (rw [if_pos hb1, ← hs])
              | (rw [if_neg hb0]; exact hs)
        · skip
          have hb1 : hbt Mo i.toNat a1 = 1 := Decidable.byContradiction hb35
          refine zH_w (c' := (4, [zR 87, .inl a1, .inl (zbor s (zbshl 1 i)), .inl (i + 1)], [])) 8 hz (by rw [show (.inl (i + 1) : zV) = .inl (w32 (i + 1)) from by rw [w32_id (by omega)]]; rfl) ?_
          refine ih4 (zbor s (zbshl 1 i)) (i + 1) (by omega) ?_ ?_
          · omega
          · rw [show (i + 1).toNat = i.toNat + 1 by omega, hMk_s, ei]
            first
              | (rw [if_pos hb1, ← hs])
              | (rw [if_neg hb0]; exact hs)
  refine lp4 (21) 0 0 (by omega) ?_ ?_
  · omega
  · rfl
noncomputable def kW (n : Nat) (S : Int) (mk : Nat → Int) (M : zM) : Prop := M 87 5 = (n : Int) ∧ M 87 6 = S ∧ ∀ j, j < n → M 88 j = mk j
noncomputable def kU (mk b h : Nat → Int) (p : Nat) (used : Int) (M : zM) : Prop := ∀ x : Nat, (x : Int) < used → M 90 x = gM mk h (x : Int) p ∧ M 91 x = gS b h (x : Int) p
theorem kW.mv {n : Nat} {S : Int} {mk : Nat → Int} {M M' : zM} (h : kW n S mk M) (e7 : M' 87 = M 87) (e8 : M' 88 = M 88) : kW n S mk M' := by unfold kW; rw [e7, e8]; exact h
set_option maxHeartbeats 4000000 in
set_option maxRecDepth 100000 in
theorem fh_71_87 {n : Nat} {n9 : Nat} {S : Int} {mk b : Nat → Int} {ap : Nat → Nat → Prop} (hn : n9 ≤ 9) (hm : ∀ j, 0 ≤ mk j ∧ mk j < 1048576) (hb : ∀ j, 0 ≤ b j ∧ b j ≤ 20) (hbm : ∀ (M : zM) (j : Nat), hf_296 M (mk j) = b j) (hap : ∀ j i, (mk j).toNat &&& (mk i).toNat = 0 ↔ ap j i) : ∀ (N : Nat) {M : zM} {p : Nat} (hN : n9 - p < N) (hW : kW n9 S mk M) (a1 a2 a3 : Int) (h1 : a1 = (p : Int)) (hp : p ≤ n9) (h2 : a2 = us (M 89) p) (hR : RG p a3 (M 89)) (hG : PG ap b S p (M 89)) (hU : kU mk b (M 89) p a2 M), zH n (0, 0) 71 (0, zini [zR 87, .inl a1, .inl a2, .inl a3] 7, []) M (fun r M' => ∃ v : Int, r = some (.inl v) ∧ (∀ r, r ≠ 89 → r ≠ 90 → r ≠ 91 → M' r = M r) ∧ (∀ j, j < p → M' 89 j = M 89 j) ∧ ((v = 1 ∧ RG n9 a3 (M' 89) ∧ PG ap b S n9 (M' 89) ∧ ∀ q, (∀ j, j < p → q j = M 89 j) → RG n9 a3 q → PG ap b S n9 q → ¬ lxl n9 q (M' 89)) ∨ (v = 0 ∧ (∀ x : Nat, (x : Int) < a2 → M' 90 x = M 90 x ∧ M' 91 x = M 91 x) ∧ ∀ q, (∀ j, j < p → q j = M 89 j) → RG n9 a3 q → ¬ PG ap b S n9 q))) := by
  intro N
  induction N with
  | zero => intro M p hN; exact absurd hN (Nat.not_lt_zero _)
  | succ N ih =>
    intro M p hN hW a1 a2 a3 h1 hp h2 hR hG hU
    have hz := zp_71
    show zH n (0, 0) 71 (0, [zR 87, .inl a1, .inl a2, .inl a3, zN, zN, zN], []) M _
    refine zH_w (c' := (5, [zR 87, .inl a1, .inl a2, .inl a3, zN, zN, zN], [.inl (M 87 5), .inl a1])) 3 hz rfl ?_
    rw [hW.1]
    refine zH_icmp_ge hz rfl (fun hb5 => ?_) (fun hb5 => ?_)
    · skip
      refine zH_w (c' := (15, [zR 87, .inl a1, .inl a2, .inl a3, zN, zN, zN], [.inl 1])) 1 hz rfl ?_
      exact zH_zret hz rfl (⟨1, rfl, fun _ _ _ _ => rfl, fun _ _ => rfl, .inl ⟨rfl, by rw [show n9 = p by omega]; exact hR, by rw [show n9 = p by omega]; exact hG, fun q q1 q2 q3 ⟨l, l1, l2, l3⟩ => by have := q1 l (by omega); omega⟩⟩)
    · skip
      refine zH_w (c' := (11, [zR 87, .inl a1, .inl a2, .inl a3, zN, zN, zN], [.inl 9, .inl a1])) 2 hz rfl ?_
      refine zH_wi_lt (pc := 11) (n' := 14) (t := 16) (L := [zR 87, .inl a1, .inl a2, .inl a3, zN, zN, zN]) (st := []) (x := a1) (y := 9) 0 hz (by rfl) (fun hb11 => ?_) (fun hb11 => ?_)
      · skip
        have hpn : p < n9 := by omega
        have hu0 := us_0 (M 89) p
        have hup := us_i (h := M 89) (i := p) (fun j hj => (hR j hj).2.2)
        rw [← h2] at hu0 hup
        refine zH_w (c' := (19, [zR 87, .inl a1, .inl a2, .inl a3, .inl 0, zN, zN], [])) 2 hz rfl ?_
        have lp19 : ∀ (N : Nat) (g : Int) (u5 : zV) (u6 : zV) (M5 : zM), ((a2 + 1 - g).toNat) < N → (0 ≤ g ∧ g ≤ a2 + 1) → (∀ r, r ≠ 89 → r ≠ 90 → r ≠ 91 → M5 r = M r) → (∀ j, j < p → M5 89 j = M 89 j) → (∀ x : Nat, (x : Int) < a2 → M5 90 x = M 90 x ∧ M5 91 x = M 91 x) → (∀ q, (∀ j, j < p → q j = M 89 j) → RG n9 a3 q → q p < g → ¬ PG ap b S n9 q) → zH n (0, 0) 71 (19, [zR 87, .inl a1, .inl a2, .inl a3, .inl g, u5, u6], []) M5 (fun r M' => ∃ v : Int, r = some (.inl v) ∧ (∀ r, r ≠ 89 → r ≠ 90 → r ≠ 91 → M' r = M r) ∧ (∀ j, j < p → M' 89 j = M 89 j) ∧ ((v = 1 ∧ RG n9 a3 (M' 89) ∧ PG ap b S n9 (M' 89) ∧ ∀ q, (∀ j, j < p → q j = M 89 j) → RG n9 a3 q → PG ap b S n9 q → ¬ lxl n9 q (M' 89)) ∨ (v = 0 ∧ (∀ x : Nat, (x : Int) < a2 → M' 90 x = M 90 x ∧ M' 91 x = M 91 x) ∧ ∀ q, (∀ j, j < p → q j = M 89 j) → RG n9 a3 q → ¬ PG ap b S n9 q))) := by
          intro N
          induction N with
          | zero => intro g u5 u6 M5 hN; exact absurd hN (Nat.not_lt_zero _)
          | succ N ih19 =>
            intro g u5 u6 M5 hN hg hO5 hH5 hU5 hno
            refine zH_w (c' := (22, [zR 87, .inl a1, .inl a2, .inl a3, .inl g, u5, u6], [.inl a2, .inl g])) 2 hz rfl ?_
            refine zH_wi_gt (pc := 22) (n' := 25) (t := 176) (L := [zR 87, .inl a1, .inl a2, .inl a3, .inl g, u5, u6]) (st := []) (x := g) (y := a2) 0 hz (by rfl) (fun hb22 => ?_) (fun hb22 => ?_)
            · skip
              refine zH_w (c' := (177, [zR 87, .inl a1, .inl a2, .inl a3, .inl g, u5, u6], [.inl 0])) 1 hz rfl ?_
              refine zH_zret hz rfl ?_
              exact ⟨0, rfl, hO5, hH5, .inr ⟨rfl, hU5, fun q q1 q2 q3 => by
                have e := us_cg (g := q) (h := M 89) p q1
                have r := q2 p hpn
                rw [e, ← h2] at r
                exact hno q q1 q2 (by omega) q3⟩⟩
            · skip
              refine zH_wi_ge (pc := 28) (n' := 31) (t := 176) (L := [zR 87, .inl a1, .inl a2, .inl a3, .inl g, u5, u6]) (st := []) (x := g) (y := a3) 2 hz (by rfl) (fun hb28 => ?_) (fun hb28 => ?_)
              · skip
                refine zH_w (c' := (177, [zR 87, .inl a1, .inl a2, .inl a3, .inl g, u5, u6], [.inl 0])) 1 hz rfl ?_
                refine zH_zret hz rfl ?_
                exact ⟨0, rfl, hO5, hH5, .inr ⟨rfl, hU5, fun q q1 q2 q3 => by
                  have e := us_cg (g := q) (h := M 89) p q1
                  have r := q2 p hpn
                  rw [e, ← h2] at r
                  exact hno q q1 q2 (by omega) q3⟩⟩
              · skip
                refine zH_wi_ge (pc := 35) (n' := 38) (t := 176) (L := [zR 87, .inl a1, .inl a2, .inl a3, .inl g, u5, u6]) (st := []) (x := g) (y := 9) 2 hz (by rfl) (fun hb35 => ?_) (fun hb35 => ?_)
                · skip
                  refine zH_w (c' := (177, [zR 87, .inl a1, .inl a2, .inl a3, .inl g, u5, u6], [.inl 0])) 1 hz rfl ?_
                  refine zH_zret hz rfl ?_
                  exact ⟨0, rfl, hO5, hH5, .inr ⟨rfl, hU5, fun q q1 q2 q3 => by
                    have e := us_cg (g := q) (h := M 89) p q1
                    have r := q2 p hpn
                    rw [e, ← h2] at r
                    exact hno q q1 q2 (by omega) q3⟩⟩
                · skip
                  have eg : ((g.toNat : Nat) : Int) = g := by omega
                  have lp60 : ∀ (M6 : zM), (∀ r, r ≠ 89 → r ≠ 90 → r ≠ 91 → M6 r = M r) → (∀ j, j < p → M6 89 j = M 89 j) → (∀ x : Nat, (x : Int) < a2 → M6 90 x = M 90 x ∧ M6 91 x = M 91 x) → (M6 90 g.toNat = gM mk (M 89) g p ∧ M6 91 g.toNat = gS b (M 89) g p) → zH n (0, 0) 71 (60, [zR 87, .inl a1, .inl a2, .inl a3, .inl g, u5, u6], []) M6 (fun r M' => ∃ v : Int, r = some (.inl v) ∧ (∀ r, r ≠ 89 → r ≠ 90 → r ≠ 91 → M' r = M r) ∧ (∀ j, j < p → M' 89 j = M 89 j) ∧ ((v = 1 ∧ RG n9 a3 (M' 89) ∧ PG ap b S n9 (M' 89) ∧ ∀ q, (∀ j, j < p → q j = M 89 j) → RG n9 a3 q → PG ap b S n9 q → ¬ lxl n9 q (M' 89)) ∨ (v = 0 ∧ (∀ x : Nat, (x : Int) < a2 → M' 90 x = M 90 x ∧ M' 91 x = M 91 x) ∧ ∀ q, (∀ j, j < p → q j = M 89 j) → RG n9 a3 q → ¬ PG ap b S n9 q))) := by
                    intro M6 hO6 hH6 hU6 hg6
                    refine zH_w (c' := (64, [zR 87, .inl a1, .inl a2, .inl a3, .inl g, u5, u6], [.inl a1, .inl g, zR 87])) 3 hz rfl ?_
                    refine zH_wE (c1 := (67, [zR 87, .inl a1, .inl a2, .inl a3, .inl g, u5, u6], [])) 0 hz zp_72 (fh_72_87 g a1) (by rfl) ?_
                    show zH n (0, 0) 71 (67, [zR 87, .inl a1, .inl a2, .inl a3, .inl g, u5, u6], [.inl (hf_72_87 M6 g a1)]) M6 _
                    obtain ⟨y, hy⟩ : ∃ x : Int, x = (hf_72_87 M6 g a1) := ⟨_, rfl⟩
                    rw [← hy]
                    have e88 : M6 88 a1.toNat = mk p := by rw [hO6 88 (by decide) (by decide) (by decide), show a1.toNat = p by omega]; exact hW.2.2 p hpn
                    have gr := gS_r (h := M 89) hb g p
                    have bp := hb p
                    have htk : (zband (M6 90 g.toNat) (M6 88 a1.toNat) = 0 ∧ w32 (M6 91 g.toNat + hf_296 M6 (M6 88 a1.toNat)) ≤ M6 87 6) ↔ ((∀ j, j < p → M 89 j = g → ap j p) ∧ gS b (M 89) g p + b p ≤ S) := by
                      rw [hg6.1, hg6.2, e88, hbm, hO6 87 (by decide) (by decide) (by decide), hW.2.1, w32_id (by omega), gM_ap hm g (hm p)]
                      exact ⟨fun z => ⟨fun j hj e => (hap j p).mp (z.1 j hj e), z.2⟩, fun z => ⟨fun j hj e => (hap j p).mpr (z.1 j hj e), z.2⟩⟩
                    refine zH_if_eq hz rfl (fun hb67 => ?_) (fun hb67 => ?_)
                    · skip
                      have hOb := hO6
                      have hHb := hH6
                      have hUb := hU6
                      have hgb : ∀ q, (∀ j, j < p → q j = M 89 j) → RG n9 a3 q → q p = g → ¬ PG ap b S n9 q := fun q q1 q2 q3 q4 => by
                        have z := hq_72.mp (hy.symm.trans hb67)
                        rw [htk] at z
                        refine z ⟨fun j hj e => (q4 p hpn).1 j hj (by rw [q1 j hj, e, q3]), ?_⟩
                        have z2 := (q4 p hpn).2
                        rw [gS_s, if_pos rfl, q3, gS_cg p q1] at z2
                        exact z2
                      refine zH_w (c' := (19, [zR 87, .inl a1, .inl a2, .inl a3, .inl (g + 1), u5, u6], [])) 2 hz (by rw [show (.inl (g + 1) : zV) = .inl (w32 (g + 1)) from by rw [w32_id (by omega)]]; rfl) ?_
                      refine ih19 (g + 1) u5 u6 M6 (by omega) ?_ ?_ ?_ ?_ ?_
                      · omega
                      · exact hOb
                      · exact hHb
                      · exact hUb
                      · intro q q1 q2 q3
                        by_cases z : q p = g
                        · exact hgb q q1 q2 z
                        · exact hno q q1 q2 (by omega)
                    · skip
                      have hyes := htk.mp (Decidable.byContradiction (fun z => hb67 (hy.trans (hq_72.mpr z))))
                      refine zH_w (c' := (76, [zR 87, .inl a1, .inl a2, .inl a3, .inl g, u5, u6], [.inl g, zR 90])) 3 hz rfl ?_
                      refine zH_iald hz rfl rfl (.inl rfl) (fun hin76 => ?_)
                      show zH n (0, 0) 71 (77, [zR 87, .inl a1, .inl a2, .inl a3, .inl g, u5, u6], [.inl (M6 90 (g : Int).toNat)]) M6 _
                      rw [show M6 90 (g : Int).toNat = gM mk (M 89) g p from hg6.1]
                      refine zH_w (c' := (85, [zR 87, .inl a1, .inl a2, .inl a3, .inl g, .inl (gM mk (M 89) g p), u6], [.inl g, zR 91])) 4 hz rfl ?_
                      refine zH_iald hz rfl rfl (.inl rfl) (fun hin85 => ?_)
                      show zH n (0, 0) 71 (86, [zR 87, .inl a1, .inl a2, .inl a3, .inl g, .inl (gM mk (M 89) g p), u6], [.inl (M6 91 (g : Int).toNat)]) M6 _
                      rw [show M6 91 (g : Int).toNat = gS b (M 89) g p from hg6.2]
                      refine zH_w (c' := (95, [zR 87, .inl a1, .inl a2, .inl a3, .inl g, .inl (gM mk (M 89) g p), .inl (gS b (M 89) g p)], [.inl g, .inl a1, zR 89])) 5 hz rfl ?_
                      refine zH_iast hz rfl rfl (fun hin95 => ?_)
                      show zH n (0, 0) 71 (96, [zR 87, .inl a1, .inl a2, .inl a3, .inl g, .inl (gM mk (M 89) g p), .inl (gS b (M 89) g p)], []) (zput M6 89 (a1 : Int).toNat g) _
                      obtain ⟨M7, hM7⟩ : ∃ X : zM, X = zput M6 89 (a1 : Int).toNat g := ⟨_, rfl⟩
                      rw [← hM7]
                      refine zH_w (c' := (109, [zR 87, .inl a1, .inl a2, .inl a3, .inl g, .inl (gM mk (M 89) g p), .inl (gS b (M 89) g p)], [.inl a1, zR 88, .inl (gM mk (M 89) g p), .inl g, zR 90])) 7 hz rfl ?_
                      refine zH_iald hz rfl rfl (.inl rfl) (fun hin109 => ?_)
                      show zH n (0, 0) 71 (110, [zR 87, .inl a1, .inl a2, .inl a3, .inl g, .inl (gM mk (M 89) g p), .inl (gS b (M 89) g p)], [.inl (M7 88 (a1 : Int).toNat), .inl (gM mk (M 89) g p), .inl g, zR 90]) M7 _
                      rw [show M7 88 (a1 : Int).toNat = mk p from by rw [hM7, zput_oth (by decide)]; exact e88]
                      refine zH_w (c' := (111, [zR 87, .inl a1, .inl a2, .inl a3, .inl g, .inl (gM mk (M 89) g p), .inl (gS b (M 89) g p)], [.inl (zbor (gM mk (M 89) g p) (mk p)), .inl g, zR 90])) 1 hz rfl ?_
                      refine zH_iast hz rfl rfl (fun hin111 => ?_)
                      show zH n (0, 0) 71 (112, [zR 87, .inl a1, .inl a2, .inl a3, .inl g, .inl (gM mk (M 89) g p), .inl (gS b (M 89) g p)], []) (zput M7 90 (g : Int).toNat (zbor (gM mk (M 89) g p) (mk p))) _
                      obtain ⟨M8, hM8⟩ : ∃ X : zM, X = zput M7 90 (g : Int).toNat (zbor (gM mk (M 89) g p) (mk p)) := ⟨_, rfl⟩
                      rw [← hM8]
                      refine zH_w (c' := (125, [zR 87, .inl a1, .inl a2, .inl a3, .inl g, .inl (gM mk (M 89) g p), .inl (gS b (M 89) g p)], [.inl a1, zR 88, .inl (gS b (M 89) g p), .inl g, zR 91])) 7 hz rfl ?_
                      refine zH_iald hz rfl rfl (.inl rfl) (fun hin125 => ?_)
                      show zH n (0, 0) 71 (126, [zR 87, .inl a1, .inl a2, .inl a3, .inl g, .inl (gM mk (M 89) g p), .inl (gS b (M 89) g p)], [.inl (M8 88 (a1 : Int).toNat), .inl (gS b (M 89) g p), .inl g, zR 91]) M8 _
                      rw [show M8 88 (a1 : Int).toNat = mk p from by rw [hM8, zput_oth (by decide), hM7, zput_oth (by decide)]; exact e88]
                      refine zH_wE (c1 := (129, [zR 87, .inl a1, .inl a2, .inl a3, .inl g, .inl (gM mk (M 89) g p), .inl (gS b (M 89) g p)], [.inl (gS b (M 89) g p), .inl g, zR 91])) 0 hz zp_296 (fh_296 (mk p)) (by rfl) ?_
                      show zH n (0, 0) 71 (129, [zR 87, .inl a1, .inl a2, .inl a3, .inl g, .inl (gM mk (M 89) g p), .inl (gS b (M 89) g p)], [.inl (hf_296 M8 (mk p)), .inl (gS b (M 89) g p), .inl g, zR 91]) M8 _
                      rw [hbm]
                      refine zH_w (c' := (130, [zR 87, .inl a1, .inl a2, .inl a3, .inl g, .inl (gM mk (M 89) g p), .inl (gS b (M 89) g p)], [.inl (w32 ((gS b (M 89) g p) + (b p))), .inl g, zR 91])) 1 hz rfl ?_
                      rw [show w32 ((gS b (M 89) g p) + (b p)) = gS b (M 89) g p + b p from w32_id (by omega)]
                      refine zH_iast hz rfl rfl (fun hin130 => ?_)
                      show zH n (0, 0) 71 (131, [zR 87, .inl a1, .inl a2, .inl a3, .inl g, .inl (gM mk (M 89) g p), .inl (gS b (M 89) g p)], []) (zput M8 91 (g : Int).toNat (gS b (M 89) g p + b p)) _
                      obtain ⟨M9, hM9⟩ : ∃ X : zM, X = zput M8 91 (g : Int).toNat (gS b (M 89) g p + b p) := ⟨_, rfl⟩
                      rw [← hM9]
                      have e9h : ∀ j, j < p → M9 89 j = M 89 j := fun j hj => by rw [hM9, zput_oth (by decide), hM8, zput_oth (by decide), hM7, qput_nk (by omega)]; exact hH6 j hj
                      have e9p : M9 89 p = g := by rw [hM9, zput_oth (by decide), hM8, zput_oth (by decide), hM7, show (a1 : Int).toNat = p by omega, qput_eq]
                      have e9u : us (M9 89) p = a2 := by rw [us_cg p e9h]; exact h2.symm
                      have f9 : ∀ r, r ≠ 89 → r ≠ 90 → r ≠ 91 → M9 r = M r := fun r q1 q2 q3 => by rw [hM9, zput_oth q3, hM8, zput_oth q2, hM7, zput_oth q1]; exact hO6 r q1 q2 q3
                      have R9 : RG (p + 1) a3 (M9 89) := fun i hi => by
                        by_cases z : i = p
                        · rw [z, e9p, e9u]; omega
                        · rw [e9h i (by omega), us_cg i (fun j hj => e9h j (by omega))]; exact hR i (by omega)
                      have G9 : PG ap b S (p + 1) (M9 89) := fun i hi => by
                        by_cases z : i = p
                        · rw [z, e9p, gS_s, if_pos e9p, gS_cg p e9h]
                          exact ⟨fun j hj e => hyes.1 j hj (by rw [← e9h j hj]; exact e), hyes.2⟩
                        · exact PG_cg hG e9h i (by omega)
                      have U9 : kU mk b (M9 89) (p + 1) (us (M9 89) (p + 1)) M9 := fun x hx => by
                        rw [us_s, e9u, e9p] at hx
                        rw [gM_s, gS_s, e9p, gM_cg p e9h, gS_cg p e9h]
                        by_cases z : g = (x : Int)
                        · rw [if_pos z, if_pos z, ← z, show x = g.toNat by omega, hM9, qput_eq, zput_oth (show (90 : Nat) ≠ 91 by decide), hM8, qput_eq]
                          exact ⟨rfl, rfl⟩
                        · have hx2 : (x : Int) < a2 := by split at hx <;> omega
                          have w1 := hU6 x hx2
                          have w2 := hU x hx2
                          have nx : x ≠ g.toNat := by omega
                          rw [if_neg z, if_neg z]
                          refine ⟨?_, ?_⟩
                          · rw [hM9, qput_nk nx, hM8, qput_nk nx, hM7, zput_oth (show (90 : Nat) ≠ 89 by decide)]; exact w1.1.trans w2.1
                          · rw [hM9, qput_nk nx, hM8, qput_nk nx, hM7, zput_oth (show (91 : Nat) ≠ 89 by decide)]; exact w1.2.trans w2.2
                      refine zH_w (c' := (135, [zR 87, .inl a1, .inl a2, .inl a3, .inl g, .inl (gM mk (M 89) g p), .inl (gS b (M 89) g p)], [.inl (w32 (a1 + 1)), zR 87])) 4 hz rfl ?_
                      rw [show w32 (a1 + 1) = a1 + 1 from w32_id (by omega)]
                      refine zH_w (c' := (140, [zR 87, .inl a1, .inl a2, .inl a3, .inl g, .inl (gM mk (M 89) g p), .inl (gS b (M 89) g p)], [.inl (w32 (g + 1)), .inl a2, .inl (a1 + 1), zR 87])) 4 hz rfl ?_
                      rw [show w32 (g + 1) = g + 1 from w32_id (by omega)]
                      refine zH_w (c' := (143, [zR 87, .inl a1, .inl a2, .inl a3, .inl g, .inl (gM mk (M 89) g p), .inl (gS b (M 89) g p)], [.inl (if a2 < (g + 1) then (g + 1) else a2), .inl (a1 + 1), zR 87])) 1 hz rfl ?_
                      rw [show (if a2 < (g + 1) then (g + 1) else a2) = us (M9 89) (p + 1) from by rw [us_s, e9p, e9u]]
                      refine zH_w (c' := (144, [zR 87, .inl a1, .inl a2, .inl a3, .inl g, .inl (gM mk (M 89) g p), .inl (gS b (M 89) g p)], [.inl a3, .inl (us (M9 89) (p + 1)), .inl (a1 + 1), zR 87])) 1 hz rfl ?_
                      refine zH_wC (c1 := (147, [zR 87, .inl a1, .inl a2, .inl a3, .inl g, .inl (gM mk (M 89) g p), .inl (gS b (M 89) g p)], [])) 0 hz zp_71 (ih (M := M9) (by omega) (hW.mv (f9 87 (by decide) (by decide) (by decide)) (f9 88 (by decide) (by decide) (by decide))) (a1 + 1) (us (M9 89) (p + 1)) a3 (p := p + 1) (by omega) (by omega) rfl R9 G9 U9) (by rfl) ?_
                      rintro _ M10 ⟨v, rfl, f10, h10, hv⟩
                      show zH n (0, 0) 71 (147, [zR 87, .inl a1, .inl a2, .inl a3, .inl g, .inl (gM mk (M 89) g p), .inl (gS b (M 89) g p)], [.inl v]) M10 _
                      refine zH_wf_eq (pc := 147) (n' := 150) (t := 152) (L := [zR 87, .inl a1, .inl a2, .inl a3, .inl g, .inl (gM mk (M 89) g p), .inl (gS b (M 89) g p)]) (st := []) (x := v) 0 hz (by rfl) (fun hb147 => ?_) (fun hb147 => ?_)
                      · skip
                        have hv0 : v = 0 := hb147
                        refine zH_w (c' := (160, [zR 87, .inl a1, .inl a2, .inl a3, .inl g, .inl (gM mk (M 89) g p), .inl (gS b (M 89) g p)], [.inl (gM mk (M 89) g p), .inl g, zR 90])) 4 hz rfl ?_
                        refine zH_iast hz rfl rfl (fun hin160 => ?_)
                        show zH n (0, 0) 71 (161, [zR 87, .inl a1, .inl a2, .inl a3, .inl g, .inl (gM mk (M 89) g p), .inl (gS b (M 89) g p)], []) (zput M10 90 (g : Int).toNat (gM mk (M 89) g p)) _
                        obtain ⟨M11, hM11⟩ : ∃ X : zM, X = zput M10 90 (g : Int).toNat (gM mk (M 89) g p) := ⟨_, rfl⟩
                        rw [← hM11]
                        refine zH_w (c' := (169, [zR 87, .inl a1, .inl a2, .inl a3, .inl g, .inl (gM mk (M 89) g p), .inl (gS b (M 89) g p)], [.inl (gS b (M 89) g p), .inl g, zR 91])) 4 hz rfl ?_
                        refine zH_iast hz rfl rfl (fun hin169 => ?_)
                        show zH n (0, 0) 71 (170, [zR 87, .inl a1, .inl a2, .inl a3, .inl g, .inl (gM mk (M 89) g p), .inl (gS b (M 89) g p)], []) (zput M11 91 (g : Int).toNat (gS b (M 89) g p)) _
                        obtain ⟨M12, hM12⟩ : ∃ X : zM, X = zput M11 91 (g : Int).toNat (gS b (M 89) g p) := ⟨_, rfl⟩
                        rw [← hM12]
                        obtain ⟨v0, vU, vN⟩ := hv.resolve_left (fun z => by have := z.1; omega)
                        have hOb : ∀ r, r ≠ 89 → r ≠ 90 → r ≠ 91 → M12 r = M r := fun r q1 q2 q3 => by rw [hM12, zput_oth q3, hM11, zput_oth q2, f10 r q1 q2 q3]; exact f9 r q1 q2 q3
                        have hHb : ∀ j, j < p → M12 89 j = M 89 j := fun j hj => by rw [hM12, zput_oth (by decide), hM11, zput_oth (by decide), h10 j (by omega)]; exact e9h j hj
                        have hUb : ∀ x : Nat, (x : Int) < a2 → M12 90 x = M 90 x ∧ M12 91 x = M 91 x := fun x hx => by
                          have w1 := hU6 x hx
                          by_cases z : g = (x : Int)
                          · rw [show x = g.toNat by omega, hM12, qput_eq, zput_oth (show (90 : Nat) ≠ 91 by decide), hM11, qput_eq, ← hg6.1, ← hg6.2, show g.toNat = x by omega]
                            exact w1
                          · have hx3 : (x : Int) < us (M9 89) (p + 1) := by rw [us_s, e9u, e9p]; split <;> omega
                            have w2 := vU x hx3
                            have nx : x ≠ g.toNat := by omega
                            refine ⟨?_, ?_⟩
                            · rw [hM12, qput_nk nx, hM11, qput_nk nx, w2.1, hM9, qput_nk nx, hM8, qput_nk nx, hM7, zput_oth (show (90 : Nat) ≠ 89 by decide)]; exact w1.1
                            · rw [hM12, qput_nk nx, hM11, qput_nk nx, w2.2, hM9, qput_nk nx, hM8, qput_nk nx, hM7, zput_oth (show (91 : Nat) ≠ 89 by decide)]; exact w1.2
                        have hgb : ∀ q, (∀ j, j < p → q j = M 89 j) → RG n9 a3 q → q p = g → ¬ PG ap b S n9 q := fun q q1 q2 q3 => vN q (fun j hj => by
                          by_cases z : j = p
                          · rw [z, e9p]; exact q3
                          · rw [e9h j (by omega)]; exact q1 j (by omega)) q2
                        refine zH_w (c' := (19, [zR 87, .inl a1, .inl a2, .inl a3, .inl (g + 1), .inl (gM mk (M 89) g p), .inl (gS b (M 89) g p)], [])) 2 hz (by rw [show (.inl (g + 1) : zV) = .inl (w32 (g + 1)) from by rw [w32_id (by omega)]]; rfl) ?_
                        refine ih19 (g + 1) (.inl (gM mk (M 89) g p)) (.inl (gS b (M 89) g p)) M12 (by omega) ?_ ?_ ?_ ?_ ?_
                        · omega
                        · exact hOb
                        · exact hHb
                        · exact hUb
                        · intro q q1 q2 q3
                          by_cases z : q p = g
                          · exact hgb q q1 q2 z
                          · exact hno q q1 q2 (by omega)
                      · skip
                        obtain ⟨v1, vR, vG, vL⟩ := hv.resolve_right (fun z => hb147 z.1)
                        refine zH_w (c' := (151, [zR 87, .inl a1, .inl a2, .inl a3, .inl g, .inl (gM mk (M 89) g p), .inl (gS b (M 89) g p)], [.inl 1])) 1 hz rfl ?_
                        refine zH_zret hz rfl ?_
                        exact ⟨1, rfl, fun r q1 q2 q3 => (f10 r q1 q2 q3).trans (f9 r q1 q2 q3), fun j hj => (h10 j (by omega)).trans (e9h j hj), .inl ⟨rfl, vR, vG, fun q q1 q2 q3 hl => by
                          by_cases z : q p = g
                          · exact vL q (fun j hj => by
                              by_cases y : j = p
                              · rw [y, e9p]; exact z
                              · rw [e9h j (by omega)]; exact q1 j (by omega)) q2 q3 hl
                          · by_cases z2 : q p < g
                            · exact hno q q1 q2 z2 q3
                            · obtain ⟨l, l1, l2, l3⟩ := hl
                              have ep : M10 89 p = g := (h10 p (by omega)).trans e9p
                              rcases (by omega : l < p ∨ l = p ∨ p < l) with y | y | y
                              · have a := q1 l y
                                have c := (h10 l (by omega)).trans (e9h l y)
                                omega
                              · rw [y] at l3; omega
                              · have a := l2 p y
                                omega⟩⟩
                  refine zH_wi_ne (pc := 41) (n' := 44) (t := 60) (L := [zR 87, .inl a1, .inl a2, .inl a3, .inl g, u5, u6]) (st := []) (x := g) (y := a2) 2 hz (by rfl) (fun hb41 => ?_) (fun hb41 => ?_)
                  · skip
                    have hO6a := hO5
                    have hH6a := hH5
                    have hU6a := hU5
                    have hg6a : M5 90 g.toNat = gM mk (M 89) g p ∧ M5 91 g.toNat = gS b (M 89) g p := by
                      have z1 := hU5 g.toNat (by omega)
                      have z2 := hU g.toNat (by omega)
                      rw [eg] at z2
                      exact ⟨z1.1.trans z2.1, z1.2.trans z2.2⟩
                    refine lp60 M5 ?_ ?_ ?_ ?_
                    · exact hO6a
                    · exact hH6a
                    · exact hU6a
                    · exact hg6a
                  · skip
                    refine zH_w (c' := (51, [zR 87, .inl a1, .inl a2, .inl a3, .inl g, u5, u6], [.inl 0, .inl g, zR 90])) 4 hz rfl ?_
                    refine zH_iast hz rfl rfl (fun hin51 => ?_)
                    show zH n (0, 0) 71 (52, [zR 87, .inl a1, .inl a2, .inl a3, .inl g, u5, u6], []) (zput M5 90 (g : Int).toNat 0) _
                    refine zH_w (c' := (59, [zR 87, .inl a1, .inl a2, .inl a3, .inl g, u5, u6], [.inl 0, .inl g, zR 91])) 4 hz rfl ?_
                    refine zH_iast hz rfl rfl (fun hin59 => ?_)
                    show zH n (0, 0) 71 (60, [zR 87, .inl a1, .inl a2, .inl a3, .inl g, u5, u6], []) (zput (zput M5 90 (g : Int).toNat 0) 91 (g : Int).toNat 0) _
                    obtain ⟨M6b, hM6b⟩ : ∃ X : zM, X = zput (zput M5 90 (g : Int).toNat 0) 91 (g : Int).toNat 0 := ⟨_, rfl⟩
                    rw [← hM6b]
                    have hO6a : ∀ r, r ≠ 89 → r ≠ 90 → r ≠ 91 → M6b r = M r := fun r q1 q2 q3 => by rw [hM6b, zput_oth q3, zput_oth q2]; exact hO5 r q1 q2 q3
                    have hH6a : ∀ j, j < p → M6b 89 j = M 89 j := fun j hj => by rw [hM6b, zput_oth (by decide), zput_oth (by decide)]; exact hH5 j hj
                    have hU6a : ∀ x : Nat, (x : Int) < a2 → M6b 90 x = M 90 x ∧ M6b 91 x = M 91 x := fun x hx => by
                      have nx : x ≠ g.toNat := by omega
                      exact ⟨by rw [hM6b, qput_nk nx, qput_nk nx]; exact (hU5 x hx).1, by rw [hM6b, qput_nk nx, qput_nk nx]; exact (hU5 x hx).2⟩
                    have hne : ∀ i, i < p → M 89 i ≠ g := fun i hi z => by have := us_lt (h := M 89) p i hi; omega
                    have hg6a : M6b 90 g.toNat = gM mk (M 89) g p ∧ M6b 91 g.toNat = gS b (M 89) g p := by
                      rw [gM_no p hne, gS_no p hne, hM6b, qput_eq, zput_oth (show (90 : Nat) ≠ 91 by decide), qput_eq]
                      exact ⟨rfl, rfl⟩
                    refine lp60 M6b ?_ ?_ ?_ ?_
                    · exact hO6a
                    · exact hH6a
                    · exact hU6a
                    · exact hg6a
        refine lp19 ((a2 + 2).toNat) 0 zN zN M (by omega) ?_ ?_ ?_ ?_ ?_
        · omega
        · exact fun _ _ _ _ => rfl
        · exact fun _ _ => rfl
        · exact fun _ _ => ⟨rfl, rfl⟩
        · exact fun q _ q2 q3 => absurd (q2 p (by omega)).1 (by omega)
      · skip
        exact absurd hb11 (by omega)
section PZ
variable {M M' Mo : zM} {m : Nat} {S : Int}
/-- no more papers behind c: the row stays -/
theorem pl_st {m c : Nat} : ∀ k : Nat, qpc (c + k) m = qpc c m → pl m (c + k) = pl m c
  | 0, _ => rfl
  | k + 1, h => by
    have e := qpc_next (c + k) m
    have mo := qpc_mono (v := m) (show c ≤ c + k by omega)
    rw [show c + (k + 1) = (c + k) + 1 by omega] at h ⊢
    rw [pl_s, if_neg (by omega), pl_st k (by omega)]
noncomputable def mkP (Mo : zM) (m j : Nat) : Int := hMk Mo (pl m (Mo 98 0).toNat j) (Mo 98 1).toNat
theorem mkP_20 (h : Mo 98 1 ≤ 20) (j : Nat) : 0 ≤ mkP Mo m j ∧ mkP Mo m j < 1048576 := hMk_20 Mo _ (by omega)
theorem mkP_b (h : Mo 98 1 ≤ 20) (M : zM) (j : Nat) : hf_296 M (mkP Mo m j) = hbP Mo m j := hMk_b (by omega) _
theorem mkP_ap (h : Mo 98 1 ≤ 20) (j i : Nat) : (mkP Mo m j).toNat &&& (mkP Mo m i).toNat = 0 ↔ hapP Mo m j i := hMk_ap Mo _ _ _ (by omega)
theorem hbP_20 (h : 0 ≤ Mo 98 1 ∧ Mo 98 1 ≤ 20) (j : Nat) : 0 ≤ hbP Mo m j ∧ hbP Mo m j ≤ 20 := by
  have q := hS_r Mo (pl m (Mo 98 0).toNat j) (Mo 98 1).toNat
  unfold hbP
  omega
/-- all papers sit within the seats -/
theorem hTo_not (h : ∀ j, j < qpc (Mo 98 0).toNat m → hbP Mo m j ≤ S) (h0 : 0 ≤ Mo 98 0) : ¬ hTo Mo m S := by
  rintro ⟨c, c1, c2, c3⟩
  have e : ∀ k : Nat, c + 1 + k ≤ (Mo 98 0).toNat → pl m (c + 1 + k) (qpc c m) = (c : Int) ∧ qpc c m < qpc (c + 1 + k) m := fun k => by
    induction k with
    | zero =>
      intro _
      have q := qpc_next c m
      exact ⟨by rw [Nat.add_zero, pl_s, if_pos c2, hup_eq], by rw [Nat.add_zero]; omega⟩
    | succ k ih =>
      intro hk
      have q := ih (by omega)
      have e := qpc_next (c + 1 + k) m
      rw [show c + 1 + (k + 1) = (c + 1 + k) + 1 by omega, pl_s]
      refine ⟨?_, by omega⟩
      split
      · rw [hup_ne (by omega)]; exact q.1
      · exact q.1
  have q := e ((Mo 98 0).toNat - (c + 1)) (by omega)
  rw [show c + 1 + ((Mo 98 0).toNat - (c + 1)) = (Mo 98 0).toNat by omega] at q
  have z := h _ q.2
  unfold hbP at z
  rw [q.1] at z
  omega
end PZ
set_option maxHeartbeats 4000000 in
set_option maxRecDepth 100000 in
theorem fh_68_87 {n : Nat} {M : zM} {Mo : zM} (hC : qMI Mo) (hH : hHs Mo 9 (Mo 98)) (hT : hTb Mo) (eq : ∀ r, (r < 87 ∨ 91 < r) → M r = Mo r) (a1 a2 : Int) (h1 : 0 ≤ a1 ∧ a1 ≤ 16383) (hlt : a1.toNat < 2 ^ (Mo 98 0).toNat) (h9 : qpc 31 a1.toNat ≤ 9) (h2 : 1 ≤ a2) : zH n (0, 0) 68 (0, zini [zR 87, .inl a1, .inl a2] 4, []) M (fun r M' => ∃ v : Int, r = some (.inl v) ∧ (∀ r, (r < 87 ∨ 91 < r) → M' r = M r) ∧ hFd Mo a1.toNat a2 v (M' 89) ∧ (v ≠ -1 → M' 87 5 = ((qpc (Mo 98 0).toNat a1.toNat) : Nat))) := by
  have hz := zp_68
  show zH n (0, 0) 68 (0, [zR 87, .inl a1, .inl a2, zN], []) M _
  have hn := hC.cnt1
  have hn0 := hC.cnt0
  have hmx := fun c (hc : c ≤ 31) => p_n9 h9 hc
  have hq9 : (qpc (Mo 98 0).toNat a1.toNat) ≤ 9 := hmx _ (by omega)
  have hq14 : qpc 14 a1.toNat = (qpc (Mo 98 0).toNat a1.toNat) := by have q := qpc_st hlt (14 - (Mo 98 0).toNat); rw [show (Mo 98 0).toNat + (14 - (Mo 98 0).toNat) = 14 by omega] at q; exact q
  have hq31 : qpc 31 a1.toNat = (qpc (Mo 98 0).toNat a1.toNat) := by have q := qpc_st hlt (31 - (Mo 98 0).toNat); rw [show (Mo 98 0).toNat + (31 - (Mo 98 0).toNat) = 31 by omega] at q; exact q
  have hcl : ∀ c : Nat, c ≤ 14 → qpc c a1.toNat = (qpc (Mo 98 0).toNat a1.toNat) → ∀ X : zM, X 87 5 = (qpc c a1.toNat : Nat) → X 87 6 = a2 → (∀ j, j < qpc c a1.toNat → X 88 j = hMk Mo (pl a1.toNat c j) (Mo 98 1).toNat) → kW (qpc (Mo 98 0).toNat a1.toNat) a2 (mkP Mo a1.toNat) X := fun c hc e X x1 x2 x3 => by
    refine ⟨by rw [x1, e], x2, fun j hj => ?_⟩
    rw [x3 j (by omega)]
    have z : pl a1.toNat c = pl a1.toNat (Mo 98 0).toNat := by
      by_cases y : c ≤ (Mo 98 0).toNat
      · have w := pl_st (m := a1.toNat) (c := c) ((Mo 98 0).toNat - c) (by rw [show c + ((Mo 98 0).toNat - c) = (Mo 98 0).toNat by omega]; exact e.symm)
        rw [show c + ((Mo 98 0).toNat - c) = (Mo 98 0).toNat by omega] at w
        exact w.symm
      · have w := pl_st (m := a1.toNat) (c := (Mo 98 0).toNat) (c - (Mo 98 0).toNat) (by rw [show (Mo 98 0).toNat + (c - (Mo 98 0).toNat) = c by omega]; exact e)
        rw [show (Mo 98 0).toNat + (c - (Mo 98 0).toNat) = c by omega] at w
        exact w
    rw [z]
    rfl
  refine zH_w (c' := (12, [zR 87, .inl a1, .inl a2, .inl 0], [])) 8 hz rfl ?_
  have lp12 : ∀ (N : Nat) (c : Int) (M5 : zM), ((14 - c).toNat) < N → (0 ≤ c ∧ c ≤ 14) → (∀ r, r ≠ 87 → r ≠ 88 → M5 r = M r) → (M5 87 5 = (qpc c.toNat a1.toNat : Nat)) → (M5 87 6 = a2) → (∀ j, j < qpc c.toNat a1.toNat → M5 88 j = hMk Mo (pl a1.toNat c.toNat j) (Mo 98 1).toNat) → zH n (0, 0) 68 (12, [zR 87, .inl a1, .inl a2, .inl c], []) M5 (fun r M' => ∃ v : Int, r = some (.inl v) ∧ (∀ r, (r < 87 ∨ 91 < r) → M' r = M r) ∧ hFd Mo a1.toNat a2 v (M' 89) ∧ (v ≠ -1 → M' 87 5 = ((qpc (Mo 98 0).toNat a1.toNat) : Nat))) := by
    intro N
    induction N with
    | zero => intro c M5 hN; exact absurd hN (Nat.not_lt_zero _)
    | succ N ih12 =>
      intro c M5 hN hi hO h5 h6 h88
      refine zH_w (c' := (15, [zR 87, .inl a1, .inl a2, .inl c], [.inl 14, .inl c])) 2 hz rfl ?_
      refine zH_wi_ge (pc := 15) (n' := 18) (t := 69) (L := [zR 87, .inl a1, .inl a2, .inl c]) (st := []) (x := c) (y := 14) 0 hz (by rfl) (fun hb15 => ?_) (fun hb15 => ?_)
      · skip
        have hW5 := hcl 14 (by decide) hq14 M5 (by rw [h5, show c.toNat = 14 by omega]) h6 (by rw [show c.toNat = 14 by omega] at h88; exact h88)
        have lp69 : ∀ (M6 : zM), (∀ r, r ≠ 87 → r ≠ 88 → M6 r = M r) → (kW (qpc (Mo 98 0).toNat a1.toNat) a2 (mkP Mo a1.toNat) M6) → zH n (0, 0) 68 (69, [zR 87, .inl a1, .inl a2, .inl c], []) M6 (fun r M' => ∃ v : Int, r = some (.inl v) ∧ (∀ r, (r < 87 ∨ 91 < r) → M' r = M r) ∧ hFd Mo a1.toNat a2 v (M' 89) ∧ (v ≠ -1 → M' 87 5 = ((qpc (Mo 98 0).toNat a1.toNat) : Nat))) := by
          intro M6 hO6 hW6
          refine zH_w (c' := (71, [zR 87, .inl a1, .inl a2, .inl 0], [])) 2 hz rfl ?_
          have lp71 : ∀ (N : Nat) (i : Int), ((9 - i).toNat) < N → (0 ≤ i ∧ i ≤ (qpc (Mo 98 0).toNat a1.toNat)) → (∀ j, j < i.toNat → hbP Mo a1.toNat j ≤ a2) → zH n (0, 0) 68 (71, [zR 87, .inl a1, .inl a2, .inl i], []) M6 (fun r M' => ∃ v : Int, r = some (.inl v) ∧ (∀ r, (r < 87 ∨ 91 < r) → M' r = M r) ∧ hFd Mo a1.toNat a2 v (M' 89) ∧ (v ≠ -1 → M' 87 5 = ((qpc (Mo 98 0).toNat a1.toNat) : Nat))) := by
            intro N
            induction N with
            | zero => intro i hN; exact absurd hN (Nat.not_lt_zero _)
            | succ N ih71 =>
              intro i hN hi2 hs
              refine zH_w (c' := (76, [zR 87, .inl a1, .inl a2, .inl i], [.inl (M6 87 5), .inl i])) 3 hz rfl ?_
              rw [hW6.1]
              refine zH_icmp_ge hz rfl (fun hb76 => ?_) (fun hb76 => ?_)
              · skip
                have hnT : ¬ hTo Mo a1.toNat a2 := hTo_not (fun j hj => hs j (by omega)) hn0.1
                refine zH_w (c' := (114, [zR 87, .inl a1, .inl a2, .inl 0], [])) 2 hz rfl ?_
                have lp114 : ∀ (N : Nat) (k : Int) (M7 : zM), ((11 - k).toNat) < N → (0 ≤ k ∧ k ≤ (qpc (Mo 98 0).toNat a1.toNat) + 1) → (∀ r, r ≠ 89 → r ≠ 90 → r ≠ 91 → M7 r = M6 r) → (∀ k' : Int, 0 ≤ k' → k' < k → ¬ (hEx (hapP Mo a1.toNat) (hbP Mo a1.toNat) a2 (qpc (Mo 98 0).toNat a1.toNat) k')) → zH n (0, 0) 68 (114, [zR 87, .inl a1, .inl a2, .inl k], []) M7 (fun r M' => ∃ v : Int, r = some (.inl v) ∧ (∀ r, (r < 87 ∨ 91 < r) → M' r = M r) ∧ hFd Mo a1.toNat a2 v (M' 89) ∧ (v ≠ -1 → M' 87 5 = ((qpc (Mo 98 0).toNat a1.toNat) : Nat))) := by
                  intro N
                  induction N with
                  | zero => intro k M7 hN; exact absurd hN (Nat.not_lt_zero _)
                  | succ N ih114 =>
                    intro k M7 hN hk hO7 hno
                    refine zH_w (c' := (119, [zR 87, .inl a1, .inl a2, .inl k], [.inl (M7 87 5), .inl k])) 3 hz rfl ?_
                    rw [show M7 87 5 = (((qpc (Mo 98 0).toNat a1.toNat) : Nat) : Int) from (congrFun (hO7 87 (by decide) (by decide) (by decide)) 5).trans hW6.1]
                    refine zH_icmp_gt hz rfl (fun hb119 => ?_) (fun hb119 => ?_)
                    · skip
                      refine zH_w (c' := (141, [zR 87, .inl a1, .inl a2, .inl k], [.inl (-1)])) 1 hz rfl ?_
                      refine zH_ret hz rfl rfl ?_
                      exfalso
                      refine hno ((qpc (Mo 98 0).toNat a1.toNat) : Nat) (by omega) (by omega) ⟨_, PG_id (fun j hj => ?_) (by omega)⟩
                      rcases Int.lt_or_le a2 (hbP Mo a1.toNat j) with z | z
                      · obtain ⟨d, d1, d2, d3⟩ := pl_is a1.toNat (Mo 98 0).toNat j hj
                        unfold hbP at z
                        rw [d3] at z
                        exact absurd ⟨d, by omega, d2, z⟩ hnT
                      · exact z
                    · skip
                      have hW7 := hW6.mv (hO7 87 (by decide) (by decide) (by decide)) (hO7 88 (by decide) (by decide) (by decide))
                      refine zH_w (c' := (126, [zR 87, .inl a1, .inl a2, .inl k], [.inl k, .inl 0, .inl 0, zR 87])) 4 hz rfl ?_
                      refine zH_wC (c1 := (129, [zR 87, .inl a1, .inl a2, .inl k], [])) 0 hz zp_71 (fh_71_87 hq9 (mkP_20 hn.2) (hbP_20 hn) (mkP_b hn.2) (mkP_ap hn.2) 10 (p := 0) (by omega) hW7 0 0 k rfl (Nat.zero_le _) rfl (fun i hi => absurd hi (Nat.not_lt_zero _)) (fun i hi => absurd hi (Nat.not_lt_zero _)) (fun x hx => absurd hx (by omega))) (by rfl) ?_
                      rintro _ M8 ⟨v, rfl, f8, -, hv⟩
                      show zH n (0, 0) 68 (129, [zR 87, .inl a1, .inl a2, .inl k], [.inl v]) M8 _
                      refine zH_wf_eq (pc := 129) (n' := 132) (t := 134) (L := [zR 87, .inl a1, .inl a2, .inl k]) (st := []) (x := v) 0 hz (by rfl) (fun hb129 => ?_) (fun hb129 => ?_)
                      · skip
                        have hnk : ∀ g, RG (qpc (Mo 98 0).toNat a1.toNat) k g → ¬ PG (hapP Mo a1.toNat) (hbP Mo a1.toNat) a2 (qpc (Mo 98 0).toNat a1.toNat) g := fun g g1 g2 => (hv.resolve_left (fun z => by have := z.1; omega)).2.2 g (fun j hj => absurd hj (Nat.not_lt_zero _)) g1 g2
                        refine zH_w (c' := (114, [zR 87, .inl a1, .inl a2, .inl (k + 1)], [])) 2 hz (by rw [show (.inl (k + 1) : zV) = .inl (w32 (k + 1)) from by rw [w32_id (by omega)]]; rfl) ?_
                        refine ih114 (k + 1) M8 (by omega) ?_ ?_ ?_
                        · omega
                        · exact fun r q1 q2 q3 => (f8 r q1 q2 q3).trans (hO7 r q1 q2 q3)
                        · intro k' q1 q2
                          by_cases z : k' = k
                          · rw [z]; exact fun q => q.elim (fun g hg => hnk g hg.1 hg.2)
                          · exact hno k' q1 (by omega)
                      · skip
                        obtain ⟨v1, vR, vG, vL⟩ := hv.resolve_right (fun z => hb129 z.1)
                        refine zH_w (c' := (133, [zR 87, .inl a1, .inl a2, .inl k], [.inl k])) 1 hz rfl ?_
                        refine zH_ret hz rfl rfl ?_
                        refine ⟨k, rfl, fun r hr => (f8 r (by omega) (by omega) (by omega)).trans ((hO7 r (by omega) (by omega) (by omega)).trans (hO6 r (by omega) (by omega))), .inr ⟨hnT, ?_⟩, fun _ => (congrFun (f8 87 (by decide) (by decide) (by decide)) 5).trans ((congrFun (hO7 87 (by decide) (by decide) (by decide)) 5).trans hW6.1)⟩
                        by_cases z : k = 0
                        · refine .inl ⟨z, fun k' q1 q2 => ?_⟩
                          have q := vR 0 (by omega)
                          omega
                        · exact .inr ⟨by omega, by omega, fun k' q1 q2 => hno k' (by omega) q2, vR, vG, fun g g1 g2 => vL g (fun j hj => absurd hj (Nat.not_lt_zero _)) g1 g2⟩
                refine lp114 (12) 0 M6 (by omega) ?_ ?_ ?_
                · omega
                · exact fun _ _ _ _ => rfl
                · exact fun q q1 q2 => absurd q1 (by omega)
              · skip
                refine zH_w (c' := (85, [zR 87, .inl a1, .inl a2, .inl i], [.inl 9, .inl i])) 4 hz rfl ?_
                refine zH_wi_ge (pc := 85) (n' := 88) (t := 112) (L := [zR 87, .inl a1, .inl a2, .inl i]) (st := []) (x := i) (y := 9) 0 hz (by rfl) (fun hb85 => ?_) (fun hb85 => ?_)
                · skip
                  have hnT : ¬ hTo Mo a1.toNat a2 := hTo_not (fun j hj => hs j (by omega)) hn0.1
                  refine zH_w (c' := (114, [zR 87, .inl a1, .inl a2, .inl 0], [])) 2 hz rfl ?_
                  have lp114 : ∀ (N : Nat) (k : Int) (M7 : zM), ((11 - k).toNat) < N → (0 ≤ k ∧ k ≤ (qpc (Mo 98 0).toNat a1.toNat) + 1) → (∀ r, r ≠ 89 → r ≠ 90 → r ≠ 91 → M7 r = M6 r) → (∀ k' : Int, 0 ≤ k' → k' < k → ¬ (hEx (hapP Mo a1.toNat) (hbP Mo a1.toNat) a2 (qpc (Mo 98 0).toNat a1.toNat) k')) → zH n (0, 0) 68 (114, [zR 87, .inl a1, .inl a2, .inl k], []) M7 (fun r M' => ∃ v : Int, r = some (.inl v) ∧ (∀ r, (r < 87 ∨ 91 < r) → M' r = M r) ∧ hFd Mo a1.toNat a2 v (M' 89) ∧ (v ≠ -1 → M' 87 5 = ((qpc (Mo 98 0).toNat a1.toNat) : Nat))) := by
                    intro N
                    induction N with
                    | zero => intro k M7 hN; exact absurd hN (Nat.not_lt_zero _)
                    | succ N ih114 =>
                      intro k M7 hN hk hO7 hno
                      refine zH_w (c' := (119, [zR 87, .inl a1, .inl a2, .inl k], [.inl (M7 87 5), .inl k])) 3 hz rfl ?_
                      rw [show M7 87 5 = (((qpc (Mo 98 0).toNat a1.toNat) : Nat) : Int) from (congrFun (hO7 87 (by decide) (by decide) (by decide)) 5).trans hW6.1]
                      refine zH_icmp_gt hz rfl (fun hb119 => ?_) (fun hb119 => ?_)
                      · skip
                        refine zH_w (c' := (141, [zR 87, .inl a1, .inl a2, .inl k], [.inl (-1)])) 1 hz rfl ?_
                        refine zH_ret hz rfl rfl ?_
                        exfalso
                        refine hno ((qpc (Mo 98 0).toNat a1.toNat) : Nat) (by omega) (by omega) ⟨_, PG_id (fun j hj => ?_) (by omega)⟩
                        rcases Int.lt_or_le a2 (hbP Mo a1.toNat j) with z | z
                        · obtain ⟨d, d1, d2, d3⟩ := pl_is a1.toNat (Mo 98 0).toNat j hj
                          unfold hbP at z
                          rw [d3] at z
                          exact absurd ⟨d, by omega, d2, z⟩ hnT
                        · exact z
                      · skip
                        have hW7 := hW6.mv (hO7 87 (by decide) (by decide) (by decide)) (hO7 88 (by decide) (by decide) (by decide))
                        refine zH_w (c' := (126, [zR 87, .inl a1, .inl a2, .inl k], [.inl k, .inl 0, .inl 0, zR 87])) 4 hz rfl ?_
                        refine zH_wC (c1 := (129, [zR 87, .inl a1, .inl a2, .inl k], [])) 0 hz zp_71 (fh_71_87 hq9 (mkP_20 hn.2) (hbP_20 hn) (mkP_b hn.2) (mkP_ap hn.2) 10 (p := 0) (by omega) hW7 0 0 k rfl (Nat.zero_le _) rfl (fun i hi => absurd hi (Nat.not_lt_zero _)) (fun i hi => absurd hi (Nat.not_lt_zero _)) (fun x hx => absurd hx (by omega))) (by rfl) ?_
                        rintro _ M8 ⟨v, rfl, f8, -, hv⟩
                        show zH n (0, 0) 68 (129, [zR 87, .inl a1, .inl a2, .inl k], [.inl v]) M8 _
                        refine zH_wf_eq (pc := 129) (n' := 132) (t := 134) (L := [zR 87, .inl a1, .inl a2, .inl k]) (st := []) (x := v) 0 hz (by rfl) (fun hb129 => ?_) (fun hb129 => ?_)
                        · skip
                          have hnk : ∀ g, RG (qpc (Mo 98 0).toNat a1.toNat) k g → ¬ PG (hapP Mo a1.toNat) (hbP Mo a1.toNat) a2 (qpc (Mo 98 0).toNat a1.toNat) g := fun g g1 g2 => (hv.resolve_left (fun z => by have := z.1; omega)).2.2 g (fun j hj => absurd hj (Nat.not_lt_zero _)) g1 g2
                          refine zH_w (c' := (114, [zR 87, .inl a1, .inl a2, .inl (k + 1)], [])) 2 hz (by rw [show (.inl (k + 1) : zV) = .inl (w32 (k + 1)) from by rw [w32_id (by omega)]]; rfl) ?_
                          refine ih114 (k + 1) M8 (by omega) ?_ ?_ ?_
                          · omega
                          · exact fun r q1 q2 q3 => (f8 r q1 q2 q3).trans (hO7 r q1 q2 q3)
                          · intro k' q1 q2
                            by_cases z : k' = k
                            · rw [z]; exact fun q => q.elim (fun g hg => hnk g hg.1 hg.2)
                            · exact hno k' q1 (by omega)
                        · skip
                          obtain ⟨v1, vR, vG, vL⟩ := hv.resolve_right (fun z => hb129 z.1)
                          refine zH_w (c' := (133, [zR 87, .inl a1, .inl a2, .inl k], [.inl k])) 1 hz rfl ?_
                          refine zH_ret hz rfl rfl ?_
                          refine ⟨k, rfl, fun r hr => (f8 r (by omega) (by omega) (by omega)).trans ((hO7 r (by omega) (by omega) (by omega)).trans (hO6 r (by omega) (by omega))), .inr ⟨hnT, ?_⟩, fun _ => (congrFun (f8 87 (by decide) (by decide) (by decide)) 5).trans ((congrFun (hO7 87 (by decide) (by decide) (by decide)) 5).trans hW6.1)⟩
                          by_cases z : k = 0
                          · refine .inl ⟨z, fun k' q1 q2 => ?_⟩
                            have q := vR 0 (by omega)
                            omega
                          · exact .inr ⟨by omega, by omega, fun k' q1 q2 => hno k' (by omega) q2, vR, vG, fun g g1 g2 => vL g (fun j hj => absurd hj (Nat.not_lt_zero _)) g1 g2⟩
                  refine lp114 (12) 0 M6 (by omega) ?_ ?_ ?_
                  · omega
                  · exact fun _ _ _ _ => rfl
                  · exact fun q q1 q2 => absurd q1 (by omega)
                · skip
                  refine zH_w (c' := (93, [zR 87, .inl a1, .inl a2, .inl i], [.inl i, zR 88])) 3 hz rfl ?_
                  refine zH_iald hz rfl rfl (.inl rfl) (fun hin93 => ?_)
                  show zH n (0, 0) 68 (94, [zR 87, .inl a1, .inl a2, .inl i], [.inl (M6 88 (i : Int).toNat)]) M6 _
                  rw [show M6 88 (i : Int).toNat = mkP Mo a1.toNat i.toNat from hW6.2.2 i.toNat (by omega)]
                  refine zH_wE (c1 := (97, [zR 87, .inl a1, .inl a2, .inl i], [])) 0 hz zp_296 (fh_296 (mkP Mo a1.toNat i.toNat)) (by rfl) ?_
                  show zH n (0, 0) 68 (97, [zR 87, .inl a1, .inl a2, .inl i], [.inl (hf_296 M6 (mkP Mo a1.toNat i.toNat))]) M6 _
                  rw [mkP_b hn.2]
                  refine zH_w (c' := (101, [zR 87, .inl a1, .inl a2, .inl i], [.inl (M6 87 6), .inl (hbP Mo a1.toNat i.toNat)])) 2 hz rfl ?_
                  rw [hW6.2.1]
                  refine zH_icmp_le hz rfl (fun hb101 => ?_) (fun hb101 => ?_)
                  · skip
                    refine zH_w (c' := (71, [zR 87, .inl a1, .inl a2, .inl (i + 1)], [])) 2 hz (by rw [show (.inl (i + 1) : zV) = .inl (w32 (i + 1)) from by rw [w32_id (by omega)]]; rfl) ?_
                    refine ih71 (i + 1) (by omega) ?_ ?_
                    · omega
                    · intro j hj
                      by_cases z : j = i.toNat
                      · rw [z]; omega
                      · exact hs j (by omega)
                  · skip
                    obtain ⟨d, d1, d2, d3⟩ := pl_is a1.toNat (Mo 98 0).toNat i.toNat (by omega)
                    have z9 : a2 < hbP Mo a1.toNat i.toNat := by omega
                    unfold hbP at z9
                    rw [d3] at z9
                    have hT9 : hTo Mo a1.toNat a2 := ⟨d, by omega, d2, z9⟩
                    refine zH_w (c' := (105, [zR 87, .inl a1, .inl a2, .inl i], [.inl (-1)])) 1 hz rfl ?_
                    exact zH_wr (r := some (.inl (-1))) 0 hz (by rfl) (⟨-1, rfl, fun r hr => hO6 r (by omega) (by omega), .inl ⟨rfl, hT9⟩, fun z => absurd rfl z⟩)
          refine lp71 (10) 0 (by omega) ?_ ?_
          · omega
          · exact fun j hj => absurd hj (Nat.not_lt_zero _)
        refine lp69 M5 ?_ ?_
        · exact hO
        · exact hW5
      · skip
        refine zH_w (c' := (22, [zR 87, .inl a1, .inl a2, .inl c], [.inl (M5 87 5)])) 2 hz rfl ?_
        rw [h5]
        refine zH_w (c' := (27, [zR 87, .inl a1, .inl a2, .inl c], [.inl 9, .inl ((qpc c.toNat a1.toNat : Nat) : Int)])) 3 hz rfl ?_
        refine zH_wi_ge (pc := 27) (n' := 30) (t := 69) (L := [zR 87, .inl a1, .inl a2, .inl c]) (st := []) (x := ((qpc c.toNat a1.toNat : Nat) : Int)) (y := 9) 0 hz (by rfl) (fun hb27 => ?_) (fun hb27 => ?_)
        · skip
          have hcm := hmx c.toNat (by omega)
          have hcm2 := qpc_mono (v := a1.toNat) (show c.toNat ≤ 31 by omega)
          have hW5 := hcl c.toNat (by omega) (by omega) M5 h5 h6 h88
          have lp69 : ∀ (M6 : zM), (∀ r, r ≠ 87 → r ≠ 88 → M6 r = M r) → (kW (qpc (Mo 98 0).toNat a1.toNat) a2 (mkP Mo a1.toNat) M6) → zH n (0, 0) 68 (69, [zR 87, .inl a1, .inl a2, .inl c], []) M6 (fun r M' => ∃ v : Int, r = some (.inl v) ∧ (∀ r, (r < 87 ∨ 91 < r) → M' r = M r) ∧ hFd Mo a1.toNat a2 v (M' 89) ∧ (v ≠ -1 → M' 87 5 = ((qpc (Mo 98 0).toNat a1.toNat) : Nat))) := by
            intro M6 hO6 hW6
            refine zH_w (c' := (71, [zR 87, .inl a1, .inl a2, .inl 0], [])) 2 hz rfl ?_
            have lp71 : ∀ (N : Nat) (i : Int), ((9 - i).toNat) < N → (0 ≤ i ∧ i ≤ (qpc (Mo 98 0).toNat a1.toNat)) → (∀ j, j < i.toNat → hbP Mo a1.toNat j ≤ a2) → zH n (0, 0) 68 (71, [zR 87, .inl a1, .inl a2, .inl i], []) M6 (fun r M' => ∃ v : Int, r = some (.inl v) ∧ (∀ r, (r < 87 ∨ 91 < r) → M' r = M r) ∧ hFd Mo a1.toNat a2 v (M' 89) ∧ (v ≠ -1 → M' 87 5 = ((qpc (Mo 98 0).toNat a1.toNat) : Nat))) := by
              intro N
              induction N with
              | zero => intro i hN; exact absurd hN (Nat.not_lt_zero _)
              | succ N ih71 =>
                intro i hN hi2 hs
                refine zH_w (c' := (76, [zR 87, .inl a1, .inl a2, .inl i], [.inl (M6 87 5), .inl i])) 3 hz rfl ?_
                rw [hW6.1]
                refine zH_icmp_ge hz rfl (fun hb76 => ?_) (fun hb76 => ?_)
                · skip
                  have hnT : ¬ hTo Mo a1.toNat a2 := hTo_not (fun j hj => hs j (by omega)) hn0.1
                  refine zH_w (c' := (114, [zR 87, .inl a1, .inl a2, .inl 0], [])) 2 hz rfl ?_
                  have lp114 : ∀ (N : Nat) (k : Int) (M7 : zM), ((11 - k).toNat) < N → (0 ≤ k ∧ k ≤ (qpc (Mo 98 0).toNat a1.toNat) + 1) → (∀ r, r ≠ 89 → r ≠ 90 → r ≠ 91 → M7 r = M6 r) → (∀ k' : Int, 0 ≤ k' → k' < k → ¬ (hEx (hapP Mo a1.toNat) (hbP Mo a1.toNat) a2 (qpc (Mo 98 0).toNat a1.toNat) k')) → zH n (0, 0) 68 (114, [zR 87, .inl a1, .inl a2, .inl k], []) M7 (fun r M' => ∃ v : Int, r = some (.inl v) ∧ (∀ r, (r < 87 ∨ 91 < r) → M' r = M r) ∧ hFd Mo a1.toNat a2 v (M' 89) ∧ (v ≠ -1 → M' 87 5 = ((qpc (Mo 98 0).toNat a1.toNat) : Nat))) := by
                    intro N
                    induction N with
                    | zero => intro k M7 hN; exact absurd hN (Nat.not_lt_zero _)
                    | succ N ih114 =>
                      intro k M7 hN hk hO7 hno
                      refine zH_w (c' := (119, [zR 87, .inl a1, .inl a2, .inl k], [.inl (M7 87 5), .inl k])) 3 hz rfl ?_
                      rw [show M7 87 5 = (((qpc (Mo 98 0).toNat a1.toNat) : Nat) : Int) from (congrFun (hO7 87 (by decide) (by decide) (by decide)) 5).trans hW6.1]
                      refine zH_icmp_gt hz rfl (fun hb119 => ?_) (fun hb119 => ?_)
                      · skip
                        refine zH_w (c' := (141, [zR 87, .inl a1, .inl a2, .inl k], [.inl (-1)])) 1 hz rfl ?_
                        refine zH_ret hz rfl rfl ?_
                        exfalso
                        refine hno ((qpc (Mo 98 0).toNat a1.toNat) : Nat) (by omega) (by omega) ⟨_, PG_id (fun j hj => ?_) (by omega)⟩
                        rcases Int.lt_or_le a2 (hbP Mo a1.toNat j) with z | z
                        · obtain ⟨d, d1, d2, d3⟩ := pl_is a1.toNat (Mo 98 0).toNat j hj
                          unfold hbP at z
                          rw [d3] at z
                          exact absurd ⟨d, by omega, d2, z⟩ hnT
                        · exact z
                      · skip
                        have hW7 := hW6.mv (hO7 87 (by decide) (by decide) (by decide)) (hO7 88 (by decide) (by decide) (by decide))
                        refine zH_w (c' := (126, [zR 87, .inl a1, .inl a2, .inl k], [.inl k, .inl 0, .inl 0, zR 87])) 4 hz rfl ?_
                        refine zH_wC (c1 := (129, [zR 87, .inl a1, .inl a2, .inl k], [])) 0 hz zp_71 (fh_71_87 hq9 (mkP_20 hn.2) (hbP_20 hn) (mkP_b hn.2) (mkP_ap hn.2) 10 (p := 0) (by omega) hW7 0 0 k rfl (Nat.zero_le _) rfl (fun i hi => absurd hi (Nat.not_lt_zero _)) (fun i hi => absurd hi (Nat.not_lt_zero _)) (fun x hx => absurd hx (by omega))) (by rfl) ?_
                        rintro _ M8 ⟨v, rfl, f8, -, hv⟩
                        show zH n (0, 0) 68 (129, [zR 87, .inl a1, .inl a2, .inl k], [.inl v]) M8 _
                        refine zH_wf_eq (pc := 129) (n' := 132) (t := 134) (L := [zR 87, .inl a1, .inl a2, .inl k]) (st := []) (x := v) 0 hz (by rfl) (fun hb129 => ?_) (fun hb129 => ?_)
                        · skip
                          have hnk : ∀ g, RG (qpc (Mo 98 0).toNat a1.toNat) k g → ¬ PG (hapP Mo a1.toNat) (hbP Mo a1.toNat) a2 (qpc (Mo 98 0).toNat a1.toNat) g := fun g g1 g2 => (hv.resolve_left (fun z => by have := z.1; omega)).2.2 g (fun j hj => absurd hj (Nat.not_lt_zero _)) g1 g2
                          refine zH_w (c' := (114, [zR 87, .inl a1, .inl a2, .inl (k + 1)], [])) 2 hz (by rw [show (.inl (k + 1) : zV) = .inl (w32 (k + 1)) from by rw [w32_id (by omega)]]; rfl) ?_
                          refine ih114 (k + 1) M8 (by omega) ?_ ?_ ?_
                          · omega
                          · exact fun r q1 q2 q3 => (f8 r q1 q2 q3).trans (hO7 r q1 q2 q3)
                          · intro k' q1 q2
                            by_cases z : k' = k
                            · rw [z]; exact fun q => q.elim (fun g hg => hnk g hg.1 hg.2)
                            · exact hno k' q1 (by omega)
                        · skip
                          obtain ⟨v1, vR, vG, vL⟩ := hv.resolve_right (fun z => hb129 z.1)
                          refine zH_w (c' := (133, [zR 87, .inl a1, .inl a2, .inl k], [.inl k])) 1 hz rfl ?_
                          refine zH_ret hz rfl rfl ?_
                          refine ⟨k, rfl, fun r hr => (f8 r (by omega) (by omega) (by omega)).trans ((hO7 r (by omega) (by omega) (by omega)).trans (hO6 r (by omega) (by omega))), .inr ⟨hnT, ?_⟩, fun _ => (congrFun (f8 87 (by decide) (by decide) (by decide)) 5).trans ((congrFun (hO7 87 (by decide) (by decide) (by decide)) 5).trans hW6.1)⟩
                          by_cases z : k = 0
                          · refine .inl ⟨z, fun k' q1 q2 => ?_⟩
                            have q := vR 0 (by omega)
                            omega
                          · exact .inr ⟨by omega, by omega, fun k' q1 q2 => hno k' (by omega) q2, vR, vG, fun g g1 g2 => vL g (fun j hj => absurd hj (Nat.not_lt_zero _)) g1 g2⟩
                  refine lp114 (12) 0 M6 (by omega) ?_ ?_ ?_
                  · omega
                  · exact fun _ _ _ _ => rfl
                  · exact fun q q1 q2 => absurd q1 (by omega)
                · skip
                  refine zH_w (c' := (85, [zR 87, .inl a1, .inl a2, .inl i], [.inl 9, .inl i])) 4 hz rfl ?_
                  refine zH_wi_ge (pc := 85) (n' := 88) (t := 112) (L := [zR 87, .inl a1, .inl a2, .inl i]) (st := []) (x := i) (y := 9) 0 hz (by rfl) (fun hb85 => ?_) (fun hb85 => ?_)
                  · skip
                    have hnT : ¬ hTo Mo a1.toNat a2 := hTo_not (fun j hj => hs j (by omega)) hn0.1
                    refine zH_w (c' := (114, [zR 87, .inl a1, .inl a2, .inl 0], [])) 2 hz rfl ?_
                    have lp114 : ∀ (N : Nat) (k : Int) (M7 : zM), ((11 - k).toNat) < N → (0 ≤ k ∧ k ≤ (qpc (Mo 98 0).toNat a1.toNat) + 1) → (∀ r, r ≠ 89 → r ≠ 90 → r ≠ 91 → M7 r = M6 r) → (∀ k' : Int, 0 ≤ k' → k' < k → ¬ (hEx (hapP Mo a1.toNat) (hbP Mo a1.toNat) a2 (qpc (Mo 98 0).toNat a1.toNat) k')) → zH n (0, 0) 68 (114, [zR 87, .inl a1, .inl a2, .inl k], []) M7 (fun r M' => ∃ v : Int, r = some (.inl v) ∧ (∀ r, (r < 87 ∨ 91 < r) → M' r = M r) ∧ hFd Mo a1.toNat a2 v (M' 89) ∧ (v ≠ -1 → M' 87 5 = ((qpc (Mo 98 0).toNat a1.toNat) : Nat))) := by
                      intro N
                      induction N with
                      | zero => intro k M7 hN; exact absurd hN (Nat.not_lt_zero _)
                      | succ N ih114 =>
                        intro k M7 hN hk hO7 hno
                        refine zH_w (c' := (119, [zR 87, .inl a1, .inl a2, .inl k], [.inl (M7 87 5), .inl k])) 3 hz rfl ?_
                        rw [show M7 87 5 = (((qpc (Mo 98 0).toNat a1.toNat) : Nat) : Int) from (congrFun (hO7 87 (by decide) (by decide) (by decide)) 5).trans hW6.1]
                        refine zH_icmp_gt hz rfl (fun hb119 => ?_) (fun hb119 => ?_)
                        · skip
                          refine zH_w (c' := (141, [zR 87, .inl a1, .inl a2, .inl k], [.inl (-1)])) 1 hz rfl ?_
                          refine zH_ret hz rfl rfl ?_
                          exfalso
                          refine hno ((qpc (Mo 98 0).toNat a1.toNat) : Nat) (by omega) (by omega) ⟨_, PG_id (fun j hj => ?_) (by omega)⟩
                          rcases Int.lt_or_le a2 (hbP Mo a1.toNat j) with z | z
                          · obtain ⟨d, d1, d2, d3⟩ := pl_is a1.toNat (Mo 98 0).toNat j hj
                            unfold hbP at z
                            rw [d3] at z
                            exact absurd ⟨d, by omega, d2, z⟩ hnT
                          · exact z
                        · skip
                          have hW7 := hW6.mv (hO7 87 (by decide) (by decide) (by decide)) (hO7 88 (by decide) (by decide) (by decide))
                          refine zH_w (c' := (126, [zR 87, .inl a1, .inl a2, .inl k], [.inl k, .inl 0, .inl 0, zR 87])) 4 hz rfl ?_
                          refine zH_wC (c1 := (129, [zR 87, .inl a1, .inl a2, .inl k], [])) 0 hz zp_71 (fh_71_87 hq9 (mkP_20 hn.2) (hbP_20 hn) (mkP_b hn.2) (mkP_ap hn.2) 10 (p := 0) (by omega) hW7 0 0 k rfl (Nat.zero_le _) rfl (fun i hi => absurd hi (Nat.not_lt_zero _)) (fun i hi => absurd hi (Nat.not_lt_zero _)) (fun x hx => absurd hx (by omega))) (by rfl) ?_
                          rintro _ M8 ⟨v, rfl, f8, -, hv⟩
                          show zH n (0, 0) 68 (129, [zR 87, .inl a1, .inl a2, .inl k], [.inl v]) M8 _
                          refine zH_wf_eq (pc := 129) (n' := 132) (t := 134) (L := [zR 87, .inl a1, .inl a2, .inl k]) (st := []) (x := v) 0 hz (by rfl) (fun hb129 => ?_) (fun hb129 => ?_)
                          · skip
                            have hnk : ∀ g, RG (qpc (Mo 98 0).toNat a1.toNat) k g → ¬ PG (hapP Mo a1.toNat) (hbP Mo a1.toNat) a2 (qpc (Mo 98 0).toNat a1.toNat) g := fun g g1 g2 => (hv.resolve_left (fun z => by have := z.1; omega)).2.2 g (fun j hj => absurd hj (Nat.not_lt_zero _)) g1 g2
                            refine zH_w (c' := (114, [zR 87, .inl a1, .inl a2, .inl (k + 1)], [])) 2 hz (by rw [show (.inl (k + 1) : zV) = .inl (w32 (k + 1)) from by rw [w32_id (by omega)]]; rfl) ?_
                            refine ih114 (k + 1) M8 (by omega) ?_ ?_ ?_
                            · omega
                            · exact fun r q1 q2 q3 => (f8 r q1 q2 q3).trans (hO7 r q1 q2 q3)
                            · intro k' q1 q2
                              by_cases z : k' = k
                              · rw [z]; exact fun q => q.elim (fun g hg => hnk g hg.1 hg.2)
                              · exact hno k' q1 (by omega)
                          · skip
                            obtain ⟨v1, vR, vG, vL⟩ := hv.resolve_right (fun z => hb129 z.1)
                            refine zH_w (c' := (133, [zR 87, .inl a1, .inl a2, .inl k], [.inl k])) 1 hz rfl ?_
                            refine zH_ret hz rfl rfl ?_
                            refine ⟨k, rfl, fun r hr => (f8 r (by omega) (by omega) (by omega)).trans ((hO7 r (by omega) (by omega) (by omega)).trans (hO6 r (by omega) (by omega))), .inr ⟨hnT, ?_⟩, fun _ => (congrFun (f8 87 (by decide) (by decide) (by decide)) 5).trans ((congrFun (hO7 87 (by decide) (by decide) (by decide)) 5).trans hW6.1)⟩
                            by_cases z : k = 0
                            · refine .inl ⟨z, fun k' q1 q2 => ?_⟩
                              have q := vR 0 (by omega)
                              omega
                            · exact .inr ⟨by omega, by omega, fun k' q1 q2 => hno k' (by omega) q2, vR, vG, fun g g1 g2 => vL g (fun j hj => absurd hj (Nat.not_lt_zero _)) g1 g2⟩
                    refine lp114 (12) 0 M6 (by omega) ?_ ?_ ?_
                    · omega
                    · exact fun _ _ _ _ => rfl
                    · exact fun q q1 q2 => absurd q1 (by omega)
                  · skip
                    refine zH_w (c' := (93, [zR 87, .inl a1, .inl a2, .inl i], [.inl i, zR 88])) 3 hz rfl ?_
                    refine zH_iald hz rfl rfl (.inl rfl) (fun hin93 => ?_)
                    show zH n (0, 0) 68 (94, [zR 87, .inl a1, .inl a2, .inl i], [.inl (M6 88 (i : Int).toNat)]) M6 _
                    rw [show M6 88 (i : Int).toNat = mkP Mo a1.toNat i.toNat from hW6.2.2 i.toNat (by omega)]
                    refine zH_wE (c1 := (97, [zR 87, .inl a1, .inl a2, .inl i], [])) 0 hz zp_296 (fh_296 (mkP Mo a1.toNat i.toNat)) (by rfl) ?_
                    show zH n (0, 0) 68 (97, [zR 87, .inl a1, .inl a2, .inl i], [.inl (hf_296 M6 (mkP Mo a1.toNat i.toNat))]) M6 _
                    rw [mkP_b hn.2]
                    refine zH_w (c' := (101, [zR 87, .inl a1, .inl a2, .inl i], [.inl (M6 87 6), .inl (hbP Mo a1.toNat i.toNat)])) 2 hz rfl ?_
                    rw [hW6.2.1]
                    refine zH_icmp_le hz rfl (fun hb101 => ?_) (fun hb101 => ?_)
                    · skip
                      refine zH_w (c' := (71, [zR 87, .inl a1, .inl a2, .inl (i + 1)], [])) 2 hz (by rw [show (.inl (i + 1) : zV) = .inl (w32 (i + 1)) from by rw [w32_id (by omega)]]; rfl) ?_
                      refine ih71 (i + 1) (by omega) ?_ ?_
                      · omega
                      · intro j hj
                        by_cases z : j = i.toNat
                        · rw [z]; omega
                        · exact hs j (by omega)
                    · skip
                      obtain ⟨d, d1, d2, d3⟩ := pl_is a1.toNat (Mo 98 0).toNat i.toNat (by omega)
                      have z9 : a2 < hbP Mo a1.toNat i.toNat := by omega
                      unfold hbP at z9
                      rw [d3] at z9
                      have hT9 : hTo Mo a1.toNat a2 := ⟨d, by omega, d2, z9⟩
                      refine zH_w (c' := (105, [zR 87, .inl a1, .inl a2, .inl i], [.inl (-1)])) 1 hz rfl ?_
                      exact zH_wr (r := some (.inl (-1))) 0 hz (by rfl) (⟨-1, rfl, fun r hr => hO6 r (by omega) (by omega), .inl ⟨rfl, hT9⟩, fun z => absurd rfl z⟩)
            refine lp71 (10) 0 (by omega) ?_ ?_
            · omega
            · exact fun j hj => absurd hj (Nat.not_lt_zero _)
          refine lp69 M5 ?_ ?_
          · exact hO
          · exact hW5
        · skip
          have ec : ((c.toNat : Nat) : Int) = c := by omega
          have hqn := qpc_next c.toNat a1.toNat
          have hps := pl_s a1.toNat c.toNat
          have hqc := hmx c.toNat (by omega)
          refine zH_w (c' := (35, [zR 87, .inl a1, .inl a2, .inl c], [.inl (zband (zbshr a1 c) 1)])) 5 hz rfl ?_
          rw [show zband (zbshr a1 c) 1 = ((a1.toNat / 2 ^ c.toNat % 2 : Nat) : Int) from qbit a1 c (by omega) (by omega)]
          refine zH_w (c' := (36, [zR 87, .inl a1, .inl a2, .inl c], [.inl 1, .inl ((a1.toNat / 2 ^ c.toNat % 2 : Nat) : Int)])) 1 hz rfl ?_
          refine zH_wi_ne (pc := 36) (n' := 39) (t := 63) (L := [zR 87, .inl a1, .inl a2, .inl c]) (st := []) (x := ((a1.toNat / 2 ^ c.toNat % 2 : Nat) : Int)) (y := 1) 0 hz (by rfl) (fun hb36 => ?_) (fun hb36 => ?_)
          · skip
            have hb0 : ¬ a1.toNat / 2 ^ c.toNat % 2 = 1 := by omega
            have eq9 : qpc (c.toNat + 1) a1.toNat = qpc c.toNat a1.toNat := by omega
            have hOn := hO
            have h5n : M5 87 5 = (qpc (c.toNat + 1) a1.toNat : Nat) := by rw [eq9]; exact h5
            have h6n := h6
            have h88n : ∀ j, j < qpc (c.toNat + 1) a1.toNat → M5 88 j = hMk Mo (pl a1.toNat (c.toNat + 1) j) (Mo 98 1).toNat := by rw [eq9, hps, if_neg hb0]; exact h88
            refine zH_w (c' := (12, [zR 87, .inl a1, .inl a2, .inl (c + 1)], [])) 2 hz (by rw [show (.inl (c + 1) : zV) = .inl (w32 (c + 1)) from by rw [w32_id (by omega)]]; rfl) ?_
            refine ih12 (c + 1) M5 (by omega) ?_ ?_ ?_ ?_ ?_
            · omega
            · exact hOn
            · rw [show (c + 1).toNat = c.toNat + 1 by omega]; exact h5n
            · exact h6n
            · rw [show (c + 1).toNat = c.toNat + 1 by omega]; exact h88n
          · skip
            have hb1 : a1.toNat / 2 ^ c.toNat % 2 = 1 := by omega
            have eq9 : qpc (c.toNat + 1) a1.toNat = qpc c.toNat a1.toNat + 1 := by omega
            refine zH_w (c' := (47, [zR 87, .inl a1, .inl a2, .inl c], [.inl (M5 87 5), zR 88])) 4 hz rfl ?_
            rw [h5]
            refine zH_w (c' := (49, [zR 87, .inl a1, .inl a2, .inl c], [.inl c, zR 87, .inl ((qpc c.toNat a1.toNat : Nat) : Int), zR 88])) 2 hz rfl ?_
            refine zH_wE (c1 := (52, [zR 87, .inl a1, .inl a2, .inl c], [.inl ((qpc c.toNat a1.toNat : Nat) : Int), zR 88])) 0 hz zp_70 (fh_70_87 hC hH hT (fun r hr => (hO r (by omega) (by omega)).trans (eq r hr)) c) (by rfl) ?_
            show zH n (0, 0) 68 (52, [zR 87, .inl a1, .inl a2, .inl c], [.inl (hMk Mo c (Mo 98 1).toNat), .inl ((qpc c.toNat a1.toNat : Nat) : Int), zR 88]) M5 _
            refine zH_iast hz rfl rfl (fun hin52 => ?_)
            show zH n (0, 0) 68 (53, [zR 87, .inl a1, .inl a2, .inl c], []) (zput M5 88 (((qpc c.toNat a1.toNat : Nat) : Int) : Int).toNat (hMk Mo c (Mo 98 1).toNat)) _
            obtain ⟨M9, hM9⟩ : ∃ X : zM, X = zput M5 88 (((qpc c.toNat a1.toNat : Nat) : Int) : Int).toNat (hMk Mo c (Mo 98 1).toNat) := ⟨_, rfl⟩
            rw [← hM9]
            refine zH_w (c' := (58, [zR 87, .inl a1, .inl a2, .inl c], [.inl (M9 87 5), zR 87])) 3 hz rfl ?_
            rw [show M9 87 5 = ((qpc c.toNat a1.toNat : Nat) : Int) from by rw [hM9, zput_oth (by decide)]; exact h5]
            refine zH_w (c' := (60, [zR 87, .inl a1, .inl a2, .inl c], [.inl (w32 (((qpc c.toNat a1.toNat : Nat) : Int) + 1)), zR 87])) 2 hz rfl ?_
            rw [show w32 (((qpc c.toNat a1.toNat : Nat) : Int) + 1) = ((qpc c.toNat a1.toNat : Nat) : Int) + 1 from w32_id (by omega)]
            refine zH_w (c' := (63, [zR 87, .inl a1, .inl a2, .inl c], [])) 1 hz rfl ?_
            obtain ⟨M10, hM10⟩ : ∃ X : zM, X = zput M9 87 5 (((qpc c.toNat a1.toNat : Nat) : Int) + 1) := ⟨_, rfl⟩
            rw [← hM10]
            have hOn : ∀ r, r ≠ 87 → r ≠ 88 → M10 r = M r := fun r q1 q2 => by rw [hM10, zput_oth q1, hM9, zput_oth q2]; exact hO r q1 q2
            have h5n : M10 87 5 = (qpc (c.toNat + 1) a1.toNat : Nat) := by rw [hM10, qput_eq, eq9]; omega
            have h6n : M10 87 6 = a2 := by rw [hM10, qput_nk (by decide), hM9, zput_oth (by decide)]; exact h6
            have h88n : ∀ j, j < qpc (c.toNat + 1) a1.toNat → M10 88 j = hMk Mo (pl a1.toNat (c.toNat + 1) j) (Mo 98 1).toNat := fun j hj => by
              rw [hps, if_pos hb1, hM10, zput_oth (by decide), hM9, Int.toNat_natCast]
              by_cases z : j = qpc c.toNat a1.toNat
              · rw [z, qput_eq, hup_eq, ec]
              · rw [qput_nk z, hup_ne z]; exact h88 j (by omega)
            refine zH_w (c' := (12, [zR 87, .inl a1, .inl a2, .inl (c + 1)], [])) 2 hz (by rw [show (.inl (c + 1) : zV) = .inl (w32 (c + 1)) from by rw [w32_id (by omega)]]; rfl) ?_
            refine ih12 (c + 1) M10 (by omega) ?_ ?_ ?_ ?_ ?_
            · omega
            · exact hOn
            · rw [show (c + 1).toNat = c.toNat + 1 by omega]; exact h5n
            · exact h6n
            · rw [show (c + 1).toNat = c.toNat + 1 by omega]; exact h88n
  refine lp12 (15) 0 (zput (zput M 87 6 a2) 87 5 0) (by omega) ?_ ?_ ?_ ?_ ?_
  · omega
  · exact fun r q1 q2 => (zput_oth q1).trans (zput_oth q1)
  · exact qput_eq
  · rw [qput_nk (by decide), qput_eq]
  · exact fun j hj => absurd hj (Nat.not_lt_zero _)
