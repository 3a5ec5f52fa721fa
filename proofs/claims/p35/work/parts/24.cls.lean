/-! THE CLASS'S METHODS, BY PROGRAM -/
theorem qm_169 {n d : Nat} {M : zM} (hd : 1 ≤ d) (hC : qCI M) (a0 : Int) (ha0 : (-2147483648) ≤ a0 ∧ a0 ≤ 2147483647) (a1 : Int) (ha1 : (-2147483648) ≤ a1 ∧ a1 ≤ 2147483647) (a2 : Int) (ha2 : (-2147483648) ≤ a2 ∧ a2 ≤ 2147483647) : qOkP n d 169 [.inl a0, .inl a1, .inl a2] 3 M (qRi (fun x => 0 ≤ x ∧ x ≤ 1)) := by
  have hz := zp_169
  have hd0 : 0 < d := by omega
  show zG n (0, 0) d 169 (0, [.inl a0, .inl a1, .inl a2], []) M _
  refine zG_w (c' := (2, [.inl a0, .inl a1, .inl a2], [.inl a1, .inl a0])) 2 hd0 hz (by rfl) ?_
  have j15 : ∀ (v1 : Int) , 0 ≤ v1 ∧ v1 ≤ 1 → zG n (0, 0) d 169 (15, [.inl a0, .inl a1, .inl a2], [.inl v1]) M (fun v M' => M' = M ∧ qRi (fun x => 0 ≤ x ∧ x ≤ 1) v) := by
    intro v1 hv1
    exact zG_zret hd0 hz rfl (by omega) ⟨rfl, _, rfl, by omega⟩
  have j14 : zG n (0, 0) d 169 (14, [.inl a0, .inl a1, .inl a2], []) M (fun v M' => M' = M ∧ qRi (fun x => 0 ≤ x ∧ x ≤ 1) v) := by
    refine zG_w (c' := (15, [.inl a0, .inl a1, .inl a2], [.inl 0])) 1 hd0 hz (by rfl) ?_
    exact j15 0 (by first | decide | omega)
  refine zG_wi_lt (pc := 2) (n' := 5) (t := 14) (L := [.inl a0, .inl a1, .inl a2]) (st := []) (x := a0) (y := a1) 0 hd0 hz (by rfl) (fun hb2 => ?_) (fun hb2 => ?_)
  · exact j14
  · refine zG_wi_gt (pc := 7) (n' := 10) (t := 14) (L := [.inl a0, .inl a1, .inl a2]) (st := []) (x := a0) (y := a2) 2 hd0 hz (by rfl) (fun hb3 => ?_) (fun hb3 => ?_)
    · exact j14
    · refine zG_w (c' := (15, [.inl a0, .inl a1, .inl a2], [.inl 1])) 2 hd0 hz (by rfl) ?_
      exact j15 1 (by first | decide | omega)
theorem qm_177_8 {n d : Nat} {M : zM} (hd : 2 ≤ d) (hC : qCI M)  : qOkP n d 177 [.inr (.inr (some 8))] 1 M (qRi (fun x => (-2147483648) ≤ x ∧ x ≤ 2147483647)) := by
  have hz := zp_177
  have hd0 : 0 < d := by omega
  show zG n (0, 0) d 177 (0, [.inr (.inr (some 8))], []) M _
  refine zG_wp (pc := 11) (L := [.inr (.inr (some 8))]) (st := [.inl 1]) 4 hd0 hz zp_101 (qw_size (by first | exact zdk hd rfl | omega) hC (⟨by decide, rfl, rfl⟩ : qT n 10 14 4) ) (by rfl) (fun x2 hx2 => ?_)
  obtain ⟨x3, hx3⟩ : ∃ x : Int, x = zbshl 1 x2 := ⟨_, rfl⟩
  have hx3r : qin x3 := by rw [hx3]; exact qb32 _
  obtain ⟨x4, hx4⟩ : ∃ x : Int, x = w32 (x3 - 1) := ⟨_, rfl⟩
  have hx4r : x4 = (x3 - 1 + 2147483648) % 4294967296 - 2147483648 := hx4
  exact zG_wr (r := some (.inl x4)) 3 hd0 hz (by subst hx4; subst hx3; rfl) ⟨rfl, _, rfl, by omega⟩
theorem qm_123_8 {n d : Nat} {M : zM} (hd : 3 ≤ d) (hC : qCI M) (a1 : Int) (ha1 : (-2147483648) ≤ a1 ∧ a1 ≤ 2147483647) (a2 : Int) (ha2 : (-2147483648) ≤ a2 ∧ a2 ≤ 2147483647) (a3 : Int) (ha3 : (-2147483648) ≤ a3 ∧ a3 ≤ 2147483647) (a4 : Int) (ha4 : (-2147483648) ≤ a4 ∧ a4 ≤ 2147483647) : qOkM n d 123 [.inr (.inr (some 8)), .inl a1, .inl a2, .inl a3, .inl a4] 6 qCI [10, 11] M (qRi (fun x => (-4) ≤ x ∧ x ≤ 13)) := by
  have hz := zp_123
  have hd0 : 0 < d := by omega
  have hW : qFr [10, 11] M M := qFr.rfl
  show zG n (0, 0) d 123 (0, [.inr (.inr (some 8)), .inl a1, .inl a2, .inl a3, .inl a4, zN], []) M _
  refine zG_wp (pc := 7) (L := [.inr (.inr (some 8)), .inl a1, .inl a2, .inl a3, .inl a4, zN]) (st := []) 3 hd0 hz zp_169 (qm_169 (by first | exact zdk hd rfl | omega) hC  a1 (by first | with_reducible exact ha1 | omega) 1 (by first | decide | omega) 60 (by first | decide | omega)) (by rfl) (fun x2 hx2 => ?_)
  have j22 : zG n (0, 0) d 123 (22, [.inr (.inr (some 8)), .inl a1, .inl a2, .inl a3, .inl a4, zN], []) M (fun v M' => qWf qCI [10, 11] M M' ∧ qRi (fun x => (-4) ≤ x ∧ x ≤ 13) v) := by
    exact zG_wr (r := some (.inl (-2))) 1 hd0 hz (by rfl) ⟨⟨hC, hW⟩, _, rfl, by omega⟩
  refine zG_wf_eq (pc := 7) (n' := 10) (t := 22) (L := [.inr (.inr (some 8)), .inl a1, .inl a2, .inl a3, .inl a4, zN]) (st := []) (x := x2) 0 hd0 hz (by rfl) (fun hb3 => ?_) (fun hb3 => ?_)
  · exact j22
  · refine zG_wp (pc := 16) (L := [.inr (.inr (some 8)), .inl a1, .inl a2, .inl a3, .inl a4, zN]) (st := [.inl 0, .inl a2]) 3 hd0 hz zp_177 (qm_177_8 (by first | exact zdk hd rfl | omega) hC  ) (by rfl) (fun x5 hx5 => ?_)
    refine zG_wp (pc := 19) (L := [.inr (.inr (some 8)), .inl a1, .inl a2, .inl a3, .inl a4, zN]) (st := []) 0 hd0 hz zp_169 (qm_169 (by first | exact zdk hd rfl | omega) hC  a2 (by first | with_reducible exact ha2 | omega) 0 (by first | decide | omega) x5 (by omega)) (by rfl) (fun x7 hx7 => ?_)
    refine zG_wf_ne (pc := 19) (n' := 22) (t := 25) (L := [.inr (.inr (some 8)), .inl a1, .inl a2, .inl a3, .inl a4, zN]) (st := []) (x := x7) 0 hd0 hz (by rfl) (fun hb8 => ?_) (fun hb8 => ?_)
    · refine zG_wp (pc := 32) (L := [.inr (.inr (some 8)), .inl a1, .inl a2, .inl a3, .inl a4, zN]) (st := []) 3 hd0 hz zp_169 (qm_169 (by first | exact zdk hd rfl | omega) hC  a3 (by first | with_reducible exact ha3 | omega) 1 (by first | decide | omega) 7 (by first | decide | omega)) (by rfl) (fun x10 hx10 => ?_)
      have j46 : zG n (0, 0) d 123 (46, [.inr (.inr (some 8)), .inl a1, .inl a2, .inl a3, .inl a4, zN], []) M (fun v M' => qWf qCI [10, 11] M M' ∧ qRi (fun x => (-4) ≤ x ∧ x ≤ 13) v) := by
        exact zG_wr (r := some (.inl (-2))) 1 hd0 hz (by rfl) ⟨⟨hC, hW⟩, _, rfl, by omega⟩
      refine zG_wf_eq (pc := 32) (n' := 35) (t := 46) (L := [.inr (.inr (some 8)), .inl a1, .inl a2, .inl a3, .inl a4, zN]) (st := []) (x := x10) 0 hd0 hz (by rfl) (fun hb11 => ?_) (fun hb11 => ?_)
      · exact j46
      · refine zG_wp (pc := 43) (L := [.inr (.inr (some 8)), .inl a1, .inl a2, .inl a3, .inl a4, zN]) (st := []) 3 hd0 hz zp_169 (qm_169 (by first | exact zdk hd rfl | omega) hC  a4 (by first | with_reducible exact ha4 | omega) 0 (by first | decide | omega) 100 (by first | decide | omega)) (by rfl) (fun x13 hx13 => ?_)
        refine zG_wf_ne (pc := 43) (n' := 46) (t := 49) (L := [.inr (.inr (some 8)), .inl a1, .inl a2, .inl a3, .inl a4, zN]) (st := []) (x := x13) 0 hd0 hz (by rfl) (fun hb14 => ?_) (fun hb14 => ?_)
        · refine zG_wn (pc := 59) (L := [.inr (.inr (some 8)), .inl a1, .inl a2, .inl a3, .inl a4, zN]) (st := []) 3 hd0 hz zp_103 (qw_open (by first | exact zdk hd rfl | omega) hC (⟨by decide, rfl, rfl⟩ : qT n 10 14 4) ) (by rfl) (fun x16 M15 hr hx16 => ?_)
          obtain ⟨hCM15, hFM15⟩ := hr
          have hWM15 : qFr [10, 11] M M15 := hW.tr hFM15 (by decide)
          refine zG_wv (pc := 75) (L := [.inr (.inr (some 8)), .inl a1, .inl a2, .inl a3, .inl a4, .inl x16]) (st := []) 7 hd0 hz zp_107 (qw_set (by first | exact zdk hd rfl | omega) hCM15 (⟨by decide, rfl, rfl⟩ : qT n 10 14 4) x16 (by omega) 0 (by first | decide | omega) a1 (by first | with_reducible exact ha1 | omega)) (by rfl) (fun M17 hr => ?_)
          obtain ⟨hCM17, hFM17⟩ := hr
          have hWM17 : qFr [10, 11] M M17 := hWM15.tr hFM17 (by decide)
          refine zG_wv (pc := 89) (L := [.inr (.inr (some 8)), .inl a1, .inl a2, .inl a3, .inl a4, .inl x16]) (st := []) 6 hd0 hz zp_107 (qw_set (by first | exact zdk hd rfl | omega) hCM17 (⟨by decide, rfl, rfl⟩ : qT n 10 14 4) x16 (by omega) 1 (by first | decide | omega) a2 (by first | with_reducible exact ha2 | omega)) (by rfl) (fun M19 hr => ?_)
          obtain ⟨hCM19, hFM19⟩ := hr
          have hWM19 : qFr [10, 11] M M19 := hWM17.tr hFM19 (by decide)
          refine zG_wv (pc := 103) (L := [.inr (.inr (some 8)), .inl a1, .inl a2, .inl a3, .inl a4, .inl x16]) (st := []) 6 hd0 hz zp_107 (qw_set (by first | exact zdk hd rfl | omega) hCM19 (⟨by decide, rfl, rfl⟩ : qT n 10 14 4) x16 (by omega) 2 (by first | decide | omega) a3 (by first | with_reducible exact ha3 | omega)) (by rfl) (fun M21 hr => ?_)
          obtain ⟨hCM21, hFM21⟩ := hr
          have hWM21 : qFr [10, 11] M M21 := hWM19.tr hFM21 (by decide)
          refine zG_wv (pc := 118) (L := [.inr (.inr (some 8)), .inl a1, .inl a2, .inl a3, .inl a4, .inl x16]) (st := []) 6 hd0 hz zp_107 (qw_set (by first | exact zdk hd rfl | omega) hCM21 (⟨by decide, rfl, rfl⟩ : qT n 10 14 4) x16 (by omega) 3 (by first | decide | omega) a4 (by first | with_reducible exact ha4 | omega)) (by rfl) (fun M23 hr => ?_)
          obtain ⟨hCM23, hFM23⟩ := hr
          have hWM23 : qFr [10, 11] M M23 := hWM21.tr hFM23 (by decide)
          exact zG_wr (r := some (.inl x16)) 1 hd0 hz (by rfl) ⟨⟨hCM23, hWM23⟩, _, rfl, by omega⟩
        · exact j46
    · exact j22
theorem qm_170 {n d : Nat} {M : zM} (hd : 2 ≤ d) (hC : qCI M) (a0 : Int) (ha0 : (-2147483648) ≤ a0 ∧ a0 ≤ 2147483647) : qOkP n d 170 [.inl a0] 1 M (qRi (fun x => 0 ≤ x ∧ x ≤ 1)) := by
  have hz := zp_170
  have hd0 : 0 < d := by omega
  show zG n (0, 0) d 170 (0, [.inl a0], []) M _
  refine zG_wp (pc := 8) (L := [.inl a0]) (st := []) 3 hd0 hz zp_169 (qm_169 (by first | exact zdk hd rfl | omega) hC  a0 (by first | with_reducible exact ha0 | omega) 0 (by first | decide | omega) 9999 (by first | decide | omega)) (by rfl) (fun x2 hx2 => ?_)
  exact zG_zret hd0 hz rfl (by omega) ⟨rfl, _, rfl, by omega⟩
theorem qm_124_8 {n d : Nat} {M : zM} (hd : 3 ≤ d) (hC : qCI M) (a1 : Int) (ha1 : (-2147483648) ≤ a1 ∧ a1 ≤ 2147483647) : qOkM n d 124 [.inr (.inr (some 8)), .inl a1] 3 qCI [12, 13] M (qRi (fun x => (-4) ≤ x ∧ x ≤ 19)) := by
  have hz := zp_124
  have hd0 : 0 < d := by omega
  have hW : qFr [12, 13] M M := qFr.rfl
  show zG n (0, 0) d 124 (0, [.inr (.inr (some 8)), .inl a1, zN], []) M _
  refine zG_wp (pc := 4) (L := [.inr (.inr (some 8)), .inl a1, zN]) (st := []) 1 hd0 hz zp_170 (qm_170 (by first | exact zdk hd rfl | omega) hC  a1 (by first | with_reducible exact ha1 | omega)) (by rfl) (fun x2 hx2 => ?_)
  refine zG_wf_ne (pc := 4) (n' := 7) (t := 10) (L := [.inr (.inr (some 8)), .inl a1, zN]) (st := []) (x := x2) 0 hd0 hz (by rfl) (fun hb3 => ?_) (fun hb3 => ?_)
  · refine zG_wn (pc := 20) (L := [.inr (.inr (some 8)), .inl a1, zN]) (st := []) 3 hd0 hz zp_103 (qw_open (by first | exact zdk hd rfl | omega) hC (⟨by decide, rfl, rfl⟩ : qT n 12 20 3) ) (by rfl) (fun x5 M4 hr hx5 => ?_)
    obtain ⟨hCM4, hFM4⟩ := hr
    have hWM4 : qFr [12, 13] M M4 := hW.tr hFM4 (by decide)
    refine zG_wv (pc := 34) (L := [.inr (.inr (some 8)), .inl a1, .inl x5]) (st := []) 7 hd0 hz zp_107 (qw_set (by first | exact zdk hd rfl | omega) hCM4 (⟨by decide, rfl, rfl⟩ : qT n 12 20 3) x5 (by omega) 0 (by first | decide | omega) a1 (by first | with_reducible exact ha1 | omega)) (by rfl) (fun M6 hr => ?_)
    obtain ⟨hCM6, hFM6⟩ := hr
    have hWM6 : qFr [12, 13] M M6 := hWM4.tr hFM6 (by decide)
    refine zG_wv (pc := 47) (L := [.inr (.inr (some 8)), .inl a1, .inl x5]) (st := []) 6 hd0 hz zp_107 (qw_set (by first | exact zdk hd rfl | omega) hCM6 (⟨by decide, rfl, rfl⟩ : qT n 12 20 3) x5 (by omega) 1 (by first | decide | omega) (-1) (by first | decide | omega)) (by rfl) (fun M8 hr => ?_)
    obtain ⟨hCM8, hFM8⟩ := hr
    have hWM8 : qFr [12, 13] M M8 := hWM6.tr hFM8 (by decide)
    refine zG_wv (pc := 60) (L := [.inr (.inr (some 8)), .inl a1, .inl x5]) (st := []) 6 hd0 hz zp_107 (qw_set (by first | exact zdk hd rfl | omega) hCM8 (⟨by decide, rfl, rfl⟩ : qT n 12 20 3) x5 (by omega) 2 (by first | decide | omega) 0 (by first | decide | omega)) (by rfl) (fun M10 hr => ?_)
    obtain ⟨hCM10, hFM10⟩ := hr
    have hWM10 : qFr [12, 13] M M10 := hWM8.tr hFM10 (by decide)
    exact zG_wr (r := some (.inl x5)) 1 hd0 hz (by rfl) ⟨⟨hCM10, hWM10⟩, _, rfl, by omega⟩
  · exact zG_wr (r := some (.inl (-2))) 1 hd0 hz (by rfl) ⟨⟨hC, hW⟩, _, rfl, by omega⟩
theorem qm_125_8 {n d : Nat} {M : zM} (hd : 2 ≤ d) (hC : qCI M) (a1 : Int) (ha1 : (-2147483648) ≤ a1 ∧ a1 ≤ 2147483647) (a2 : Int) (ha2 : (-2147483648) ≤ a2 ∧ a2 ≤ 2147483647) : qOkM n d 125 [.inr (.inr (some 8)), .inl a1, .inl a2] 4 qCI [14, 15] M (qRi (fun x => (-4) ≤ x ∧ x ≤ 3)) := by
  have hz := zp_125
  have hd0 : 0 < d := by omega
  have hW : qFr [14, 15] M M := qFr.rfl
  show zG n (0, 0) d 125 (0, [.inr (.inr (some 8)), .inl a1, .inl a2, zN], []) M _
  refine zG_wp (pc := 8) (L := [.inr (.inr (some 8)), .inl a1, .inl a2, zN]) (st := []) 3 hd0 hz zp_169 (qm_169 (by first | exact zdk hd rfl | omega) hC  a1 (by first | with_reducible exact ha1 | omega) 1 (by first | decide | omega) 1023 (by first | decide | omega)) (by rfl) (fun x2 hx2 => ?_)
  have j21 : zG n (0, 0) d 125 (21, [.inr (.inr (some 8)), .inl a1, .inl a2, zN], []) M (fun v M' => qWf qCI [14, 15] M M' ∧ qRi (fun x => (-4) ≤ x ∧ x ≤ 3) v) := by
    exact zG_wr (r := some (.inl (-2))) 1 hd0 hz (by rfl) ⟨⟨hC, hW⟩, _, rfl, by omega⟩
  refine zG_wf_eq (pc := 8) (n' := 11) (t := 21) (L := [.inr (.inr (some 8)), .inl a1, .inl a2, zN]) (st := []) (x := x2) 0 hd0 hz (by rfl) (fun hb3 => ?_) (fun hb3 => ?_)
  · exact j21
  · refine zG_wp (pc := 18) (L := [.inr (.inr (some 8)), .inl a1, .inl a2, zN]) (st := []) 3 hd0 hz zp_169 (qm_169 (by first | exact zdk hd rfl | omega) hC  a2 (by first | with_reducible exact ha2 | omega) 1 (by first | decide | omega) 10 (by first | decide | omega)) (by rfl) (fun x5 hx5 => ?_)
    refine zG_wf_ne (pc := 18) (n' := 21) (t := 24) (L := [.inr (.inr (some 8)), .inl a1, .inl a2, zN]) (st := []) (x := x5) 0 hd0 hz (by rfl) (fun hb6 => ?_) (fun hb6 => ?_)
    · refine zG_wn (pc := 34) (L := [.inr (.inr (some 8)), .inl a1, .inl a2, zN]) (st := []) 3 hd0 hz zp_103 (qw_open (by first | exact zdk hd rfl | omega) hC (⟨by decide, rfl, rfl⟩ : qT n 14 4 2) ) (by rfl) (fun x8 M7 hr hx8 => ?_)
      obtain ⟨hCM7, hFM7⟩ := hr
      have hWM7 : qFr [14, 15] M M7 := hW.tr hFM7 (by decide)
      refine zG_wv (pc := 48) (L := [.inr (.inr (some 8)), .inl a1, .inl a2, .inl x8]) (st := []) 7 hd0 hz zp_107 (qw_set (by first | exact zdk hd rfl | omega) hCM7 (⟨by decide, rfl, rfl⟩ : qT n 14 4 2) x8 (by omega) 0 (by first | decide | omega) a1 (by first | with_reducible exact ha1 | omega)) (by rfl) (fun M9 hr => ?_)
      obtain ⟨hCM9, hFM9⟩ := hr
      have hWM9 : qFr [14, 15] M M9 := hWM7.tr hFM9 (by decide)
      refine zG_wv (pc := 61) (L := [.inr (.inr (some 8)), .inl a1, .inl a2, .inl x8]) (st := []) 6 hd0 hz zp_107 (qw_set (by first | exact zdk hd rfl | omega) hCM9 (⟨by decide, rfl, rfl⟩ : qT n 14 4 2) x8 (by omega) 1 (by first | decide | omega) a2 (by first | with_reducible exact ha2 | omega)) (by rfl) (fun M11 hr => ?_)
      obtain ⟨hCM11, hFM11⟩ := hr
      have hWM11 : qFr [14, 15] M M11 := hWM9.tr hFM11 (by decide)
      exact zG_wr (r := some (.inl x8)) 1 hd0 hz (by rfl) ⟨⟨hCM11, hWM11⟩, _, rfl, by omega⟩
    · exact j21
theorem qm_126_8 {n d : Nat} {M : zM} (hd : 3 ≤ d) (hC : qCI M) (a1 : Int) (ha1 : (-2147483648) ≤ a1 ∧ a1 ≤ 2147483647) (a2 : Int) (ha2 : (-2147483648) ≤ a2 ∧ a2 ≤ 2147483647) (a3 : Int) (ha3 : (-2147483648) ≤ a3 ∧ a3 ≤ 2147483647) (a4 : Int) (ha4 : (-2147483648) ≤ a4 ∧ a4 ≤ 2147483647) : qOkM n d 126 [.inr (.inr (some 8)), .inl a1, .inl a2, .inl a3, .inl a4] 6 qCI [16, 17] M (qRi (fun x => (-4) ≤ x ∧ x ≤ 39)) := by
  have hz := zp_126
  have hd0 : 0 < d := by omega
  have hW : qFr [16, 17] M M := qFr.rfl
  show zG n (0, 0) d 126 (0, [.inr (.inr (some 8)), .inl a1, .inl a2, .inl a3, .inl a4, zN], []) M _
  refine zG_wp (pc := 11) (L := [.inr (.inr (some 8)), .inl a1, .inl a2, .inl a3, .inl a4, zN]) (st := []) 4 hd0 hz zp_102 (qw_has (by first | exact zdk hd rfl | omega) hC (⟨by decide, rfl, rfl⟩ : qT n 14 4 2) a1 (by first | with_reducible exact ha1 | omega)) (by rfl) (fun x2 hx2 => ?_)
  have j21 : zG n (0, 0) d 126 (21, [.inr (.inr (some 8)), .inl a1, .inl a2, .inl a3, .inl a4, zN], []) M (fun v M' => qWf qCI [16, 17] M M' ∧ qRi (fun x => (-4) ≤ x ∧ x ≤ 39) v) := by
    exact zG_wr (r := some (.inl (-2))) 1 hd0 hz (by rfl) ⟨⟨hC, hW⟩, _, rfl, by omega⟩
  refine zG_wf_eq (pc := 11) (n' := 14) (t := 21) (L := [.inr (.inr (some 8)), .inl a1, .inl a2, .inl a3, .inl a4, zN]) (st := []) (x := x2) 0 hd0 hz (by rfl) (fun hb3 => ?_) (fun hb3 => ?_)
  · exact j21
  · refine zG_wp (pc := 18) (L := [.inr (.inr (some 8)), .inl a1, .inl a2, .inl a3, .inl a4, zN]) (st := []) 1 hd0 hz zp_170 (qm_170 (by first | exact zdk hd rfl | omega) hC  a2 (by first | with_reducible exact ha2 | omega)) (by rfl) (fun x5 hx5 => ?_)
    refine zG_wf_ne (pc := 18) (n' := 21) (t := 24) (L := [.inr (.inr (some 8)), .inl a1, .inl a2, .inl a3, .inl a4, zN]) (st := []) (x := x5) 0 hd0 hz (by rfl) (fun hb6 => ?_) (fun hb6 => ?_)
    · refine zG_wp (pc := 32) (L := [.inr (.inr (some 8)), .inl a1, .inl a2, .inl a3, .inl a4, zN]) (st := []) 3 hd0 hz zp_169 (qm_169 (by first | exact zdk hd rfl | omega) hC  a3 (by first | with_reducible exact ha3 | omega) 0 (by first | decide | omega) 1023 (by first | decide | omega)) (by rfl) (fun x8 hx8 => ?_)
      have j47 : zG n (0, 0) d 126 (47, [.inr (.inr (some 8)), .inl a1, .inl a2, .inl a3, .inl a4, zN], []) M (fun v M' => qWf qCI [16, 17] M M' ∧ qRi (fun x => (-4) ≤ x ∧ x ≤ 39) v) := by
        exact zG_wr (r := some (.inl (-2))) 1 hd0 hz (by rfl) ⟨⟨hC, hW⟩, _, rfl, by omega⟩
      refine zG_wf_eq (pc := 32) (n' := 35) (t := 47) (L := [.inr (.inr (some 8)), .inl a1, .inl a2, .inl a3, .inl a4, zN]) (st := []) (x := x8) 0 hd0 hz (by rfl) (fun hb9 => ?_) (fun hb9 => ?_)
      · exact j47
      · refine zG_wp (pc := 44) (L := [.inr (.inr (some 8)), .inl a1, .inl a2, .inl a3, .inl a4, zN]) (st := []) 3 hd0 hz zp_169 (qm_169 (by first | exact zdk hd rfl | omega) hC  a4 (by first | with_reducible exact ha4 | omega) 0 (by first | decide | omega) 1023 (by first | decide | omega)) (by rfl) (fun x11 hx11 => ?_)
        refine zG_wf_ne (pc := 44) (n' := 47) (t := 50) (L := [.inr (.inr (some 8)), .inl a1, .inl a2, .inl a3, .inl a4, zN]) (st := []) (x := x11) 0 hd0 hz (by rfl) (fun hb12 => ?_) (fun hb12 => ?_)
        · refine zG_wn (pc := 60) (L := [.inr (.inr (some 8)), .inl a1, .inl a2, .inl a3, .inl a4, zN]) (st := []) 3 hd0 hz zp_103 (qw_open (by first | exact zdk hd rfl | omega) hC (⟨by decide, rfl, rfl⟩ : qT n 16 40 5) ) (by rfl) (fun x14 M13 hr hx14 => ?_)
          obtain ⟨hCM13, hFM13⟩ := hr
          have hWM13 : qFr [16, 17] M M13 := hW.tr hFM13 (by decide)
          refine zG_wv (pc := 76) (L := [.inr (.inr (some 8)), .inl a1, .inl a2, .inl a3, .inl a4, .inl x14]) (st := []) 7 hd0 hz zp_107 (qw_set (by first | exact zdk hd rfl | omega) hCM13 (⟨by decide, rfl, rfl⟩ : qT n 16 40 5) x14 (by omega) 0 (by first | decide | omega) a1 (by first | with_reducible exact ha1 | omega)) (by rfl) (fun M15 hr => ?_)
          obtain ⟨hCM15, hFM15⟩ := hr
          have hWM15 : qFr [16, 17] M M15 := hWM13.tr hFM15 (by decide)
          refine zG_wv (pc := 90) (L := [.inr (.inr (some 8)), .inl a1, .inl a2, .inl a3, .inl a4, .inl x14]) (st := []) 6 hd0 hz zp_107 (qw_set (by first | exact zdk hd rfl | omega) hCM15 (⟨by decide, rfl, rfl⟩ : qT n 16 40 5) x14 (by omega) 1 (by first | decide | omega) a2 (by first | with_reducible exact ha2 | omega)) (by rfl) (fun M17 hr => ?_)
          obtain ⟨hCM17, hFM17⟩ := hr
          have hWM17 : qFr [16, 17] M M17 := hWM15.tr hFM17 (by decide)
          refine zG_wv (pc := 104) (L := [.inr (.inr (some 8)), .inl a1, .inl a2, .inl a3, .inl a4, .inl x14]) (st := []) 6 hd0 hz zp_107 (qw_set (by first | exact zdk hd rfl | omega) hCM17 (⟨by decide, rfl, rfl⟩ : qT n 16 40 5) x14 (by omega) 2 (by first | decide | omega) a3 (by first | with_reducible exact ha3 | omega)) (by rfl) (fun M19 hr => ?_)
          obtain ⟨hCM19, hFM19⟩ := hr
          have hWM19 : qFr [16, 17] M M19 := hWM17.tr hFM19 (by decide)
          refine zG_wv (pc := 119) (L := [.inr (.inr (some 8)), .inl a1, .inl a2, .inl a3, .inl a4, .inl x14]) (st := []) 6 hd0 hz zp_107 (qw_set (by first | exact zdk hd rfl | omega) hCM19 (⟨by decide, rfl, rfl⟩ : qT n 16 40 5) x14 (by omega) 3 (by first | decide | omega) a4 (by first | with_reducible exact ha4 | omega)) (by rfl) (fun M21 hr => ?_)
          obtain ⟨hCM21, hFM21⟩ := hr
          have hWM21 : qFr [16, 17] M M21 := hWM19.tr hFM21 (by decide)
          refine zG_wv (pc := 133) (L := [.inr (.inr (some 8)), .inl a1, .inl a2, .inl a3, .inl a4, .inl x14]) (st := []) 6 hd0 hz zp_107 (qw_set (by first | exact zdk hd rfl | omega) hCM21 (⟨by decide, rfl, rfl⟩ : qT n 16 40 5) x14 (by omega) 4 (by first | decide | omega) 0 (by first | decide | omega)) (by rfl) (fun M23 hr => ?_)
          obtain ⟨hCM23, hFM23⟩ := hr
          have hWM23 : qFr [16, 17] M M23 := hWM21.tr hFM23 (by decide)
          exact zG_wr (r := some (.inl x14)) 1 hd0 hz (by rfl) ⟨⟨hCM23, hWM23⟩, _, rfl, by omega⟩
        · exact j47
    · exact j21
theorem qm_127_8 {n d : Nat} {M : zM} (hd : 2 ≤ d) (hC : qCI M) (a1 : Int) (ha1 : (-2147483648) ≤ a1 ∧ a1 ≤ 2147483647) (a2 : Int) (ha2 : 0 ≤ a2 ∧ a2 ≤ 1) : qOkM n d 127 [.inr (.inr (some 8)), .inl a1, .inl a2] 4 qCI [17] M (qRi (fun x => (-3) ≤ x ∧ x ≤ 1)) := by
  have hz := zp_127
  have hd0 : 0 < d := by omega
  have hW : qFr [17] M M := qFr.rfl
  show zG n (0, 0) d 127 (0, [.inr (.inr (some 8)), .inl a1, .inl a2, zN], []) M _
  refine zG_wp (pc := 11) (L := [.inr (.inr (some 8)), .inl a1, .inl a2, zN]) (st := []) 4 hd0 hz zp_102 (qw_has (by first | exact zdk hd rfl | omega) hC (⟨by decide, rfl, rfl⟩ : qT n 16 40 5) a1 (by first | with_reducible exact ha1 | omega)) (by rfl) (fun x2 hx2 => ?_)
  refine zG_wf_ne (pc := 11) (n' := 14) (t := 17) (L := [.inr (.inr (some 8)), .inl a1, .inl a2, zN]) (st := []) (x := x2) 0 hd0 hz (by rfl) (fun hb3 => ?_) (fun hb3 => ?_)
  · refine zG_w (c' := (18, [.inr (.inr (some 8)), .inl a1, .inl a2, zN], [.inl a2])) 1 hd0 hz (by rfl) ?_
    have j26 : ∀ (v4 : Int) , 0 ≤ v4 ∧ v4 ≤ 1 → zG n (0, 0) d 127 (26, [.inr (.inr (some 8)), .inl a1, .inl a2, zN], [.inl v4]) M (fun v M' => qWf qCI [17] M M' ∧ qRi (fun x => (-3) ≤ x ∧ x ≤ 1) v) := by
      intro v4 hv4
      refine zG_wp (pc := 39) (L := [.inr (.inr (some 8)), .inl a1, .inl a2, .inl v4]) (st := []) 6 hd0 hz zp_106 (qw_get (by first | exact zdk hd rfl | omega) hC (⟨by decide, rfl, rfl⟩ : qT n 16 40 5) a1 (by first | with_reducible exact ha1 | omega) 4 (by first | decide | omega)) (by rfl) (fun x6 hx6 => ?_)
      refine zG_wi_ne (pc := 40) (n' := 43) (t := 46) (L := [.inr (.inr (some 8)), .inl a1, .inl a2, .inl v4]) (st := []) (x := x6) (y := v4) 1 hd0 hz (by rfl) (fun hb7 => ?_) (fun hb7 => ?_)
      · refine zG_wv (pc := 59) (L := [.inr (.inr (some 8)), .inl a1, .inl a2, .inl v4]) (st := []) 6 hd0 hz zp_107 (qw_set (by first | exact zdk hd rfl | omega) hC (⟨by decide, rfl, rfl⟩ : qT n 16 40 5) a1 (by first | with_reducible exact ha1 | omega) 4 (by first | decide | omega) v4 (by first | with_reducible exact hv4 | omega)) (by rfl) (fun M8 hr => ?_)
        obtain ⟨hCM8, hFM8⟩ := hr
        have hWM8 : qFr [17] M M8 := hW.tr hFM8 (by decide)
        exact zG_wr (r := some (.inl 1)) 1 hd0 hz (by rfl) ⟨⟨hCM8, hWM8⟩, _, rfl, by omega⟩
      · exact zG_wr (r := some (.inl (-3))) 1 hd0 hz (by rfl) ⟨⟨hC, hW⟩, _, rfl, by omega⟩
    refine zG_wf_eq (pc := 18) (n' := 21) (t := 25) (L := [.inr (.inr (some 8)), .inl a1, .inl a2, zN]) (st := []) (x := a2) 0 hd0 hz (by rfl) (fun hb10 => ?_) (fun hb10 => ?_)
    · refine zG_w (c' := (26, [.inr (.inr (some 8)), .inl a1, .inl a2, zN], [.inl 0])) 1 hd0 hz (by rfl) ?_
      exact j26 0 (by first | decide | omega)
    · refine zG_w (c' := (26, [.inr (.inr (some 8)), .inl a1, .inl a2, zN], [.inl 1])) 2 hd0 hz (by rfl) ?_
      exact j26 1 (by first | decide | omega)
  · exact zG_wr (r := some (.inl (-2))) 1 hd0 hz (by rfl) ⟨⟨hC, hW⟩, _, rfl, by omega⟩
theorem qm_296 {n d : Nat} {M : zM} (hd : 1 ≤ d) (hC : qCI M) (a0 : Int) (ha0 : (-2147483648) ≤ a0 ∧ a0 ≤ 2147483647) : qOkP n d 296 [.inl a0] 1 M (qRi (fun x => 0 ≤ x ∧ x ≤ 63)) := by
  have hz := zp_296
  have hd0 : 0 < d := by omega
  show zG n (0, 0) d 296 (0, [.inl a0], []) M _
  obtain ⟨x1, hx1⟩ : ∃ x : Int, x = zbushr a0 1 := ⟨_, rfl⟩
  have hx1r : qin x1 := by rw [hx1]; exact qb32 _
  obtain ⟨x2, hx2⟩ : ∃ x : Int, x = zband x1 1431655765 := ⟨_, rfl⟩
  have hx2r := qband_r x1 1431655765 (by first | decide | omega) (by omega); rw [← hx2] at hx2r
  obtain ⟨x3, hx3⟩ : ∃ x : Int, x = w32 (a0 - x2) := ⟨_, rfl⟩
  have hx3r : x3 = (a0 - x2 + 2147483648) % 4294967296 - 2147483648 := hx3
  obtain ⟨x4, hx4⟩ : ∃ x : Int, x = zband x3 858993459 := ⟨_, rfl⟩
  have hx4r := qband_r x3 858993459 (by first | decide | omega) (by omega); rw [← hx4] at hx4r
  obtain ⟨x5, hx5⟩ : ∃ x : Int, x = zbushr x3 2 := ⟨_, rfl⟩
  have hx5r : qin x5 := by rw [hx5]; exact qb32 _
  obtain ⟨x6, hx6⟩ : ∃ x : Int, x = zband x5 858993459 := ⟨_, rfl⟩
  have hx6r := qband_r x5 858993459 (by first | decide | omega) (by omega); rw [← hx6] at hx6r
  obtain ⟨x7, hx7⟩ : ∃ x : Int, x = w32 (x4 + x6) := ⟨_, rfl⟩
  have hx7e : x7 = x4 + x6 := by rw [hx7]; exact w32_id (by omega)
  obtain ⟨x8, hx8⟩ : ∃ x : Int, x = zbushr x7 4 := ⟨_, rfl⟩
  have hx8r := qushr x7 4 16 (by first | decide | omega) (by omega) (by decide); rw [← hx8] at hx8r
  obtain ⟨x9, hx9⟩ : ∃ x : Int, x = w32 (x7 + x8) := ⟨_, rfl⟩
  have hx9e : x9 = x7 + x8 := by rw [hx9]; exact w32_id (by omega)
  obtain ⟨x10, hx10⟩ : ∃ x : Int, x = zband x9 252645135 := ⟨_, rfl⟩
  have hx10r := qband_lr x9 252645135 (by first | decide | omega) (by omega); rw [← hx10] at hx10r
  obtain ⟨x11, hx11⟩ : ∃ x : Int, x = zbushr x10 8 := ⟨_, rfl⟩
  have hx11r := qushr x10 8 256 (by first | decide | omega) (by omega) (by decide); rw [← hx11] at hx11r
  obtain ⟨x12, hx12⟩ : ∃ x : Int, x = w32 (x10 + x11) := ⟨_, rfl⟩
  have hx12e : x12 = x10 + x11 := by rw [hx12]; exact w32_id (by omega)
  obtain ⟨x13, hx13⟩ : ∃ x : Int, x = zbushr x12 16 := ⟨_, rfl⟩
  have hx13r := qushr x12 16 65536 (by first | decide | omega) (by omega) (by decide); rw [← hx13] at hx13r
  obtain ⟨x14, hx14⟩ : ∃ x : Int, x = w32 (x12 + x13) := ⟨_, rfl⟩
  have hx14e : x14 = x12 + x13 := by rw [hx14]; exact w32_id (by omega)
  obtain ⟨x15, hx15⟩ : ∃ x : Int, x = zband x14 63 := ⟨_, rfl⟩
  have hx15r := qband_lr x14 63 (by first | decide | omega) (by omega); rw [← hx15] at hx15r
  exact zG_wr (r := some (.inl x15)) 41 hd0 hz (by subst hx15; subst hx14; subst hx13; subst hx12; subst hx11; subst hx10; subst hx9; subst hx8; subst hx7; subst hx6; subst hx5; subst hx4; subst hx3; subst hx2; subst hx1; rfl) ⟨rfl, _, rfl, by omega⟩
theorem qm_20_9 {n d : Nat} {M : zM} (hd : 2 ≤ d) (hC : qCI M) (a1 : Int) (ha1 : (-2147483648) ≤ a1 ∧ a1 ≤ 2147483647) : qOkP n d 20 [.inr (.inr (some 9)), .inl a1] 5 M (qRi (fun x => 0 ≤ x ∧ x ≤ 1)) := by
  have hz := zp_20
  have hd0 : 0 < d := by omega
  show zG n (0, 0) d 20 (0, [.inr (.inr (some 9)), .inl a1, zN, zN, zN], []) M _
  refine zG_wp (pc := 8) (L := [.inr (.inr (some 9)), .inl a1, zN, zN, zN]) (st := []) 3 hd0 hz zp_102 (qw_has (by first | exact zdk hd rfl | omega) hC (⟨by decide, rfl, rfl⟩ : qT n 16 40 5) a1 (by first | with_reducible exact ha1 | omega)) (by rfl) (fun x2 hx2 => ?_)
  have j24 : zG n (0, 0) d 20 (24, [.inr (.inr (some 9)), .inl a1, zN, zN, zN], []) M (fun v M' => M' = M ∧ qRi (fun x => 0 ≤ x ∧ x ≤ 1) v) := by
    exact zG_wr (r := some (.inl 0)) 1 hd0 hz (by rfl) ⟨rfl, _, rfl, by omega⟩
  refine zG_wf_eq (pc := 8) (n' := 11) (t := 24) (L := [.inr (.inr (some 9)), .inl a1, zN, zN, zN]) (st := []) (x := x2) 0 hd0 hz (by rfl) (fun hb3 => ?_) (fun hb3 => ?_)
  · exact j24
  · refine zG_wp (pc := 20) (L := [.inr (.inr (some 9)), .inl a1, zN, zN, zN]) (st := []) 4 hd0 hz zp_106 (qw_get (by first | exact zdk hd rfl | omega) hC (⟨by decide, rfl, rfl⟩ : qT n 16 40 5) a1 (by first | with_reducible exact ha1 | omega) 4 (by first | decide | omega)) (by rfl) (fun x5 hx5 => ?_)
    refine zG_wi_ne (pc := 21) (n' := 24) (t := 26) (L := [.inr (.inr (some 9)), .inl a1, zN, zN, zN]) (st := []) (x := x5) (y := 1) 1 hd0 hz (by rfl) (fun hb6 => ?_) (fun hb6 => ?_)
    · refine zG_wp (pc := 35) (L := [.inr (.inr (some 9)), .inl a1, zN, zN, zN]) (st := []) 4 hd0 hz zp_106 (qw_get (by first | exact zdk hd rfl | omega) hC (⟨by decide, rfl, rfl⟩ : qT n 16 40 5) a1 (by first | with_reducible exact ha1 | omega) 0 (by first | decide | omega)) (by rfl) (fun x8 hx8 => ?_)
      refine zG_wp (pc := 45) (L := [.inr (.inr (some 9)), .inl a1, .inl x8, zN, zN]) (st := []) 5 hd0 hz zp_106 (qw_get (by first | exact zdk hd rfl | omega) hC (⟨by decide, rfl, rfl⟩ : qT n 14 4 2) x8 (by omega) 0 (by first | decide | omega)) (by rfl) (fun x10 hx10 => ?_)
      refine zG_wp (pc := 56) (L := [.inr (.inr (some 9)), .inl a1, .inl x8, .inl x10, zN]) (st := [.inl x10]) 6 hd0 hz zp_106 (qw_get (by first | exact zdk hd rfl | omega) hC (⟨by decide, rfl, rfl⟩ : qT n 16 40 5) a1 (by first | with_reducible exact ha1 | omega) 2 (by first | decide | omega)) (by rfl) (fun x12 hx12 => ?_)
      obtain ⟨x13, hx13⟩ : ∃ x : Int, x = zband x10 x12 := ⟨_, rfl⟩
      have hx13r : qin x13 := by rw [hx13]; exact qb32 _
      refine zG_w (c' := (58, [.inr (.inr (some 9)), .inl a1, .inl x8, .inl x10, zN], [.inl x10, .inl x13])) 2 hd0 hz (by subst hx13; rfl) ?_
      have j66 : ∀ (v14 : Int) , 0 ≤ v14 ∧ v14 ≤ 1 → zG n (0, 0) d 20 (66, [.inr (.inr (some 9)), .inl a1, .inl x8, .inl x10, zN], [.inl v14]) M (fun v M' => M' = M ∧ qRi (fun x => 0 ≤ x ∧ x ≤ 1) v) := by
        intro v14 hv14
        refine zG_w (c' := (70, [.inr (.inr (some 9)), .inl a1, .inl x8, .inl x10, .inl v14], [.inl v14])) 2 hd0 hz (by rfl) ?_
        have j104 : ∀ (v15 : Int) , 0 ≤ v15 ∧ v15 ≤ 1 → zG n (0, 0) d 20 (104, [.inr (.inr (some 9)), .inl a1, .inl x8, .inl x10, .inl v14], [.inl v15]) M (fun v M' => M' = M ∧ qRi (fun x => 0 ≤ x ∧ x ≤ 1) v) := by
          intro v15 hv15
          exact zG_zret hd0 hz rfl (by omega) ⟨rfl, _, rfl, by omega⟩
        have j103 : zG n (0, 0) d 20 (103, [.inr (.inr (some 9)), .inl a1, .inl x8, .inl x10, .inl v14], []) M (fun v M' => M' = M ∧ qRi (fun x => 0 ≤ x ∧ x ≤ 1) v) := by
          refine zG_w (c' := (104, [.inr (.inr (some 9)), .inl a1, .inl x8, .inl x10, .inl v14], [.inl 0])) 1 hd0 hz (by rfl) ?_
          exact j104 0 (by first | decide | omega)
        refine zG_wf_eq (pc := 70) (n' := 73) (t := 103) (L := [.inr (.inr (some 9)), .inl a1, .inl x8, .inl x10, .inl v14]) (st := []) (x := v14) 0 hd0 hz (by rfl) (fun hb16 => ?_) (fun hb16 => ?_)
        · exact j103
        · refine zG_wp (pc := 83) (L := [.inr (.inr (some 9)), .inl a1, .inl x8, .inl x10, .inl v14]) (st := [.inl x10]) 5 hd0 hz zp_106 (qw_get (by first | exact zdk hd rfl | omega) hC (⟨by decide, rfl, rfl⟩ : qT n 16 40 5) a1 (by first | with_reducible exact ha1 | omega) 3 (by first | decide | omega)) (by rfl) (fun x18 hx18 => ?_)
          obtain ⟨x19, hx19⟩ : ∃ x : Int, x = zband x10 x18 := ⟨_, rfl⟩
          have hx19r : qin x19 := by rw [hx19]; exact qb32 _
          refine zG_wp (pc := 87) (L := [.inr (.inr (some 9)), .inl a1, .inl x8, .inl x10, .inl v14]) (st := []) 1 hd0 hz zp_296 (qm_296 (by first | exact zdk hd rfl | omega) hC  x19 (by omega)) (by subst hx19; rfl) (fun x21 hx21 => ?_)
          refine zG_wp (pc := 96) (L := [.inr (.inr (some 9)), .inl a1, .inl x8, .inl x10, .inl v14]) (st := [.inl x21]) 4 hd0 hz zp_106 (qw_get (by first | exact zdk hd rfl | omega) hC (⟨by decide, rfl, rfl⟩ : qT n 14 4 2) x8 (by omega) 1 (by first | decide | omega)) (by rfl) (fun x23 hx23 => ?_)
          refine zG_wi_lt (pc := 96) (n' := 99) (t := 103) (L := [.inr (.inr (some 9)), .inl a1, .inl x8, .inl x10, .inl v14]) (st := []) (x := x21) (y := x23) 0 hd0 hz (by rfl) (fun hb24 => ?_) (fun hb24 => ?_)
          · exact j103
          · refine zG_w (c' := (104, [.inr (.inr (some 9)), .inl a1, .inl x8, .inl x10, .inl v14], [.inl 1])) 2 hd0 hz (by rfl) ?_
            exact j104 1 (by first | decide | omega)
      refine zG_wi_ne (pc := 58) (n' := 61) (t := 65) (L := [.inr (.inr (some 9)), .inl a1, .inl x8, .inl x10, zN]) (st := []) (x := x13) (y := x10) 0 hd0 hz (by rfl) (fun hb25 => ?_) (fun hb25 => ?_)
      · refine zG_w (c' := (66, [.inr (.inr (some 9)), .inl a1, .inl x8, .inl x10, zN], [.inl 0])) 1 hd0 hz (by rfl) ?_
        exact j66 0 (by first | decide | omega)
      · refine zG_w (c' := (66, [.inr (.inr (some 9)), .inl a1, .inl x8, .inl x10, zN], [.inl 1])) 2 hd0 hz (by rfl) ?_
        exact j66 1 (by first | decide | omega)
    · exact j24
theorem qm_128_8 {n d : Nat} {M : zM} (hd : 3 ≤ d) (hC : qCI M) (a1 : Int) (ha1 : (-2147483648) ≤ a1 ∧ a1 ≤ 2147483647) : qOkP n d 128 [.inr (.inr (some 8)), .inl a1] 2 M (qRi (fun x => (-2) ≤ x ∧ x ≤ 1)) := by
  have hz := zp_128
  have hd0 : 0 < d := by omega
  show zG n (0, 0) d 128 (0, [.inr (.inr (some 8)), .inl a1], []) M _
  refine zG_wp (pc := 11) (L := [.inr (.inr (some 8)), .inl a1]) (st := []) 4 hd0 hz zp_102 (qw_has (by first | exact zdk hd rfl | omega) hC (⟨by decide, rfl, rfl⟩ : qT n 16 40 5) a1 (by first | with_reducible exact ha1 | omega)) (by rfl) (fun x2 hx2 => ?_)
  refine zG_wf_ne (pc := 11) (n' := 14) (t := 17) (L := [.inr (.inr (some 8)), .inl a1]) (st := []) (x := x2) 0 hd0 hz (by rfl) (fun hb3 => ?_) (fun hb3 => ?_)
  · refine zG_wp (pc := 25) (L := [.inr (.inr (some 8)), .inl a1]) (st := []) 3 hd0 hz zp_20 (qm_20_9 (by first | exact zdk hd rfl | omega) hC  a1 (by first | with_reducible exact ha1 | omega)) (by rfl) (fun x5 hx5 => ?_)
    have j33 : ∀ (v6 : Int) , 0 ≤ v6 ∧ v6 ≤ 1 → zG n (0, 0) d 128 (33, [.inr (.inr (some 8)), .inl a1], [.inl v6]) M (fun v M' => M' = M ∧ qRi (fun x => (-2) ≤ x ∧ x ≤ 1) v) := by
      intro v6 hv6
      exact zG_wr (r := some (.inl v6)) 0 hd0 hz (by rfl) ⟨rfl, _, rfl, by omega⟩
    refine zG_wf_eq (pc := 25) (n' := 28) (t := 32) (L := [.inr (.inr (some 8)), .inl a1]) (st := []) (x := x5) 0 hd0 hz (by rfl) (fun hb7 => ?_) (fun hb7 => ?_)
    · refine zG_w (c' := (33, [.inr (.inr (some 8)), .inl a1], [.inl 0])) 1 hd0 hz (by rfl) ?_
      exact j33 0 (by first | decide | omega)
    · refine zG_w (c' := (33, [.inr (.inr (some 8)), .inl a1], [.inl 1])) 2 hd0 hz (by rfl) ?_
      exact j33 1 (by first | decide | omega)
  · exact zG_wr (r := some (.inl (-2))) 1 hd0 hz (by rfl) ⟨rfl, _, rfl, by omega⟩
theorem qm_174_8 {n d : Nat} {M : zM} (hd : 2 ≤ d) (hC : qCI M) (a1 : Int) (ha1 : (-2147483648) ≤ a1 ∧ a1 ≤ 2147483647) : qOkP n d 174 [.inr (.inr (some 8)), .inl a1] 2 M (qRi (fun x => 0 ≤ x ∧ x ≤ 1)) := by
  have hz := zp_174
  have hd0 : 0 < d := by omega
  show zG n (0, 0) d 174 (0, [.inr (.inr (some 8)), .inl a1], []) M _
  refine zG_wp (pc := 11) (L := [.inr (.inr (some 8)), .inl a1]) (st := []) 4 hd0 hz zp_102 (qw_has (by first | exact zdk hd rfl | omega) hC (⟨by decide, rfl, rfl⟩ : qT n 12 20 3) a1 (by first | with_reducible exact ha1 | omega)) (by rfl) (fun x2 hx2 => ?_)
  exact zG_zret hd0 hz rfl (by omega) ⟨rfl, _, rfl, by omega⟩
theorem qm_175_8 {n d : Nat} {M : zM} (hd : 2 ≤ d) (hC : qCI M) (a1 : Int) (ha1 : (-2147483648) ≤ a1 ∧ a1 ≤ 2147483647) : qOkP n d 175 [.inr (.inr (some 8)), .inl a1] 2 M (qRi (fun x => 0 ≤ x ∧ x ≤ 1)) := by
  have hz := zp_175
  have hd0 : 0 < d := by omega
  show zG n (0, 0) d 175 (0, [.inr (.inr (some 8)), .inl a1], []) M _
  refine zG_wp (pc := 11) (L := [.inr (.inr (some 8)), .inl a1]) (st := []) 4 hd0 hz zp_102 (qw_has (by first | exact zdk hd rfl | omega) hC (⟨by decide, rfl, rfl⟩ : qT n 10 14 4) a1 (by first | with_reducible exact ha1 | omega)) (by rfl) (fun x2 hx2 => ?_)
  exact zG_zret hd0 hz rfl (by omega) ⟨rfl, _, rfl, by omega⟩
theorem qm_171 {n d : Nat} {M : zM} (hd : 2 ≤ d) (hC : qCI M) (a0 : Int) (ha0 : (-2147483648) ≤ a0 ∧ a0 ≤ 2147483647) : qOkP n d 171 [.inl a0] 1 M (qRi (fun x => 0 ≤ x ∧ x ≤ 1)) := by
  have hz := zp_171
  have hd0 : 0 < d := by omega
  show zG n (0, 0) d 171 (0, [.inl a0], []) M _
  refine zG_wp (pc := 7) (L := [.inl a0]) (st := []) 3 hd0 hz zp_169 (qm_169 (by first | exact zdk hd rfl | omega) hC  a0 (by first | with_reducible exact ha0 | omega) 0 (by first | decide | omega) 100 (by first | decide | omega)) (by rfl) (fun x2 hx2 => ?_)
  exact zG_zret hd0 hz rfl (by omega) ⟨rfl, _, rfl, by omega⟩
theorem qm_172 {n d : Nat} {M : zM} (hd : 2 ≤ d) (hC : qCI M) (a0 : Int) (ha0 : (-2147483648) ≤ a0 ∧ a0 ≤ 2147483647) : qOkP n d 172 [.inl a0] 1 M (qRi (fun x => 0 ≤ x ∧ x ≤ 1)) := by
  have hz := zp_172
  have hd0 : 0 < d := by omega
  show zG n (0, 0) d 172 (0, [.inl a0], []) M _
  refine zG_wp (pc := 6) (L := [.inl a0]) (st := []) 3 hd0 hz zp_169 (qm_169 (by first | exact zdk hd rfl | omega) hC  a0 (by first | with_reducible exact ha0 | omega) 0 (by first | decide | omega) 4 (by first | decide | omega)) (by rfl) (fun x2 hx2 => ?_)
  exact zG_zret hd0 hz rfl (by omega) ⟨rfl, _, rfl, by omega⟩
theorem qm_18_9 {n d : Nat} {M : zM} (hd : 2 ≤ d) (hC : qCI M) (a1 : Int) (ha1 : (-2147483648) ≤ a1 ∧ a1 ≤ 2147483647) (a2 : Int) (ha2 : (-2147483648) ≤ a2 ∧ a2 ≤ 2147483647) (a3 : Int) (ha3 : (-2147483648) ≤ a3 ∧ a3 ≤ 2147483647) (a4 : Int) (ha4 : (-2147483648) ≤ a4 ∧ a4 ≤ 2147483647) : qOkM n d 18 [.inr (.inr (some 9)), .inl a1, .inl a2, .inl a3, .inl a4] 7 qCI [18, 19] M (qRi (fun x => (-4) ≤ x ∧ x ≤ 249)) := by
  have hz := zp_18
  have hd0 : 0 < d := by omega
  have hW : qFr [18, 19] M M := qFr.rfl
  show zG n (0, 0) d 18 (0, [.inr (.inr (some 9)), .inl a1, .inl a2, .inl a3, .inl a4, zN, zN], []) M _
  refine zG_wn (pc := 7) (L := [.inr (.inr (some 9)), .inl a1, .inl a2, .inl a3, .inl a4, zN, zN]) (st := []) 2 hd0 hz zp_103 (qw_open (by first | exact zdk hd rfl | omega) hC (⟨by decide, rfl, rfl⟩ : qT n 18 250 11) ) (by rfl) (fun x2 M1 hr hx2 => ?_)
  obtain ⟨hCM1, hFM1⟩ := hr
  have hWM1 : qFr [18, 19] M M1 := hW.tr hFM1 (by decide)
  refine zG_w (c' := (12, [.inr (.inr (some 9)), .inl a1, .inl a2, .inl a3, .inl a4, .inl x2, .inl 0], [])) 3 hd0 hz (by rfl) ?_
  have j12 : ∀ (N : Nat) (v3 : Int) (M4 : zM) , (11 - v3 : Int).toNat < N → 0 ≤ v3 ∧ v3 ≤ 11 → qCI M4 → qFr [18, 19] M M4 → zG n (0, 0) d 18 (12, [.inr (.inr (some 9)), .inl a1, .inl a2, .inl a3, .inl a4, .inl x2, .inl v3], []) M4 (fun v M' => qWf qCI [18, 19] M M' ∧ qRi (fun x => (-4) ≤ x ∧ x ≤ 249) v) := by
    intro N
    induction N with
    | zero => intro v3 M4 hN hv3 hCM4 hWM4; exact absurd hN (Nat.not_lt_zero _)
    | succ N ih12 =>
      intro v3 M4 hN hv3 hCM4 hWM4
      replace hN : 11 - v3 < (N : Int) + 1 := by omega
      refine zG_wi_ge (pc := 16) (n' := 19) (t := 37) (L := [.inr (.inr (some 9)), .inl a1, .inl a2, .inl a3, .inl a4, .inl x2, .inl v3]) (st := []) (x := v3) (y := 11) 2 hd0 hz (by rfl) (fun hb5 => ?_) (fun hb5 => ?_)
      · refine zG_wv (pc := 48) (L := [.inr (.inr (some 9)), .inl a1, .inl a2, .inl a3, .inl a4, .inl x2, .inl v3]) (st := []) 5 hd0 hz zp_107 (qw_set (by first | exact zdk hd rfl | omega) hCM4 (⟨by decide, rfl, rfl⟩ : qT n 18 250 11) x2 (by omega) 0 (by first | decide | omega) a1 (by first | with_reducible exact ha1 | omega)) (by rfl) (fun M6 hr => ?_)
        obtain ⟨hCM6, hFM6⟩ := hr
        have hWM6 : qFr [18, 19] M M6 := hWM4.tr hFM6 (by decide)
        refine zG_wv (pc := 59) (L := [.inr (.inr (some 9)), .inl a1, .inl a2, .inl a3, .inl a4, .inl x2, .inl v3]) (st := []) 5 hd0 hz zp_107 (qw_set (by first | exact zdk hd rfl | omega) hCM6 (⟨by decide, rfl, rfl⟩ : qT n 18 250 11) x2 (by omega) 1 (by first | decide | omega) a2 (by first | with_reducible exact ha2 | omega)) (by rfl) (fun M8 hr => ?_)
        obtain ⟨hCM8, hFM8⟩ := hr
        have hWM8 : qFr [18, 19] M M8 := hWM6.tr hFM8 (by decide)
        refine zG_wv (pc := 70) (L := [.inr (.inr (some 9)), .inl a1, .inl a2, .inl a3, .inl a4, .inl x2, .inl v3]) (st := []) 5 hd0 hz zp_107 (qw_set (by first | exact zdk hd rfl | omega) hCM8 (⟨by decide, rfl, rfl⟩ : qT n 18 250 11) x2 (by omega) 2 (by first | decide | omega) a3 (by first | with_reducible exact ha3 | omega)) (by rfl) (fun M10 hr => ?_)
        obtain ⟨hCM10, hFM10⟩ := hr
        have hWM10 : qFr [18, 19] M M10 := hWM8.tr hFM10 (by decide)
        refine zG_wv (pc := 82) (L := [.inr (.inr (some 9)), .inl a1, .inl a2, .inl a3, .inl a4, .inl x2, .inl v3]) (st := []) 5 hd0 hz zp_107 (qw_set (by first | exact zdk hd rfl | omega) hCM10 (⟨by decide, rfl, rfl⟩ : qT n 18 250 11) x2 (by omega) 3 (by first | decide | omega) a4 (by first | with_reducible exact ha4 | omega)) (by rfl) (fun M12 hr => ?_)
        obtain ⟨hCM12, hFM12⟩ := hr
        have hWM12 : qFr [18, 19] M M12 := hWM10.tr hFM12 (by decide)
        exact zG_wr (r := some (.inl x2)) 1 hd0 hz (by rfl) ⟨⟨hCM12, hWM12⟩, _, rfl, by omega⟩
      · refine zG_wv (pc := 31) (L := [.inr (.inr (some 9)), .inl a1, .inl a2, .inl a3, .inl a4, .inl x2, .inl v3]) (st := []) 5 hd0 hz zp_107 (qw_set (by first | exact zdk hd rfl | omega) hCM4 (⟨by decide, rfl, rfl⟩ : qT n 18 250 11) x2 (by omega) v3 (by first | with_reducible exact hv3 | omega) (-1) (by first | decide | omega)) (by rfl) (fun M14 hr => ?_)
        obtain ⟨hCM14, hFM14⟩ := hr
        have hWM14 : qFr [18, 19] M M14 := hWM4.tr hFM14 (by decide)
        obtain ⟨x16, hx16⟩ : ∃ x : Int, x = w32 (v3 + 1) := ⟨_, rfl⟩
        have hx16e : x16 = v3 + 1 := by rw [hx16]; exact w32_id (by omega)
        refine zG_w (c' := (12, [.inr (.inr (some 9)), .inl a1, .inl a2, .inl a3, .inl a4, .inl x2, .inl x16], [])) 2 hd0 hz (by subst hx16; rfl) ?_
        exact ih12 x16 M14 (by omega) (by omega) hCM14 hWM14
  exact j12 ((11 - 0 : Int).toNat + 1) 0 M1 (by omega) (by omega) hCM1 hWM1
theorem qm_129_8 {n d : Nat} {M : zM} (hd : 3 ≤ d) (hC : qCI M) (a1 : Int) (ha1 : (-2147483648) ≤ a1 ∧ a1 ≤ 2147483647) (a2 : Int) (ha2 : (-2147483648) ≤ a2 ∧ a2 ≤ 2147483647) (a3 : Int) (ha3 : (-2147483648) ≤ a3 ∧ a3 ≤ 2147483647) (a4 : Int) (ha4 : (-2147483648) ≤ a4 ∧ a4 ≤ 2147483647) (a5 : Int) (ha5 : (-2147483648) ≤ a5 ∧ a5 ≤ 2147483647) (a6 : Int) (ha6 : (-2147483648) ≤ a6 ∧ a6 ≤ 2147483647) : qOkM n d 129 [.inr (.inr (some 8)), .inl a1, .inl a2, .inl a3, .inl a4, .inl a5, .inl a6] 8 qCI [18, 19] M (qRi (fun x => (-4) ≤ x ∧ x ≤ 249)) := by
  have hz := zp_129
  have hd0 : 0 < d := by omega
  have hW : qFr [18, 19] M M := qFr.rfl
  show zG n (0, 0) d 129 (0, [.inr (.inr (some 8)), .inl a1, .inl a2, .inl a3, .inl a4, .inl a5, .inl a6, zN], []) M _
  refine zG_wp (pc := 5) (L := [.inr (.inr (some 8)), .inl a1, .inl a2, .inl a3, .inl a4, .inl a5, .inl a6, zN]) (st := []) 2 hd0 hz zp_174 (qm_174_8 (by first | exact zdk hd rfl | omega) hC  a1 (by first | with_reducible exact ha1 | omega)) (by rfl) (fun x2 hx2 => ?_)
  have j31 : zG n (0, 0) d 129 (31, [.inr (.inr (some 8)), .inl a1, .inl a2, .inl a3, .inl a4, .inl a5, .inl a6, zN], []) M (fun v M' => qWf qCI [18, 19] M M' ∧ qRi (fun x => (-4) ≤ x ∧ x ≤ 249) v) := by
    exact zG_wr (r := some (.inl (-2))) 1 hd0 hz (by rfl) ⟨⟨hC, hW⟩, _, rfl, by omega⟩
  refine zG_wf_eq (pc := 5) (n' := 8) (t := 31) (L := [.inr (.inr (some 8)), .inl a1, .inl a2, .inl a3, .inl a4, .inl a5, .inl a6, zN]) (st := []) (x := x2) 0 hd0 hz (by rfl) (fun hb3 => ?_) (fun hb3 => ?_)
  · exact j31
  · refine zG_wp (pc := 13) (L := [.inr (.inr (some 8)), .inl a1, .inl a2, .inl a3, .inl a4, .inl a5, .inl a6, zN]) (st := []) 2 hd0 hz zp_175 (qm_175_8 (by first | exact zdk hd rfl | omega) hC  a2 (by first | with_reducible exact ha2 | omega)) (by rfl) (fun x5 hx5 => ?_)
    refine zG_wf_eq (pc := 13) (n' := 16) (t := 31) (L := [.inr (.inr (some 8)), .inl a1, .inl a2, .inl a3, .inl a4, .inl a5, .inl a6, zN]) (st := []) (x := x5) 0 hd0 hz (by rfl) (fun hb6 => ?_) (fun hb6 => ?_)
    · exact j31
    · refine zG_wp (pc := 20) (L := [.inr (.inr (some 8)), .inl a1, .inl a2, .inl a3, .inl a4, .inl a5, .inl a6, zN]) (st := []) 1 hd0 hz zp_171 (qm_171 (by first | exact zdk hd rfl | omega) hC  a3 (by first | with_reducible exact ha3 | omega)) (by rfl) (fun x8 hx8 => ?_)
      refine zG_wf_eq (pc := 20) (n' := 23) (t := 31) (L := [.inr (.inr (some 8)), .inl a1, .inl a2, .inl a3, .inl a4, .inl a5, .inl a6, zN]) (st := []) (x := x8) 0 hd0 hz (by rfl) (fun hb9 => ?_) (fun hb9 => ?_)
      · exact j31
      · refine zG_wp (pc := 28) (L := [.inr (.inr (some 8)), .inl a1, .inl a2, .inl a3, .inl a4, .inl a5, .inl a6, zN]) (st := []) 1 hd0 hz zp_172 (qm_172 (by first | exact zdk hd rfl | omega) hC  a4 (by first | with_reducible exact ha4 | omega)) (by rfl) (fun x11 hx11 => ?_)
        refine zG_wf_ne (pc := 28) (n' := 31) (t := 34) (L := [.inr (.inr (some 8)), .inl a1, .inl a2, .inl a3, .inl a4, .inl a5, .inl a6, zN]) (st := []) (x := x11) 0 hd0 hz (by rfl) (fun hb12 => ?_) (fun hb12 => ?_)
        · refine zG_wp (pc := 39) (L := [.inr (.inr (some 8)), .inl a1, .inl a2, .inl a3, .inl a4, .inl a5, .inl a6, zN]) (st := []) 1 hd0 hz zp_170 (qm_170 (by first | exact zdk hd rfl | omega) hC  a5 (by first | with_reducible exact ha5 | omega)) (by rfl) (fun x14 hx14 => ?_)
          have j55 : zG n (0, 0) d 129 (55, [.inr (.inr (some 8)), .inl a1, .inl a2, .inl a3, .inl a4, .inl a5, .inl a6, zN], []) M (fun v M' => qWf qCI [18, 19] M M' ∧ qRi (fun x => (-4) ≤ x ∧ x ≤ 249) v) := by
            exact zG_wr (r := some (.inl (-2))) 1 hd0 hz (by rfl) ⟨⟨hC, hW⟩, _, rfl, by omega⟩
          refine zG_wf_eq (pc := 39) (n' := 42) (t := 55) (L := [.inr (.inr (some 8)), .inl a1, .inl a2, .inl a3, .inl a4, .inl a5, .inl a6, zN]) (st := []) (x := x14) 0 hd0 hz (by rfl) (fun hb15 => ?_) (fun hb15 => ?_)
          · exact j55
          · refine zG_wp (pc := 52) (L := [.inr (.inr (some 8)), .inl a1, .inl a2, .inl a3, .inl a4, .inl a5, .inl a6, zN]) (st := []) 3 hd0 hz zp_169 (qm_169 (by first | exact zdk hd rfl | omega) hC  a6 (by first | with_reducible exact ha6 | omega) a5 (by first | with_reducible exact ha5 | omega) 9999 (by first | decide | omega)) (by rfl) (fun x17 hx17 => ?_)
            refine zG_wf_ne (pc := 52) (n' := 55) (t := 58) (L := [.inr (.inr (some 8)), .inl a1, .inl a2, .inl a3, .inl a4, .inl a5, .inl a6, zN]) (st := []) (x := x17) 0 hd0 hz (by rfl) (fun hb18 => ?_) (fun hb18 => ?_)
            · refine zG_wn (pc := 71) (L := [.inr (.inr (some 8)), .inl a1, .inl a2, .inl a3, .inl a4, .inl a5, .inl a6, zN]) (st := []) 6 hd0 hz zp_18 (qm_18_9 (by first | exact zdk hd rfl | omega) hC  0 (by first | decide | omega) a5 (by first | with_reducible exact ha5 | omega) a6 (by first | with_reducible exact ha6 | omega) (-1) (by first | decide | omega)) (by rfl) (fun x20 M19 hr hx20 => ?_)
              obtain ⟨hCM19, hFM19⟩ := hr
              have hWM19 : qFr [18, 19] M M19 := hW.tr hFM19 (by decide)
              refine zG_wv (pc := 87) (L := [.inr (.inr (some 8)), .inl a1, .inl a2, .inl a3, .inl a4, .inl a5, .inl a6, .inl x20]) (st := []) 7 hd0 hz zp_107 (qw_set (by first | exact zdk hd rfl | omega) hCM19 (⟨by decide, rfl, rfl⟩ : qT n 18 250 11) x20 (by omega) 4 (by first | decide | omega) a1 (by first | with_reducible exact ha1 | omega)) (by rfl) (fun M21 hr => ?_)
              obtain ⟨hCM21, hFM21⟩ := hr
              have hWM21 : qFr [18, 19] M M21 := hWM19.tr hFM21 (by decide)
              refine zG_wv (pc := 101) (L := [.inr (.inr (some 8)), .inl a1, .inl a2, .inl a3, .inl a4, .inl a5, .inl a6, .inl x20]) (st := []) 6 hd0 hz zp_107 (qw_set (by first | exact zdk hd rfl | omega) hCM21 (⟨by decide, rfl, rfl⟩ : qT n 18 250 11) x20 (by omega) 5 (by first | decide | omega) a2 (by first | with_reducible exact ha2 | omega)) (by rfl) (fun M23 hr => ?_)
              obtain ⟨hCM23, hFM23⟩ := hr
              have hWM23 : qFr [18, 19] M M23 := hWM21.tr hFM23 (by decide)
              refine zG_wv (pc := 116) (L := [.inr (.inr (some 8)), .inl a1, .inl a2, .inl a3, .inl a4, .inl a5, .inl a6, .inl x20]) (st := []) 6 hd0 hz zp_107 (qw_set (by first | exact zdk hd rfl | omega) hCM23 (⟨by decide, rfl, rfl⟩ : qT n 18 250 11) x20 (by omega) 7 (by first | decide | omega) a3 (by first | with_reducible exact ha3 | omega)) (by rfl) (fun M25 hr => ?_)
              obtain ⟨hCM25, hFM25⟩ := hr
              have hWM25 : qFr [18, 19] M M25 := hWM23.tr hFM25 (by decide)
              refine zG_wv (pc := 132) (L := [.inr (.inr (some 8)), .inl a1, .inl a2, .inl a3, .inl a4, .inl a5, .inl a6, .inl x20]) (st := []) 6 hd0 hz zp_107 (qw_set (by first | exact zdk hd rfl | omega) hCM25 (⟨by decide, rfl, rfl⟩ : qT n 18 250 11) x20 (by omega) 8 (by first | decide | omega) a4 (by first | with_reducible exact ha4 | omega)) (by rfl) (fun M27 hr => ?_)
              obtain ⟨hCM27, hFM27⟩ := hr
              have hWM27 : qFr [18, 19] M M27 := hWM25.tr hFM27 (by decide)
              exact zG_wr (r := some (.inl x20)) 1 hd0 hz (by rfl) ⟨⟨hCM27, hWM27⟩, _, rfl, by omega⟩
            · exact j55
        · exact j31
theorem qm_19_9 {n d : Nat} {M : zM} (hd : 2 ≤ d) (hC : qCI M) (a1 : Int) (ha1 : (-2147483648) ≤ a1 ∧ a1 ≤ 2147483647) (a2 : Int) (ha2 : (-2147483648) ≤ a2 ∧ a2 ≤ 2147483647) : qOkP n d 19 [.inr (.inr (some 9)), .inl a1, .inl a2] 3 M (qRi (fun x => 0 ≤ x ∧ x ≤ 1)) := by
  have hz := zp_19
  have hd0 : 0 < d := by omega
  show zG n (0, 0) d 19 (0, [.inr (.inr (some 9)), .inl a1, .inl a2], []) M _
  refine zG_wp (pc := 8) (L := [.inr (.inr (some 9)), .inl a1, .inl a2]) (st := []) 3 hd0 hz zp_102 (qw_has (by first | exact zdk hd rfl | omega) hC (⟨by decide, rfl, rfl⟩ : qT n 18 250 11) a2 (by first | with_reducible exact ha2 | omega)) (by rfl) (fun x2 hx2 => ?_)
  have j29 : ∀ (v3 : Int) , 0 ≤ v3 ∧ v3 ≤ 1 → zG n (0, 0) d 19 (29, [.inr (.inr (some 9)), .inl a1, .inl a2], [.inl v3]) M (fun v M' => M' = M ∧ qRi (fun x => 0 ≤ x ∧ x ≤ 1) v) := by
    intro v3 hv3
    exact zG_zret hd0 hz rfl (by omega) ⟨rfl, _, rfl, by omega⟩
  have j28 : zG n (0, 0) d 19 (28, [.inr (.inr (some 9)), .inl a1, .inl a2], []) M (fun v M' => M' = M ∧ qRi (fun x => 0 ≤ x ∧ x ≤ 1) v) := by
    refine zG_w (c' := (29, [.inr (.inr (some 9)), .inl a1, .inl a2], [.inl 0])) 1 hd0 hz (by rfl) ?_
    exact j29 0 (by first | decide | omega)
  refine zG_wf_eq (pc := 8) (n' := 11) (t := 28) (L := [.inr (.inr (some 9)), .inl a1, .inl a2]) (st := []) (x := x2) 0 hd0 hz (by rfl) (fun hb4 => ?_) (fun hb4 => ?_)
  · exact j28
  · refine zG_wp (pc := 20) (L := [.inr (.inr (some 9)), .inl a1, .inl a2]) (st := []) 4 hd0 hz zp_106 (qw_get (by first | exact zdk hd rfl | omega) hC (⟨by decide, rfl, rfl⟩ : qT n 18 250 11) a2 (by first | with_reducible exact ha2 | omega) 0 (by first | decide | omega)) (by rfl) (fun x6 hx6 => ?_)
    refine zG_wi_ne (pc := 21) (n' := 24) (t := 28) (L := [.inr (.inr (some 9)), .inl a1, .inl a2]) (st := []) (x := x6) (y := a1) 1 hd0 hz (by rfl) (fun hb7 => ?_) (fun hb7 => ?_)
    · exact j28
    · refine zG_w (c' := (29, [.inr (.inr (some 9)), .inl a1, .inl a2], [.inl 1])) 2 hd0 hz (by rfl) ?_
      exact j29 1 (by first | decide | omega)
theorem qm_130_8 {n d : Nat} {M : zM} (hd : 3 ≤ d) (hC : qCI M) (a1 : Int) (ha1 : (-2147483648) ≤ a1 ∧ a1 ≤ 2147483647) (a2 : Int) (ha2 : (-2147483648) ≤ a2 ∧ a2 ≤ 2147483647) (a3 : Int) (ha3 : (-2147483648) ≤ a3 ∧ a3 ≤ 2147483647) (a4 : Int) (ha4 : (-2147483648) ≤ a4 ∧ a4 ≤ 2147483647) (a5 : Int) (ha5 : (-2147483648) ≤ a5 ∧ a5 ≤ 2147483647) : qOkM n d 130 [.inr (.inr (some 8)), .inl a1, .inl a2, .inl a3, .inl a4, .inl a5] 7 qCI [18, 19] M (qRi (fun x => (-4) ≤ x ∧ x ≤ 249)) := by
  have hz := zp_130
  have hd0 : 0 < d := by omega
  have hW : qFr [18, 19] M M := qFr.rfl
  show zG n (0, 0) d 130 (0, [.inr (.inr (some 8)), .inl a1, .inl a2, .inl a3, .inl a4, .inl a5, zN], []) M _
  refine zG_wp (pc := 9) (L := [.inr (.inr (some 8)), .inl a1, .inl a2, .inl a3, .inl a4, .inl a5, zN]) (st := []) 4 hd0 hz zp_19 (qm_19_9 (by first | exact zdk hd rfl | omega) hC  0 (by first | decide | omega) a1 (by first | with_reducible exact ha1 | omega)) (by rfl) (fun x2 hx2 => ?_)
  have j26 : zG n (0, 0) d 130 (26, [.inr (.inr (some 8)), .inl a1, .inl a2, .inl a3, .inl a4, .inl a5, zN], []) M (fun v M' => qWf qCI [18, 19] M M' ∧ qRi (fun x => (-4) ≤ x ∧ x ≤ 249) v) := by
    exact zG_wr (r := some (.inl (-2))) 1 hd0 hz (by rfl) ⟨⟨hC, hW⟩, _, rfl, by omega⟩
  refine zG_wf_eq (pc := 9) (n' := 12) (t := 26) (L := [.inr (.inr (some 8)), .inl a1, .inl a2, .inl a3, .inl a4, .inl a5, zN]) (st := []) (x := x2) 0 hd0 hz (by rfl) (fun hb3 => ?_) (fun hb3 => ?_)
  · exact j26
  · refine zG_wp (pc := 16) (L := [.inr (.inr (some 8)), .inl a1, .inl a2, .inl a3, .inl a4, .inl a5, zN]) (st := []) 1 hd0 hz zp_171 (qm_171 (by first | exact zdk hd rfl | omega) hC  a2 (by first | with_reducible exact ha2 | omega)) (by rfl) (fun x5 hx5 => ?_)
    refine zG_wf_eq (pc := 16) (n' := 19) (t := 26) (L := [.inr (.inr (some 8)), .inl a1, .inl a2, .inl a3, .inl a4, .inl a5, zN]) (st := []) (x := x5) 0 hd0 hz (by rfl) (fun hb6 => ?_) (fun hb6 => ?_)
    · exact j26
    · refine zG_wp (pc := 23) (L := [.inr (.inr (some 8)), .inl a1, .inl a2, .inl a3, .inl a4, .inl a5, zN]) (st := []) 1 hd0 hz zp_172 (qm_172 (by first | exact zdk hd rfl | omega) hC  a3 (by first | with_reducible exact ha3 | omega)) (by rfl) (fun x8 hx8 => ?_)
      refine zG_wf_ne (pc := 23) (n' := 26) (t := 29) (L := [.inr (.inr (some 8)), .inl a1, .inl a2, .inl a3, .inl a4, .inl a5, zN]) (st := []) (x := x8) 0 hd0 hz (by rfl) (fun hb9 => ?_) (fun hb9 => ?_)
      · refine zG_wp (pc := 43) (L := [.inr (.inr (some 8)), .inl a1, .inl a2, .inl a3, .inl a4, .inl a5, zN]) (st := [.inl a3]) 6 hd0 hz zp_106 (qw_get (by first | exact zdk hd rfl | omega) hC (⟨by decide, rfl, rfl⟩ : qT n 18 250 11) a1 (by first | with_reducible exact ha1 | omega) 8 (by first | decide | omega)) (by rfl) (fun x11 hx11 => ?_)
        refine zG_wi_ne (pc := 43) (n' := 46) (t := 49) (L := [.inr (.inr (some 8)), .inl a1, .inl a2, .inl a3, .inl a4, .inl a5, zN]) (st := []) (x := a3) (y := x11) 0 hd0 hz (by rfl) (fun hb12 => ?_) (fun hb12 => ?_)
        · refine zG_wp (pc := 63) (L := [.inr (.inr (some 8)), .inl a1, .inl a2, .inl a3, .inl a4, .inl a5, zN]) (st := [.inl a4]) 6 hd0 hz zp_106 (qw_get (by first | exact zdk hd rfl | omega) hC (⟨by decide, rfl, rfl⟩ : qT n 18 250 11) a1 (by first | with_reducible exact ha1 | omega) 1 (by first | decide | omega)) (by rfl) (fun x14 hx14 => ?_)
          refine zG_wp (pc := 69) (L := [.inr (.inr (some 8)), .inl a1, .inl a2, .inl a3, .inl a4, .inl a5, zN]) (st := []) 1 hd0 hz zp_169 (qm_169 (by first | exact zdk hd rfl | omega) hC  a4 (by first | with_reducible exact ha4 | omega) x14 (by omega) 9999 (by first | decide | omega)) (by rfl) (fun x16 hx16 => ?_)
          have j85 : zG n (0, 0) d 130 (85, [.inr (.inr (some 8)), .inl a1, .inl a2, .inl a3, .inl a4, .inl a5, zN], []) M (fun v M' => qWf qCI [18, 19] M M' ∧ qRi (fun x => (-4) ≤ x ∧ x ≤ 249) v) := by
            exact zG_wr (r := some (.inl (-2))) 1 hd0 hz (by rfl) ⟨⟨hC, hW⟩, _, rfl, by omega⟩
          refine zG_wf_eq (pc := 69) (n' := 72) (t := 85) (L := [.inr (.inr (some 8)), .inl a1, .inl a2, .inl a3, .inl a4, .inl a5, zN]) (st := []) (x := x16) 0 hd0 hz (by rfl) (fun hb17 => ?_) (fun hb17 => ?_)
          · exact j85
          · refine zG_wp (pc := 82) (L := [.inr (.inr (some 8)), .inl a1, .inl a2, .inl a3, .inl a4, .inl a5, zN]) (st := []) 3 hd0 hz zp_169 (qm_169 (by first | exact zdk hd rfl | omega) hC  a5 (by first | with_reducible exact ha5 | omega) a4 (by first | with_reducible exact ha4 | omega) 9999 (by first | decide | omega)) (by rfl) (fun x19 hx19 => ?_)
            refine zG_wf_ne (pc := 82) (n' := 85) (t := 88) (L := [.inr (.inr (some 8)), .inl a1, .inl a2, .inl a3, .inl a4, .inl a5, zN]) (st := []) (x := x19) 0 hd0 hz (by rfl) (fun hb20 => ?_) (fun hb20 => ?_)
            · refine zG_wn (pc := 101) (L := [.inr (.inr (some 8)), .inl a1, .inl a2, .inl a3, .inl a4, .inl a5, zN]) (st := []) 6 hd0 hz zp_18 (qm_18_9 (by first | exact zdk hd rfl | omega) hC  1 (by first | decide | omega) a4 (by first | with_reducible exact ha4 | omega) a5 (by first | with_reducible exact ha5 | omega) (-1) (by first | decide | omega)) (by rfl) (fun x22 M21 hr hx22 => ?_)
              obtain ⟨hCM21, hFM21⟩ := hr
              have hWM21 : qFr [18, 19] M M21 := hW.tr hFM21 (by decide)
              refine zG_wv (pc := 118) (L := [.inr (.inr (some 8)), .inl a1, .inl a2, .inl a3, .inl a4, .inl a5, .inl x22]) (st := []) 7 hd0 hz zp_107 (qw_set (by first | exact zdk hd rfl | omega) hCM21 (⟨by decide, rfl, rfl⟩ : qT n 18 250 11) x22 (by omega) 6 (by first | decide | omega) a1 (by first | with_reducible exact ha1 | omega)) (by rfl) (fun M23 hr => ?_)
              obtain ⟨hCM23, hFM23⟩ := hr
              have hWM23 : qFr [18, 19] M M23 := hWM21.tr hFM23 (by decide)
              refine zG_wv (pc := 133) (L := [.inr (.inr (some 8)), .inl a1, .inl a2, .inl a3, .inl a4, .inl a5, .inl x22]) (st := []) 6 hd0 hz zp_107 (qw_set (by first | exact zdk hd rfl | omega) hCM23 (⟨by decide, rfl, rfl⟩ : qT n 18 250 11) x22 (by omega) 7 (by first | decide | omega) a2 (by first | with_reducible exact ha2 | omega)) (by rfl) (fun M25 hr => ?_)
              obtain ⟨hCM25, hFM25⟩ := hr
              have hWM25 : qFr [18, 19] M M25 := hWM23.tr hFM25 (by decide)
              refine zG_wv (pc := 148) (L := [.inr (.inr (some 8)), .inl a1, .inl a2, .inl a3, .inl a4, .inl a5, .inl x22]) (st := []) 6 hd0 hz zp_107 (qw_set (by first | exact zdk hd rfl | omega) hCM25 (⟨by decide, rfl, rfl⟩ : qT n 18 250 11) x22 (by omega) 8 (by first | decide | omega) a3 (by first | with_reducible exact ha3 | omega)) (by rfl) (fun M27 hr => ?_)
              obtain ⟨hCM27, hFM27⟩ := hr
              have hWM27 : qFr [18, 19] M M27 := hWM25.tr hFM27 (by decide)
              exact zG_wr (r := some (.inl x22)) 1 hd0 hz (by rfl) ⟨⟨hCM27, hWM27⟩, _, rfl, by omega⟩
            · exact j85
        · exact zG_wr (r := some (.inl (-2))) 1 hd0 hz (by rfl) ⟨⟨hC, hW⟩, _, rfl, by omega⟩
      · exact j26
theorem qm_178_8 {n d : Nat} {M : zM} (hd : 2 ≤ d) (hC : qCI M) (a1 : Int) (ha1 : (-2147483648) ≤ a1 ∧ a1 ≤ 2147483647) (a2 : Int) (ha2 : (-2147483648) ≤ a2 ∧ a2 ≤ 2147483647) : qOkP n d 178 [.inr (.inr (some 8)), .inl a1, .inl a2] 3 M (qRi (fun x => 0 ≤ x ∧ x ≤ 1)) := by
  have hz := zp_178
  have hd0 : 0 < d := by omega
  show zG n (0, 0) d 178 (0, [.inr (.inr (some 8)), .inl a1, .inl a2], []) M _
  refine zG_wp (pc := 11) (L := [.inr (.inr (some 8)), .inl a1, .inl a2]) (st := []) 4 hd0 hz zp_102 (qw_has (by first | exact zdk hd rfl | omega) hC (⟨by decide, rfl, rfl⟩ : qT n 16 40 5) a1 (by first | with_reducible exact ha1 | omega)) (by rfl) (fun x2 hx2 => ?_)
  have j41 : ∀ (v3 : Int) , 0 ≤ v3 ∧ v3 ≤ 1 → zG n (0, 0) d 178 (41, [.inr (.inr (some 8)), .inl a1, .inl a2], [.inl v3]) M (fun v M' => M' = M ∧ qRi (fun x => 0 ≤ x ∧ x ≤ 1) v) := by
    intro v3 hv3
    exact zG_zret hd0 hz rfl (by omega) ⟨rfl, _, rfl, by omega⟩
  have j40 : zG n (0, 0) d 178 (40, [.inr (.inr (some 8)), .inl a1, .inl a2], []) M (fun v M' => M' = M ∧ qRi (fun x => 0 ≤ x ∧ x ≤ 1) v) := by
    refine zG_w (c' := (41, [.inr (.inr (some 8)), .inl a1, .inl a2], [.inl 0])) 1 hd0 hz (by rfl) ?_
    exact j41 0 (by first | decide | omega)
  refine zG_wf_eq (pc := 11) (n' := 14) (t := 40) (L := [.inr (.inr (some 8)), .inl a1, .inl a2]) (st := []) (x := x2) 0 hd0 hz (by rfl) (fun hb4 => ?_) (fun hb4 => ?_)
  · exact j40
  · refine zG_wp (pc := 27) (L := [.inr (.inr (some 8)), .inl a1, .inl a2]) (st := [.inl a2]) 6 hd0 hz zp_106 (qw_get (by first | exact zdk hd rfl | omega) hC (⟨by decide, rfl, rfl⟩ : qT n 16 40 5) a1 (by first | with_reducible exact ha1 | omega) 1 (by first | decide | omega)) (by rfl) (fun x6 hx6 => ?_)
    refine zG_wp (pc := 33) (L := [.inr (.inr (some 8)), .inl a1, .inl a2]) (st := []) 1 hd0 hz zp_169 (qm_169 (by first | exact zdk hd rfl | omega) hC  a2 (by first | with_reducible exact ha2 | omega) x6 (by omega) 9999 (by first | decide | omega)) (by rfl) (fun x8 hx8 => ?_)
    refine zG_wf_eq (pc := 33) (n' := 36) (t := 40) (L := [.inr (.inr (some 8)), .inl a1, .inl a2]) (st := []) (x := x8) 0 hd0 hz (by rfl) (fun hb9 => ?_) (fun hb9 => ?_)
    · exact j40
    · refine zG_w (c' := (41, [.inr (.inr (some 8)), .inl a1, .inl a2], [.inl 1])) 2 hd0 hz (by rfl) ?_
      exact j41 1 (by first | decide | omega)
theorem qm_179_8 {n d : Nat} {M : zM} (hd : 3 ≤ d) (hC : qCI M) (a1 : Int) (ha1 : (-2147483648) ≤ a1 ∧ a1 ≤ 2147483647) (a2 : Int) (ha2 : (-2147483648) ≤ a2 ∧ a2 ≤ 2147483647) (a3 : Int) (ha3 : (-2147483648) ≤ a3 ∧ a3 ≤ 2147483647) : qOkM n d 179 [.inr (.inr (some 8)), .inl a1, .inl a2, .inl a3] 4 qCI [18, 19] M (qRi (fun x => (-4) ≤ x ∧ x ≤ 249)) := by
  have hz := zp_179
  have hd0 : 0 < d := by omega
  have hW : qFr [18, 19] M M := qFr.rfl
  show zG n (0, 0) d 179 (0, [.inr (.inr (some 8)), .inl a1, .inl a2, .inl a3], []) M _
  refine zG_wp (pc := 17) (L := [.inr (.inr (some 8)), .inl a1, .inl a2, .inl a3]) (st := [.inl a1, .inr (.inr (some 9))]) 8 hd0 hz zp_106 (qw_get (by first | exact zdk hd rfl | omega) hC (⟨by decide, rfl, rfl⟩ : qT n 16 40 5) a2 (by first | with_reducible exact ha2 | omega) 1 (by first | decide | omega)) (by rfl) (fun x2 hx2 => ?_)
  refine zG_wn (pc := 22) (L := [.inr (.inr (some 8)), .inl a1, .inl a2, .inl a3]) (st := []) 2 hd0 hz zp_18 (qm_18_9 (by first | exact zdk hd rfl | omega) hC  a1 (by first | with_reducible exact ha1 | omega) x2 (by omega) a3 (by first | with_reducible exact ha3 | omega) a2 (by first | with_reducible exact ha2 | omega)) (by rfl) (fun x4 M3 hr hx4 => ?_)
  obtain ⟨hCM3, hFM3⟩ := hr
  have hWM3 : qFr [18, 19] M M3 := hW.tr hFM3 (by decide)
  exact zG_wr (r := some (.inl x4)) 0 hd0 hz (by rfl) ⟨⟨hCM3, hWM3⟩, _, rfl, by omega⟩
theorem qm_131_8 {n d : Nat} {M : zM} (hd : 4 ≤ d) (hC : qCI M) (a1 : Int) (ha1 : (-2147483648) ≤ a1 ∧ a1 ≤ 2147483647) (a2 : Int) (ha2 : (-2147483648) ≤ a2 ∧ a2 ≤ 2147483647) (a3 : Int) (ha3 : (-2147483648) ≤ a3 ∧ a3 ≤ 2147483647) (a4 : Int) (ha4 : (-2147483648) ≤ a4 ∧ a4 ≤ 2147483647) : qOkM n d 131 [.inr (.inr (some 8)), .inl a1, .inl a2, .inl a3, .inl a4] 6 qCI [18, 19] M (qRi (fun x => (-4) ≤ x ∧ x ≤ 249)) := by
  have hz := zp_131
  have hd0 : 0 < d := by omega
  have hW : qFr [18, 19] M M := qFr.rfl
  show zG n (0, 0) d 131 (0, [.inr (.inr (some 8)), .inl a1, .inl a2, .inl a3, .inl a4, zN], []) M _
  refine zG_wp (pc := 9) (L := [.inr (.inr (some 8)), .inl a1, .inl a2, .inl a3, .inl a4, zN]) (st := []) 4 hd0 hz zp_19 (qm_19_9 (by first | exact zdk hd rfl | omega) hC  0 (by first | decide | omega) a1 (by first | with_reducible exact ha1 | omega)) (by rfl) (fun x2 hx2 => ?_)
  have j29 : zG n (0, 0) d 131 (29, [.inr (.inr (some 8)), .inl a1, .inl a2, .inl a3, .inl a4, zN], []) M (fun v M' => qWf qCI [18, 19] M M' ∧ qRi (fun x => (-4) ≤ x ∧ x ≤ 249) v) := by
    exact zG_wr (r := some (.inl (-2))) 1 hd0 hz (by rfl) ⟨⟨hC, hW⟩, _, rfl, by omega⟩
  refine zG_wf_eq (pc := 9) (n' := 12) (t := 29) (L := [.inr (.inr (some 8)), .inl a1, .inl a2, .inl a3, .inl a4, zN]) (st := []) (x := x2) 0 hd0 hz (by rfl) (fun hb3 => ?_) (fun hb3 => ?_)
  · exact j29
  · refine zG_wp (pc := 16) (L := [.inr (.inr (some 8)), .inl a1, .inl a2, .inl a3, .inl a4, zN]) (st := []) 1 hd0 hz zp_171 (qm_171 (by first | exact zdk hd rfl | omega) hC  a2 (by first | with_reducible exact ha2 | omega)) (by rfl) (fun x5 hx5 => ?_)
    refine zG_wf_eq (pc := 16) (n' := 19) (t := 29) (L := [.inr (.inr (some 8)), .inl a1, .inl a2, .inl a3, .inl a4, zN]) (st := []) (x := x5) 0 hd0 hz (by rfl) (fun hb6 => ?_) (fun hb6 => ?_)
    · exact j29
    · refine zG_wp (pc := 26) (L := [.inr (.inr (some 8)), .inl a1, .inl a2, .inl a3, .inl a4, zN]) (st := []) 3 hd0 hz zp_178 (qm_178_8 (by first | exact zdk hd rfl | omega) hC  a3 (by first | with_reducible exact ha3 | omega) a4 (by first | with_reducible exact ha4 | omega)) (by rfl) (fun x8 hx8 => ?_)
      refine zG_wf_ne (pc := 26) (n' := 29) (t := 32) (L := [.inr (.inr (some 8)), .inl a1, .inl a2, .inl a3, .inl a4, zN]) (st := []) (x := x8) 0 hd0 hz (by rfl) (fun hb9 => ?_) (fun hb9 => ?_)
      · refine zG_wn (pc := 40) (L := [.inr (.inr (some 8)), .inl a1, .inl a2, .inl a3, .inl a4, zN]) (st := []) 4 hd0 hz zp_179 (qm_179_8 (by first | exact zdk hd rfl | omega) hC  2 (by first | decide | omega) a3 (by first | with_reducible exact ha3 | omega) a4 (by first | with_reducible exact ha4 | omega)) (by rfl) (fun x11 M10 hr hx11 => ?_)
        obtain ⟨hCM10, hFM10⟩ := hr
        have hWM10 : qFr [18, 19] M M10 := hW.tr hFM10 (by decide)
        refine zG_wv (pc := 57) (L := [.inr (.inr (some 8)), .inl a1, .inl a2, .inl a3, .inl a4, .inl x11]) (st := []) 7 hd0 hz zp_107 (qw_set (by first | exact zdk hd rfl | omega) hCM10 (⟨by decide, rfl, rfl⟩ : qT n 18 250 11) x11 (by omega) 6 (by first | decide | omega) a1 (by first | with_reducible exact ha1 | omega)) (by rfl) (fun M12 hr => ?_)
        obtain ⟨hCM12, hFM12⟩ := hr
        have hWM12 : qFr [18, 19] M M12 := hWM10.tr hFM12 (by decide)
        refine zG_wv (pc := 72) (L := [.inr (.inr (some 8)), .inl a1, .inl a2, .inl a3, .inl a4, .inl x11]) (st := []) 6 hd0 hz zp_107 (qw_set (by first | exact zdk hd rfl | omega) hCM12 (⟨by decide, rfl, rfl⟩ : qT n 18 250 11) x11 (by omega) 7 (by first | decide | omega) a2 (by first | with_reducible exact ha2 | omega)) (by rfl) (fun M14 hr => ?_)
        obtain ⟨hCM14, hFM14⟩ := hr
        have hWM14 : qFr [18, 19] M M14 := hWM12.tr hFM14 (by decide)
        exact zG_wr (r := some (.inl x11)) 1 hd0 hz (by rfl) ⟨⟨hCM14, hWM14⟩, _, rfl, by omega⟩
      · exact j29
theorem qm_132_8 {n d : Nat} {M : zM} (hd : 4 ≤ d) (hC : qCI M) (a1 : Int) (ha1 : (-2147483648) ≤ a1 ∧ a1 ≤ 2147483647) (a2 : Int) (ha2 : (-2147483648) ≤ a2 ∧ a2 ≤ 2147483647) (a3 : Int) (ha3 : (-2147483648) ≤ a3 ∧ a3 ≤ 2147483647) (a4 : Int) (ha4 : (-2147483648) ≤ a4 ∧ a4 ≤ 2147483647) (a5 : Int) (ha5 : (-2147483648) ≤ a5 ∧ a5 ≤ 2147483647) (a6 : Int) (ha6 : (-2147483648) ≤ a6 ∧ a6 ≤ 2147483647) : qOkM n d 132 [.inr (.inr (some 8)), .inl a1, .inl a2, .inl a3, .inl a4, .inl a5, .inl a6] 8 qCI [18, 19] M (qRi (fun x => (-4) ≤ x ∧ x ≤ 249)) := by
  have hz := zp_132
  have hd0 : 0 < d := by omega
  have hW : qFr [18, 19] M M := qFr.rfl
  show zG n (0, 0) d 132 (0, [.inr (.inr (some 8)), .inl a1, .inl a2, .inl a3, .inl a4, .inl a5, .inl a6, zN], []) M _
  refine zG_wp (pc := 5) (L := [.inr (.inr (some 8)), .inl a1, .inl a2, .inl a3, .inl a4, .inl a5, .inl a6, zN]) (st := []) 2 hd0 hz zp_175 (qm_175_8 (by first | exact zdk hd rfl | omega) hC  a1 (by first | with_reducible exact ha1 | omega)) (by rfl) (fun x2 hx2 => ?_)
  have j30 : zG n (0, 0) d 132 (30, [.inr (.inr (some 8)), .inl a1, .inl a2, .inl a3, .inl a4, .inl a5, .inl a6, zN], []) M (fun v M' => qWf qCI [18, 19] M M' ∧ qRi (fun x => (-4) ≤ x ∧ x ≤ 249) v) := by
    exact zG_wr (r := some (.inl (-2))) 1 hd0 hz (by rfl) ⟨⟨hC, hW⟩, _, rfl, by omega⟩
  refine zG_wf_eq (pc := 5) (n' := 8) (t := 30) (L := [.inr (.inr (some 8)), .inl a1, .inl a2, .inl a3, .inl a4, .inl a5, .inl a6, zN]) (st := []) (x := x2) 0 hd0 hz (by rfl) (fun hb3 => ?_) (fun hb3 => ?_)
  · exact j30
  · refine zG_wp (pc := 16) (L := [.inr (.inr (some 8)), .inl a1, .inl a2, .inl a3, .inl a4, .inl a5, .inl a6, zN]) (st := []) 3 hd0 hz zp_169 (qm_169 (by first | exact zdk hd rfl | omega) hC  a2 (by first | with_reducible exact ha2 | omega) 1 (by first | decide | omega) 200 (by first | decide | omega)) (by rfl) (fun x5 hx5 => ?_)
    refine zG_wf_eq (pc := 16) (n' := 19) (t := 30) (L := [.inr (.inr (some 8)), .inl a1, .inl a2, .inl a3, .inl a4, .inl a5, .inl a6, zN]) (st := []) (x := x5) 0 hd0 hz (by rfl) (fun hb6 => ?_) (fun hb6 => ?_)
    · exact j30
    · refine zG_wp (pc := 27) (L := [.inr (.inr (some 8)), .inl a1, .inl a2, .inl a3, .inl a4, .inl a5, .inl a6, zN]) (st := []) 3 hd0 hz zp_169 (qm_169 (by first | exact zdk hd rfl | omega) hC  a3 (by first | with_reducible exact ha3 | omega) 1 (by first | decide | omega) 200 (by first | decide | omega)) (by rfl) (fun x8 hx8 => ?_)
      refine zG_wf_ne (pc := 27) (n' := 30) (t := 33) (L := [.inr (.inr (some 8)), .inl a1, .inl a2, .inl a3, .inl a4, .inl a5, .inl a6, zN]) (st := []) (x := x8) 0 hd0 hz (by rfl) (fun hb9 => ?_) (fun hb9 => ?_)
      · refine zG_wp (pc := 42) (L := [.inr (.inr (some 8)), .inl a1, .inl a2, .inl a3, .inl a4, .inl a5, .inl a6, zN]) (st := []) 3 hd0 hz zp_169 (qm_169 (by first | exact zdk hd rfl | omega) hC  a4 (by first | with_reducible exact ha4 | omega) (-50) (by first | decide | omega) 50 (by first | decide | omega)) (by rfl) (fun x11 hx11 => ?_)
        have j56 : zG n (0, 0) d 132 (56, [.inr (.inr (some 8)), .inl a1, .inl a2, .inl a3, .inl a4, .inl a5, .inl a6, zN], []) M (fun v M' => qWf qCI [18, 19] M M' ∧ qRi (fun x => (-4) ≤ x ∧ x ≤ 249) v) := by
          exact zG_wr (r := some (.inl (-2))) 1 hd0 hz (by rfl) ⟨⟨hC, hW⟩, _, rfl, by omega⟩
        refine zG_wf_eq (pc := 42) (n' := 45) (t := 56) (L := [.inr (.inr (some 8)), .inl a1, .inl a2, .inl a3, .inl a4, .inl a5, .inl a6, zN]) (st := []) (x := x11) 0 hd0 hz (by rfl) (fun hb12 => ?_) (fun hb12 => ?_)
        · exact j56
        · refine zG_wp (pc := 53) (L := [.inr (.inr (some 8)), .inl a1, .inl a2, .inl a3, .inl a4, .inl a5, .inl a6, zN]) (st := []) 3 hd0 hz zp_178 (qm_178_8 (by first | exact zdk hd rfl | omega) hC  a5 (by first | with_reducible exact ha5 | omega) a6 (by first | with_reducible exact ha6 | omega)) (by rfl) (fun x14 hx14 => ?_)
          refine zG_wf_ne (pc := 53) (n' := 56) (t := 59) (L := [.inr (.inr (some 8)), .inl a1, .inl a2, .inl a3, .inl a4, .inl a5, .inl a6, zN]) (st := []) (x := x14) 0 hd0 hz (by rfl) (fun hb15 => ?_) (fun hb15 => ?_)
          · refine zG_wn (pc := 68) (L := [.inr (.inr (some 8)), .inl a1, .inl a2, .inl a3, .inl a4, .inl a5, .inl a6, zN]) (st := []) 4 hd0 hz zp_179 (qm_179_8 (by first | exact zdk hd rfl | omega) hC  3 (by first | decide | omega) a5 (by first | with_reducible exact ha5 | omega) a6 (by first | with_reducible exact ha6 | omega)) (by rfl) (fun x17 M16 hr hx17 => ?_)
            obtain ⟨hCM16, hFM16⟩ := hr
            have hWM16 : qFr [18, 19] M M16 := hW.tr hFM16 (by decide)
            refine zG_wv (pc := 84) (L := [.inr (.inr (some 8)), .inl a1, .inl a2, .inl a3, .inl a4, .inl a5, .inl a6, .inl x17]) (st := []) 7 hd0 hz zp_107 (qw_set (by first | exact zdk hd rfl | omega) hCM16 (⟨by decide, rfl, rfl⟩ : qT n 18 250 11) x17 (by omega) 5 (by first | decide | omega) a1 (by first | with_reducible exact ha1 | omega)) (by rfl) (fun M18 hr => ?_)
            obtain ⟨hCM18, hFM18⟩ := hr
            have hWM18 : qFr [18, 19] M M18 := hWM16.tr hFM18 (by decide)
            refine zG_wv (pc := 99) (L := [.inr (.inr (some 8)), .inl a1, .inl a2, .inl a3, .inl a4, .inl a5, .inl a6, .inl x17]) (st := []) 6 hd0 hz zp_107 (qw_set (by first | exact zdk hd rfl | omega) hCM18 (⟨by decide, rfl, rfl⟩ : qT n 18 250 11) x17 (by omega) 8 (by first | decide | omega) a2 (by first | with_reducible exact ha2 | omega)) (by rfl) (fun M20 hr => ?_)
            obtain ⟨hCM20, hFM20⟩ := hr
            have hWM20 : qFr [18, 19] M M20 := hWM18.tr hFM20 (by decide)
            refine zG_wv (pc := 114) (L := [.inr (.inr (some 8)), .inl a1, .inl a2, .inl a3, .inl a4, .inl a5, .inl a6, .inl x17]) (st := []) 6 hd0 hz zp_107 (qw_set (by first | exact zdk hd rfl | omega) hCM20 (⟨by decide, rfl, rfl⟩ : qT n 18 250 11) x17 (by omega) 9 (by first | decide | omega) a3 (by first | with_reducible exact ha3 | omega)) (by rfl) (fun M22 hr => ?_)
            obtain ⟨hCM22, hFM22⟩ := hr
            have hWM22 : qFr [18, 19] M M22 := hWM20.tr hFM22 (by decide)
            refine zG_wv (pc := 130) (L := [.inr (.inr (some 8)), .inl a1, .inl a2, .inl a3, .inl a4, .inl a5, .inl a6, .inl x17]) (st := []) 6 hd0 hz zp_107 (qw_set (by first | exact zdk hd rfl | omega) hCM22 (⟨by decide, rfl, rfl⟩ : qT n 18 250 11) x17 (by omega) 10 (by first | decide | omega) a4 (by first | with_reducible exact ha4 | omega)) (by rfl) (fun M24 hr => ?_)
            obtain ⟨hCM24, hFM24⟩ := hr
            have hWM24 : qFr [18, 19] M M24 := hWM22.tr hFM24 (by decide)
            exact zG_wr (r := some (.inl x17)) 1 hd0 hz (by rfl) ⟨⟨hCM24, hWM24⟩, _, rfl, by omega⟩
          · exact j56
      · exact j30
theorem qm_133_8 {n d : Nat} {M : zM} (hd : 4 ≤ d) (hC : qCI M) (a1 : Int) (ha1 : (-2147483648) ≤ a1 ∧ a1 ≤ 2147483647) (a2 : Int) (ha2 : (-2147483648) ≤ a2 ∧ a2 ≤ 2147483647) (a3 : Int) (ha3 : (-2147483648) ≤ a3 ∧ a3 ≤ 2147483647) (a4 : Int) (ha4 : (-2147483648) ≤ a4 ∧ a4 ≤ 2147483647) : qOkM n d 133 [.inr (.inr (some 8)), .inl a1, .inl a2, .inl a3, .inl a4] 6 qCI [18, 19] M (qRi (fun x => (-4) ≤ x ∧ x ≤ 249)) := by
  have hz := zp_133
  have hd0 : 0 < d := by omega
  have hW : qFr [18, 19] M M := qFr.rfl
  show zG n (0, 0) d 133 (0, [.inr (.inr (some 8)), .inl a1, .inl a2, .inl a3, .inl a4, zN], []) M _
  refine zG_wp (pc := 5) (L := [.inr (.inr (some 8)), .inl a1, .inl a2, .inl a3, .inl a4, zN]) (st := []) 2 hd0 hz zp_174 (qm_174_8 (by first | exact zdk hd rfl | omega) hC  a1 (by first | with_reducible exact ha1 | omega)) (by rfl) (fun x2 hx2 => ?_)
  have j26 : zG n (0, 0) d 133 (26, [.inr (.inr (some 8)), .inl a1, .inl a2, .inl a3, .inl a4, zN], []) M (fun v M' => qWf qCI [18, 19] M M' ∧ qRi (fun x => (-4) ≤ x ∧ x ≤ 249) v) := by
    exact zG_wr (r := some (.inl (-2))) 1 hd0 hz (by rfl) ⟨⟨hC, hW⟩, _, rfl, by omega⟩
  refine zG_wf_eq (pc := 5) (n' := 8) (t := 26) (L := [.inr (.inr (some 8)), .inl a1, .inl a2, .inl a3, .inl a4, zN]) (st := []) (x := x2) 0 hd0 hz (by rfl) (fun hb3 => ?_) (fun hb3 => ?_)
  · exact j26
  · refine zG_wp (pc := 13) (L := [.inr (.inr (some 8)), .inl a1, .inl a2, .inl a3, .inl a4, zN]) (st := []) 2 hd0 hz zp_175 (qm_175_8 (by first | exact zdk hd rfl | omega) hC  a2 (by first | with_reducible exact ha2 | omega)) (by rfl) (fun x5 hx5 => ?_)
    refine zG_wf_eq (pc := 13) (n' := 16) (t := 26) (L := [.inr (.inr (some 8)), .inl a1, .inl a2, .inl a3, .inl a4, zN]) (st := []) (x := x5) 0 hd0 hz (by rfl) (fun hb6 => ?_) (fun hb6 => ?_)
    · exact j26
    · refine zG_wp (pc := 23) (L := [.inr (.inr (some 8)), .inl a1, .inl a2, .inl a3, .inl a4, zN]) (st := []) 3 hd0 hz zp_178 (qm_178_8 (by first | exact zdk hd rfl | omega) hC  a3 (by first | with_reducible exact ha3 | omega) a4 (by first | with_reducible exact ha4 | omega)) (by rfl) (fun x8 hx8 => ?_)
      refine zG_wf_ne (pc := 23) (n' := 26) (t := 29) (L := [.inr (.inr (some 8)), .inl a1, .inl a2, .inl a3, .inl a4, zN]) (st := []) (x := x8) 0 hd0 hz (by rfl) (fun hb9 => ?_) (fun hb9 => ?_)
      · refine zG_wn (pc := 37) (L := [.inr (.inr (some 8)), .inl a1, .inl a2, .inl a3, .inl a4, zN]) (st := []) 4 hd0 hz zp_179 (qm_179_8 (by first | exact zdk hd rfl | omega) hC  4 (by first | decide | omega) a3 (by first | with_reducible exact ha3 | omega) a4 (by first | with_reducible exact ha4 | omega)) (by rfl) (fun x11 M10 hr hx11 => ?_)
        obtain ⟨hCM10, hFM10⟩ := hr
        have hWM10 : qFr [18, 19] M M10 := hW.tr hFM10 (by decide)
        refine zG_wv (pc := 53) (L := [.inr (.inr (some 8)), .inl a1, .inl a2, .inl a3, .inl a4, .inl x11]) (st := []) 7 hd0 hz zp_107 (qw_set (by first | exact zdk hd rfl | omega) hCM10 (⟨by decide, rfl, rfl⟩ : qT n 18 250 11) x11 (by omega) 4 (by first | decide | omega) a1 (by first | with_reducible exact ha1 | omega)) (by rfl) (fun M12 hr => ?_)
        obtain ⟨hCM12, hFM12⟩ := hr
        have hWM12 : qFr [18, 19] M M12 := hWM10.tr hFM12 (by decide)
        refine zG_wv (pc := 67) (L := [.inr (.inr (some 8)), .inl a1, .inl a2, .inl a3, .inl a4, .inl x11]) (st := []) 6 hd0 hz zp_107 (qw_set (by first | exact zdk hd rfl | omega) hCM12 (⟨by decide, rfl, rfl⟩ : qT n 18 250 11) x11 (by omega) 5 (by first | decide | omega) a2 (by first | with_reducible exact ha2 | omega)) (by rfl) (fun M14 hr => ?_)
        obtain ⟨hCM14, hFM14⟩ := hr
        have hWM14 : qFr [18, 19] M M14 := hWM12.tr hFM14 (by decide)
        exact zG_wr (r := some (.inl x11)) 1 hd0 hz (by rfl) ⟨⟨hCM14, hWM14⟩, _, rfl, by omega⟩
      · exact j26
theorem qm_134_8 {n d : Nat} {M : zM} (hd : 4 ≤ d) (hC : qCI M) (a1 : Int) (ha1 : (-2147483648) ≤ a1 ∧ a1 ≤ 2147483647) (a2 : Int) (ha2 : (-2147483648) ≤ a2 ∧ a2 ≤ 2147483647) (a3 : Int) (ha3 : (-2147483648) ≤ a3 ∧ a3 ≤ 2147483647) : qOkM n d 134 [.inr (.inr (some 8)), .inl a1, .inl a2, .inl a3] 5 qCI [18, 19] M (qRi (fun x => (-4) ≤ x ∧ x ≤ 249)) := by
  have hz := zp_134
  have hd0 : 0 < d := by omega
  have hW : qFr [18, 19] M M := qFr.rfl
  show zG n (0, 0) d 134 (0, [.inr (.inr (some 8)), .inl a1, .inl a2, .inl a3, zN], []) M _
  refine zG_wp (pc := 11) (L := [.inr (.inr (some 8)), .inl a1, .inl a2, .inl a3, zN]) (st := []) 4 hd0 hz zp_102 (qw_has (by first | exact zdk hd rfl | omega) hC (⟨by decide, rfl, rfl⟩ : qT n 18 250 11) a1 (by first | with_reducible exact ha1 | omega)) (by rfl) (fun x2 hx2 => ?_)
  have j23 : zG n (0, 0) d 134 (23, [.inr (.inr (some 8)), .inl a1, .inl a2, .inl a3, zN], []) M (fun v M' => qWf qCI [18, 19] M M' ∧ qRi (fun x => (-4) ≤ x ∧ x ≤ 249) v) := by
    exact zG_wr (r := some (.inl (-2))) 1 hd0 hz (by rfl) ⟨⟨hC, hW⟩, _, rfl, by omega⟩
  refine zG_wf_eq (pc := 11) (n' := 14) (t := 23) (L := [.inr (.inr (some 8)), .inl a1, .inl a2, .inl a3, zN]) (st := []) (x := x2) 0 hd0 hz (by rfl) (fun hb3 => ?_) (fun hb3 => ?_)
  · exact j23
  · refine zG_wp (pc := 20) (L := [.inr (.inr (some 8)), .inl a1, .inl a2, .inl a3, zN]) (st := []) 3 hd0 hz zp_178 (qm_178_8 (by first | exact zdk hd rfl | omega) hC  a2 (by first | with_reducible exact ha2 | omega) a3 (by first | with_reducible exact ha3 | omega)) (by rfl) (fun x5 hx5 => ?_)
    refine zG_wf_ne (pc := 20) (n' := 23) (t := 26) (L := [.inr (.inr (some 8)), .inl a1, .inl a2, .inl a3, zN]) (st := []) (x := x5) 0 hd0 hz (by rfl) (fun hb6 => ?_) (fun hb6 => ?_)
    · refine zG_wn (pc := 33) (L := [.inr (.inr (some 8)), .inl a1, .inl a2, .inl a3, zN]) (st := []) 4 hd0 hz zp_179 (qm_179_8 (by first | exact zdk hd rfl | omega) hC  5 (by first | decide | omega) a2 (by first | with_reducible exact ha2 | omega) a3 (by first | with_reducible exact ha3 | omega)) (by rfl) (fun x8 M7 hr hx8 => ?_)
      obtain ⟨hCM7, hFM7⟩ := hr
      have hWM7 : qFr [18, 19] M M7 := hW.tr hFM7 (by decide)
      refine zG_wv (pc := 50) (L := [.inr (.inr (some 8)), .inl a1, .inl a2, .inl a3, .inl x8]) (st := []) 7 hd0 hz zp_107 (qw_set (by first | exact zdk hd rfl | omega) hCM7 (⟨by decide, rfl, rfl⟩ : qT n 18 250 11) x8 (by omega) 6 (by first | decide | omega) a1 (by first | with_reducible exact ha1 | omega)) (by rfl) (fun M9 hr => ?_)
      obtain ⟨hCM9, hFM9⟩ := hr
      have hWM9 : qFr [18, 19] M M9 := hWM7.tr hFM9 (by decide)
      exact zG_wr (r := some (.inl x8)) 1 hd0 hz (by rfl) ⟨⟨hCM9, hWM9⟩, _, rfl, by omega⟩
    · exact j23
theorem qm_135_8 {n d : Nat} {M : zM} (hd : 4 ≤ d) (hC : qCI M) (a1 : Int) (ha1 : (-2147483648) ≤ a1 ∧ a1 ≤ 2147483647) (a2 : Int) (ha2 : (-2147483648) ≤ a2 ∧ a2 ≤ 2147483647) (a3 : Int) (ha3 : (-2147483648) ≤ a3 ∧ a3 ≤ 2147483647) : qOkM n d 135 [.inr (.inr (some 8)), .inl a1, .inl a2, .inl a3] 5 qCI [18, 19] M (qRi (fun x => (-4) ≤ x ∧ x ≤ 249)) := by
  have hz := zp_135
  have hd0 : 0 < d := by omega
  have hW : qFr [18, 19] M M := qFr.rfl
  show zG n (0, 0) d 135 (0, [.inr (.inr (some 8)), .inl a1, .inl a2, .inl a3, zN], []) M _
  refine zG_wp (pc := 5) (L := [.inr (.inr (some 8)), .inl a1, .inl a2, .inl a3, zN]) (st := []) 2 hd0 hz zp_174 (qm_174_8 (by first | exact zdk hd rfl | omega) hC  a1 (by first | with_reducible exact ha1 | omega)) (by rfl) (fun x2 hx2 => ?_)
  have j17 : zG n (0, 0) d 135 (17, [.inr (.inr (some 8)), .inl a1, .inl a2, .inl a3, zN], []) M (fun v M' => qWf qCI [18, 19] M M' ∧ qRi (fun x => (-4) ≤ x ∧ x ≤ 249) v) := by
    exact zG_wr (r := some (.inl (-2))) 1 hd0 hz (by rfl) ⟨⟨hC, hW⟩, _, rfl, by omega⟩
  refine zG_wf_eq (pc := 5) (n' := 8) (t := 17) (L := [.inr (.inr (some 8)), .inl a1, .inl a2, .inl a3, zN]) (st := []) (x := x2) 0 hd0 hz (by rfl) (fun hb3 => ?_) (fun hb3 => ?_)
  · exact j17
  · refine zG_wp (pc := 14) (L := [.inr (.inr (some 8)), .inl a1, .inl a2, .inl a3, zN]) (st := []) 3 hd0 hz zp_178 (qm_178_8 (by first | exact zdk hd rfl | omega) hC  a2 (by first | with_reducible exact ha2 | omega) a3 (by first | with_reducible exact ha3 | omega)) (by rfl) (fun x5 hx5 => ?_)
    refine zG_wf_ne (pc := 14) (n' := 17) (t := 20) (L := [.inr (.inr (some 8)), .inl a1, .inl a2, .inl a3, zN]) (st := []) (x := x5) 0 hd0 hz (by rfl) (fun hb6 => ?_) (fun hb6 => ?_)
    · refine zG_wn (pc := 28) (L := [.inr (.inr (some 8)), .inl a1, .inl a2, .inl a3, zN]) (st := []) 4 hd0 hz zp_179 (qm_179_8 (by first | exact zdk hd rfl | omega) hC  6 (by first | decide | omega) a2 (by first | with_reducible exact ha2 | omega) a3 (by first | with_reducible exact ha3 | omega)) (by rfl) (fun x8 M7 hr hx8 => ?_)
      obtain ⟨hCM7, hFM7⟩ := hr
      have hWM7 : qFr [18, 19] M M7 := hW.tr hFM7 (by decide)
      refine zG_wv (pc := 44) (L := [.inr (.inr (some 8)), .inl a1, .inl a2, .inl a3, .inl x8]) (st := []) 7 hd0 hz zp_107 (qw_set (by first | exact zdk hd rfl | omega) hCM7 (⟨by decide, rfl, rfl⟩ : qT n 18 250 11) x8 (by omega) 4 (by first | decide | omega) a1 (by first | with_reducible exact ha1 | omega)) (by rfl) (fun M9 hr => ?_)
      obtain ⟨hCM9, hFM9⟩ := hr
      have hWM9 : qFr [18, 19] M M9 := hWM7.tr hFM9 (by decide)
      exact zG_wr (r := some (.inl x8)) 1 hd0 hz (by rfl) ⟨⟨hCM9, hWM9⟩, _, rfl, by omega⟩
    · exact j17
theorem qm_136_8 {n d : Nat} {M : zM} (hd : 3 ≤ d) (hC : qCI M) (a1 : Int) (ha1 : (-2147483648) ≤ a1 ∧ a1 ≤ 2147483647) (a2 : Int) (ha2 : (-2147483648) ≤ a2 ∧ a2 ≤ 2147483647) : qOkM n d 136 [.inr (.inr (some 8)), .inl a1, .inl a2] 5 qCI [18, 19] M (qRi (fun x => (-4) ≤ x ∧ x ≤ 249)) := by
  have hz := zp_136
  have hd0 : 0 < d := by omega
  have hW : qFr [18, 19] M M := qFr.rfl
  show zG n (0, 0) d 136 (0, [.inr (.inr (some 8)), .inl a1, .inl a2, zN, zN], []) M _
  refine zG_wp (pc := 11) (L := [.inr (.inr (some 8)), .inl a1, .inl a2, zN, zN]) (st := []) 4 hd0 hz zp_102 (qw_has (by first | exact zdk hd rfl | omega) hC (⟨by decide, rfl, rfl⟩ : qT n 18 250 11) a1 (by first | with_reducible exact ha1 | omega)) (by rfl) (fun x2 hx2 => ?_)
  have j21 : zG n (0, 0) d 136 (21, [.inr (.inr (some 8)), .inl a1, .inl a2, zN, zN], []) M (fun v M' => qWf qCI [18, 19] M M' ∧ qRi (fun x => (-4) ≤ x ∧ x ≤ 249) v) := by
    exact zG_wr (r := some (.inl (-2))) 1 hd0 hz (by rfl) ⟨⟨hC, hW⟩, _, rfl, by omega⟩
  refine zG_wf_eq (pc := 11) (n' := 14) (t := 21) (L := [.inr (.inr (some 8)), .inl a1, .inl a2, zN, zN]) (st := []) (x := x2) 0 hd0 hz (by rfl) (fun hb3 => ?_) (fun hb3 => ?_)
  · exact j21
  · refine zG_wp (pc := 18) (L := [.inr (.inr (some 8)), .inl a1, .inl a2, zN, zN]) (st := []) 1 hd0 hz zp_170 (qm_170 (by first | exact zdk hd rfl | omega) hC  a2 (by first | with_reducible exact ha2 | omega)) (by rfl) (fun x5 hx5 => ?_)
    refine zG_wf_ne (pc := 18) (n' := 21) (t := 24) (L := [.inr (.inr (some 8)), .inl a1, .inl a2, zN, zN]) (st := []) (x := x5) 0 hd0 hz (by rfl) (fun hb6 => ?_) (fun hb6 => ?_)
    · refine zG_wp (pc := 36) (L := [.inr (.inr (some 8)), .inl a1, .inl a2, zN, zN]) (st := []) 5 hd0 hz zp_106 (qw_get (by first | exact zdk hd rfl | omega) hC (⟨by decide, rfl, rfl⟩ : qT n 18 250 11) a1 (by first | with_reducible exact ha1 | omega) 1 (by first | decide | omega)) (by rfl) (fun x8 hx8 => ?_)
      refine zG_wp (pc := 49) (L := [.inr (.inr (some 8)), .inl a1, .inl a2, .inl x8, zN]) (st := []) 6 hd0 hz zp_106 (qw_get (by first | exact zdk hd rfl | omega) hC (⟨by decide, rfl, rfl⟩ : qT n 18 250 11) a1 (by first | with_reducible exact ha1 | omega) 3 (by first | decide | omega)) (by rfl) (fun x10 hx10 => ?_)
      refine zG_w (c' := (50, [.inr (.inr (some 8)), .inl a1, .inl a2, .inl x8, zN], [.inl (-1), .inl x10])) 1 hd0 hz (by rfl) ?_
      have j70 : zG n (0, 0) d 136 (70, [.inr (.inr (some 8)), .inl a1, .inl a2, .inl x8, zN], []) M (fun v M' => qWf qCI [18, 19] M M' ∧ qRi (fun x => (-4) ≤ x ∧ x ≤ 249) v) := by
        exact zG_wr (r := some (.inl (-3))) 1 hd0 hz (by rfl) ⟨⟨hC, hW⟩, _, rfl, by omega⟩
      refine zG_wi_eq (pc := 50) (n' := 53) (t := 70) (L := [.inr (.inr (some 8)), .inl a1, .inl a2, .inl x8, zN]) (st := []) (x := x10) (y := (-1)) 0 hd0 hz (by rfl) (fun hb11 => ?_) (fun hb11 => ?_)
      · exact j70
      · have r12 := hC.rng 9 8 (by decide) (by decide)
        obtain ⟨x13, hx13⟩ : ∃ x : Int, x = w32 (x8 + (M 9 8)) := ⟨_, rfl⟩
        have hx13r : x13 = (x8 + (M 9 8) + 2147483648) % 4294967296 - 2147483648 := hx13
        refine zG_wp (pc := 67) (L := [.inr (.inr (some 8)), .inl a1, .inl a2, .inl x8, zN]) (st := []) 7 hd0 hz zp_169 (qm_169 (by first | exact zdk hd rfl | omega) hC  a2 (by first | with_reducible exact ha2 | omega) x8 (by omega) x13 (by omega)) (by subst hx13; rfl) (fun x15 hx15 => ?_)
        refine zG_wf_ne (pc := 67) (n' := 70) (t := 73) (L := [.inr (.inr (some 8)), .inl a1, .inl a2, .inl x8, zN]) (st := []) (x := x15) 0 hd0 hz (by rfl) (fun hb16 => ?_) (fun hb16 => ?_)
        · refine zG_wn (pc := 84) (L := [.inr (.inr (some 8)), .inl a1, .inl a2, .inl x8, zN]) (st := []) 6 hd0 hz zp_18 (qm_18_9 (by first | exact zdk hd rfl | omega) hC  5 (by first | decide | omega) a2 (by first | with_reducible exact ha2 | omega) a2 (by first | with_reducible exact ha2 | omega) (-1) (by first | decide | omega)) (by rfl) (fun x18 M17 hr hx18 => ?_)
          obtain ⟨hCM17, hFM17⟩ := hr
          have hWM17 : qFr [18, 19] M M17 := hW.tr hFM17 (by decide)
          have e19 : M17 9 8 = M 9 8 := hFM17 9 8 (by decide)
          refine zG_wv (pc := 101) (L := [.inr (.inr (some 8)), .inl a1, .inl a2, .inl x8, .inl x18]) (st := []) 7 hd0 hz zp_107 (qw_set (by first | exact zdk hd rfl | omega) hCM17 (⟨by decide, rfl, rfl⟩ : qT n 18 250 11) x18 (by omega) 6 (by first | decide | omega) a1 (by first | with_reducible exact ha1 | omega)) (by rfl) (fun M20 hr => ?_)
          obtain ⟨hCM20, hFM20⟩ := hr
          have hWM20 : qFr [18, 19] M M20 := hWM17.tr hFM20 (by decide)
          have e22 : M20 9 8 = M17 9 8 := hFM20 9 8 (by decide)
          exact zG_wr (r := some (.inl x18)) 1 hd0 hz (by rfl) ⟨⟨hCM20, hWM20⟩, _, rfl, by omega⟩
        · exact j70
    · exact j21
theorem qm_137_8 {n d : Nat} {M : zM} (hd : 2 ≤ d) (hC : qCI M) (a1 : Int) (ha1 : (-2147483648) ≤ a1 ∧ a1 ≤ 2147483647) : qOkM n d 137 [.inr (.inr (some 8)), .inl a1] 3 qCI [9] M (qRi (fun x => (-2147483648) ≤ x ∧ x ≤ 2147483647)) := by
  have hz := zp_137
  have hd0 : 0 < d := by omega
  have hW : qFr [9] M M := qFr.rfl
  show zG n (0, 0) d 137 (0, [.inr (.inr (some 8)), .inl a1, zN], []) M _
  refine zG_wp (pc := 8) (L := [.inr (.inr (some 8)), .inl a1, zN]) (st := []) 3 hd0 hz zp_169 (qm_169 (by first | exact zdk hd rfl | omega) hC  a1 (by first | with_reducible exact ha1 | omega) 0 (by first | decide | omega) 1000 (by first | decide | omega)) (by rfl) (fun x2 hx2 => ?_)
  refine zG_wf_ne (pc := 8) (n' := 11) (t := 14) (L := [.inr (.inr (some 8)), .inl a1, zN]) (st := []) (x := x2) 0 hd0 hz (by rfl) (fun hb3 => ?_) (fun hb3 => ?_)
  · have r4 := hC.rng 9 8 (by decide) (by decide)
    refine zG_w (c' := (27, [.inr (.inr (some 8)), .inl a1, .inl (M 9 8)], [.inl a1, .inr (.inr (some 9))])) 7 hd0 hz (by rfl) ?_
    refine zG_putf (.inl rfl) hd0 hz rfl (by decide) rfl rfl ?_
    obtain ⟨M5, hM5⟩ : ∃ X : zM, X = zput M 9 8 a1 := ⟨_, rfl⟩
    rw [← hM5]
    have hCM5 : qCI M5 := by rw [hM5]; exact hC.put (r := 9) (k := 8) rfl (.inl (by omega))
    have hWM5 : qFr [9] M M5 := by rw [hM5]; exact hW.put (by decide)
    have e6 : M5 9 8 = a1 := by rw [hM5]; exact qput_eq
    show zG n (0, 0) d 137 (30, [.inr (.inr (some 8)), .inl a1, .inl (M 9 8)], []) M5 _
    exact zG_wr (r := some (.inl (M 9 8))) 1 hd0 hz (by rfl) ⟨⟨hCM5, hWM5⟩, _, rfl, by omega⟩
  · exact zG_wr (r := some (.inl (-2))) 1 hd0 hz (by rfl) ⟨⟨hC, hW⟩, _, rfl, by omega⟩
theorem qm_138_8 {n d : Nat} {M : zM} (hd : 2 ≤ d) (hC : qCI M) (a1 : Int) (ha1 : (-2147483648) ≤ a1 ∧ a1 ≤ 2147483647) (a2 : Int) (ha2 : (-2147483648) ≤ a2 ∧ a2 ≤ 2147483647) : qOkP n d 138 [.inr (.inr (some 8)), .inl a1, .inl a2] 3 M (qRi (fun x => (-2147483648) ≤ x ∧ x ≤ 2147483647)) := by
  have hz := zp_138
  have hd0 : 0 < d := by omega
  show zG n (0, 0) d 138 (0, [.inr (.inr (some 8)), .inl a1, .inl a2], []) M _
  refine zG_wp (pc := 11) (L := [.inr (.inr (some 8)), .inl a1, .inl a2]) (st := []) 4 hd0 hz zp_102 (qw_has (by first | exact zdk hd rfl | omega) hC (⟨by decide, rfl, rfl⟩ : qT n 18 250 11) a1 (by first | with_reducible exact ha1 | omega)) (by rfl) (fun x2 hx2 => ?_)
  have j41 : ∀ (v3 : Int) , (-2147483648) ≤ v3 ∧ v3 ≤ 2147483647 → zG n (0, 0) d 138 (41, [.inr (.inr (some 8)), .inl a1, .inl a2], [.inl v3]) M (fun v M' => M' = M ∧ qRi (fun x => (-2147483648) ≤ x ∧ x ≤ 2147483647) v) := by
    intro v3 hv3
    exact zG_wr (r := some (.inl v3)) 0 hd0 hz (by rfl) ⟨rfl, _, rfl, by omega⟩
  have j39 : zG n (0, 0) d 138 (39, [.inr (.inr (some 8)), .inl a1, .inl a2], []) M (fun v M' => M' = M ∧ qRi (fun x => (-2147483648) ≤ x ∧ x ≤ 2147483647) v) := by
    refine zG_w (c' := (41, [.inr (.inr (some 8)), .inl a1, .inl a2], [.inl (-2)])) 1 hd0 hz (by rfl) ?_
    exact j41 (-2) (by first | decide | omega)
  refine zG_wf_eq (pc := 11) (n' := 14) (t := 39) (L := [.inr (.inr (some 8)), .inl a1, .inl a2]) (st := []) (x := x2) 0 hd0 hz (by rfl) (fun hb4 => ?_) (fun hb4 => ?_)
  · exact j39
  · refine zG_wp (pc := 21) (L := [.inr (.inr (some 8)), .inl a1, .inl a2]) (st := []) 3 hd0 hz zp_169 (qm_169 (by first | exact zdk hd rfl | omega) hC  a2 (by first | with_reducible exact ha2 | omega) 0 (by first | decide | omega) 7 (by first | decide | omega)) (by rfl) (fun x6 hx6 => ?_)
    refine zG_wf_eq (pc := 21) (n' := 24) (t := 39) (L := [.inr (.inr (some 8)), .inl a1, .inl a2]) (st := []) (x := x6) 0 hd0 hz (by rfl) (fun hb7 => ?_) (fun hb7 => ?_)
    · exact j39
    · refine zG_wp (pc := 36) (L := [.inr (.inr (some 8)), .inl a1, .inl a2]) (st := []) 5 hd0 hz zp_106 (qw_get (by first | exact zdk hd rfl | omega) hC (⟨by decide, rfl, rfl⟩ : qT n 18 250 11) a1 (by first | with_reducible exact ha1 | omega) a2 (by first | with_reducible exact ha2 | omega)) (by rfl) (fun x9 hx9 => ?_)
      refine zG_w (c' := (41, [.inr (.inr (some 8)), .inl a1, .inl a2], [.inl x9])) 1 hd0 hz (by rfl) ?_
      exact j41 x9 (by omega)
theorem qm_48_60 {n d : Nat} {M : zM} (hd : 3 ≤ d) (hC : qCI M) (a1 : Int) (ha1 : (-2147483648) ≤ a1 ∧ a1 ≤ 2147483647) (a2 : Int) (ha2 : (-2147483648) ≤ a2 ∧ a2 ≤ 2147483647) : qOkM n d 48 [.inr (.inr (some 60)), .inl a1, .inl a2] 7 qCI [62] M qRn := by
  have hz := zp_48
  have hd0 : 0 < d := by omega
  have hW : qFr [62] M M := qFr.rfl
  show zG n (0, 0) d 48 (0, [.inr (.inr (some 60)), .inl a1, .inl a2, zN, zN, zN, zN], []) M _
  refine zG_wp (pc := 16) (L := [.inr (.inr (some 60)), .inl a1, .inl a2, zN, zN, zN, zN]) (st := [.inl (-1), .inl 1, .inr (.inr (some 61))]) 7 hd0 hz zp_101 (qw_size (by first | exact zdk hd rfl | omega) hC (⟨by decide, rfl, rfl⟩ : qT n 18 250 11) ) (by rfl) (fun x2 hx2 => ?_)
  refine zG_wv (pc := 19) (L := [.inr (.inr (some 60)), .inl a1, .inl a2, zN, zN, zN, zN]) (st := []) 0 hd0 hz zp_109 (qw_fillColumn (by first | exact zdk hd rfl | omega) hC (⟨by decide, rfl, rfl⟩ : qT n 61 250 4) 1 (by first | decide | omega) (-1) (by first | decide | omega) x2 (by omega)) (by rfl) (fun M3 hr => ?_)
  obtain ⟨hCM3, hFM3⟩ := hr
  have hWM3 : qFr [62] M M3 := hW.tr hFM3 (by decide)
  refine zG_wp (pc := 29) (L := [.inr (.inr (some 60)), .inl a1, .inl a2, zN, zN, zN, zN]) (st := []) 3 hd0 hz zp_101 (qw_size (by first | exact zdk hd rfl | omega) hCM3 (⟨by decide, rfl, rfl⟩ : qT n 18 250 11) ) (by rfl) (fun x6 hx6 => ?_)
  obtain ⟨x7, hx7⟩ : ∃ x : Int, x = w32 (x6 - 1) := ⟨_, rfl⟩
  have hx7e : x7 = x6 - 1 := by rw [hx7]; exact w32_id (by omega)
  refine zG_w (c' := (32, [.inr (.inr (some 60)), .inl a1, .inl a2, .inl x7, zN, zN, zN], [])) 3 hd0 hz (by subst hx7; rfl) ?_
  have j32 : ∀ (N : Nat) (v8 : Int) (M9 : zM) , (v8 + 1 : Int).toNat < N → (-1) ≤ v8 ∧ v8 ≤ 249 → qCI M9 → qFr [62] M M9 → zG n (0, 0) d 48 (32, [.inr (.inr (some 60)), .inl a1, .inl a2, .inl v8, zN, zN, zN], []) M9 (fun v M' => qWf qCI [62] M M' ∧ qRn v) := by
    intro N
    induction N with
    | zero => intro v8 M9 hN hv8 hCM9 hWM9; exact absurd hN (Nat.not_lt_zero _)
    | succ N ih32 =>
      intro v8 M9 hN hv8 hCM9 hWM9
      replace hN : v8 + 1 < (N : Int) + 1 := by omega
      refine zG_wf_lt (pc := 33) (n' := 36) (t := 190) (L := [.inr (.inr (some 60)), .inl a1, .inl a2, .inl v8, zN, zN, zN]) (st := []) (x := v8) 1 hd0 hz (by rfl) (fun hb10 => ?_) (fun hb10 => ?_)
      · exact zG_ret hd0 hz rfl rfl ⟨⟨hCM9, hWM9⟩, rfl⟩
      · refine zG_wp (pc := 48) (L := [.inr (.inr (some 60)), .inl a1, .inl a2, .inl v8, zN, zN, zN]) (st := []) 5 hd0 hz zp_106 (qw_get (by first | exact zdk hd rfl | omega) hCM9 (⟨by decide, rfl, rfl⟩ : qT n 18 250 11) v8 (by first | with_reducible exact hv8 | omega) 3 (by first | decide | omega)) (by rfl) (fun x12 hx12 => ?_)
        refine zG_w (c' := (53, [.inr (.inr (some 60)), .inl a1, .inl a2, .inl v8, .inl x12, zN, zN], [.inl (-1), .inl x12])) 3 hd0 hz (by rfl) ?_
        have j79 : ∀ (v13 : Int) , 0 ≤ v13 ∧ v13 ≤ 1 → zG n (0, 0) d 48 (79, [.inr (.inr (some 60)), .inl a1, .inl a2, .inl v8, .inl x12, zN, zN], [.inl v13]) M9 (fun v M' => qWf qCI [62] M M' ∧ qRn v) := by
          intro v13 hv13
          refine zG_w (c' := (83, [.inr (.inr (some 60)), .inl a1, .inl a2, .inl v8, .inl x12, .inl v13, zN], [.inl v13])) 2 hd0 hz (by rfl) ?_
          have j120 : ∀ (v14 : Int) , 0 ≤ v14 ∧ v14 ≤ 1 → zG n (0, 0) d 48 (120, [.inr (.inr (some 60)), .inl a1, .inl a2, .inl v8, .inl x12, .inl v13, zN], [.inl v14]) M9 (fun v M' => qWf qCI [62] M M' ∧ qRn v) := by
            intro v14 hv14
            refine zG_w (c' := (130, [.inr (.inr (some 60)), .inl a1, .inl a2, .inl v8, .inl x12, .inl v13, .inl v14], [.inl v14, .inl 0, .inl v8, .inr (.inr (some 61))])) 6 hd0 hz (by rfl) ?_
            have j138 : ∀ (v15 v16 v17 : Int) , 0 ≤ v15 ∧ v15 ≤ 249 → 0 ≤ v16 ∧ v16 ≤ 0 → 0 ≤ v17 ∧ v17 ≤ 1 → zG n (0, 0) d 48 (138, [.inr (.inr (some 60)), .inl a1, .inl a2, .inl v8, .inl x12, .inl v13, .inl v14], [.inl v17, .inl v16, .inl v15, .inr (.inr (some 61))]) M9 (fun v M' => qWf qCI [62] M M' ∧ qRn v) := by
              intro v15 v16 v17 hv15 hv16 hv17
              refine zG_wv (pc := 141) (L := [.inr (.inr (some 60)), .inl a1, .inl a2, .inl v8, .inl x12, .inl v13, .inl v14]) (st := []) 0 hd0 hz zp_107 (qw_set (by first | exact zdk hd rfl | omega) hCM9 (⟨by decide, rfl, rfl⟩ : qT n 61 250 4) v15 (by first | with_reducible exact hv15 | omega) v16 (by first | with_reducible exact hv16 | omega) v17 (by first | with_reducible exact hv17 | omega)) (by rfl) (fun M18 hr => ?_)
              obtain ⟨hCM18, hFM18⟩ := hr
              have hWM18 : qFr [62] M M18 := hWM9.tr hFM18 (by decide)
              refine zG_w (c' := (143, [.inr (.inr (some 60)), .inl a1, .inl a2, .inl v8, .inl x12, .inl v13, .inl v14], [.inl v14])) 1 hd0 hz (by rfl) ?_
              have j184 : ∀ (M20 : zM) , qCI M20 → qFr [62] M M20 → zG n (0, 0) d 48 (184, [.inr (.inr (some 60)), .inl a1, .inl a2, .inl v8, .inl x12, .inl v13, .inl v14], []) M20 (fun v M' => qWf qCI [62] M M' ∧ qRn v) := by
                intro M20 hCM20 hWM20
                obtain ⟨x21, hx21⟩ : ∃ x : Int, x = w32 (v8 + (-1)) := ⟨_, rfl⟩
                have hx21e : x21 = v8 + (-1) := by rw [hx21]; exact w32_id (by omega)
                refine zG_w (c' := (32, [.inr (.inr (some 60)), .inl a1, .inl a2, .inl x21, .inl x12, .inl v13, .inl v14], [])) 2 hd0 hz (by subst hx21; rfl) ?_
                exact zG_weak (ih32 x21 M20 (by omega) (by omega) hCM20 hWM20) ⟨.inr rfl, .inr rfl, .inr rfl, .inr rfl, .inl rfl, .inl rfl, .inl rfl, trivial⟩
              refine zG_wf_eq (pc := 143) (n' := 146) (t := 184) (L := [.inr (.inr (some 60)), .inl a1, .inl a2, .inl v8, .inl x12, .inl v13, .inl v14]) (st := []) (x := v14) 0 hd0 hz (by rfl) (fun hb22 => ?_) (fun hb22 => ?_)
              · exact j184 M18 hCM18 hWM18
              · refine zG_wp (pc := 158) (L := [.inr (.inr (some 60)), .inl a1, .inl a2, .inl v8, .inl x12, .inl v13, .inl v14]) (st := []) 5 hd0 hz zp_106 (qw_get (by first | exact zdk hd rfl | omega) hCM18 (⟨by decide, rfl, rfl⟩ : qT n 18 250 11) v8 (by first | with_reducible exact hv8 | omega) 0 (by first | decide | omega)) (by rfl) (fun x24 hx24 => ?_)
                refine zG_wi_ne (pc := 159) (n' := 162) (t := 184) (L := [.inr (.inr (some 60)), .inl a1, .inl a2, .inl v8, .inl x12, .inl v13, .inl v14]) (st := []) (x := x24) (y := 5) 1 hd0 hz (by rfl) (fun hb25 => ?_) (fun hb25 => ?_)
                · exact j184 M18 hCM18 hWM18
                · refine zG_wp (pc := 179) (L := [.inr (.inr (some 60)), .inl a1, .inl a2, .inl v8, .inl x12, .inl v13, .inl v14]) (st := [.inr (.inr (some 61))]) 7 hd0 hz zp_106 (qw_get (by first | exact zdk hd rfl | omega) hCM18 (⟨by decide, rfl, rfl⟩ : qT n 18 250 11) v8 (by first | with_reducible exact hv8 | omega) 6 (by first | decide | omega)) (by rfl) (fun x27 hx27 => ?_)
                  refine zG_wv (pc := 184) (L := [.inr (.inr (some 60)), .inl a1, .inl a2, .inl v8, .inl x12, .inl v13, .inl v14]) (st := []) 2 hd0 hz zp_107 (qw_set (by first | exact zdk hd rfl | omega) hCM18 (⟨by decide, rfl, rfl⟩ : qT n 61 250 4) x27 (by omega) 1 (by first | decide | omega) v8 (by first | with_reducible exact hv8 | omega)) (by rfl) (fun M28 hr => ?_)
                  obtain ⟨hCM28, hFM28⟩ := hr
                  have hWM28 : qFr [62] M M28 := hWM18.tr hFM28 (by decide)
                  exact j184 M28 hCM28 hWM28
            refine zG_wf_eq (pc := 130) (n' := 133) (t := 137) (L := [.inr (.inr (some 60)), .inl a1, .inl a2, .inl v8, .inl x12, .inl v13, .inl v14]) (st := [.inl 0, .inl v8, .inr (.inr (some 61))]) (x := v14) 0 hd0 hz (by rfl) (fun hb30 => ?_) (fun hb30 => ?_)
            · refine zG_w (c' := (138, [.inr (.inr (some 60)), .inl a1, .inl a2, .inl v8, .inl x12, .inl v13, .inl v14], [.inl 0, .inl 0, .inl v8, .inr (.inr (some 61))])) 1 hd0 hz (by rfl) ?_
              exact j138 v8 0 0 (by first | decide | omega) (by omega) (by omega)
            · refine zG_w (c' := (138, [.inr (.inr (some 60)), .inl a1, .inl a2, .inl v8, .inl x12, .inl v13, .inl v14], [.inl 1, .inl 0, .inl v8, .inr (.inr (some 61))])) 2 hd0 hz (by rfl) ?_
              exact j138 v8 0 1 (by first | decide | omega) (by omega) (by omega)
          have j119 : zG n (0, 0) d 48 (119, [.inr (.inr (some 60)), .inl a1, .inl a2, .inl v8, .inl x12, .inl v13, zN], []) M9 (fun v M' => qWf qCI [62] M M' ∧ qRn v) := by
            refine zG_w (c' := (120, [.inr (.inr (some 60)), .inl a1, .inl a2, .inl v8, .inl x12, .inl v13, zN], [.inl 0])) 1 hd0 hz (by rfl) ?_
            exact j120 0 (by first | decide | omega)
          refine zG_wf_eq (pc := 83) (n' := 86) (t := 119) (L := [.inr (.inr (some 60)), .inl a1, .inl a2, .inl v8, .inl x12, .inl v13, zN]) (st := []) (x := v13) 0 hd0 hz (by rfl) (fun hb31 => ?_) (fun hb31 => ?_)
          · exact j119
          · refine zG_wp (pc := 98) (L := [.inr (.inr (some 60)), .inl a1, .inl a2, .inl v8, .inl x12, .inl v13, zN]) (st := []) 5 hd0 hz zp_106 (qw_get (by first | exact zdk hd rfl | omega) hCM9 (⟨by decide, rfl, rfl⟩ : qT n 18 250 11) v8 (by first | with_reducible exact hv8 | omega) 2 (by first | decide | omega)) (by rfl) (fun x33 hx33 => ?_)
            refine zG_wi_gt (pc := 99) (n' := 102) (t := 119) (L := [.inr (.inr (some 60)), .inl a1, .inl a2, .inl v8, .inl x12, .inl v13, zN]) (st := []) (x := x33) (y := a1) 1 hd0 hz (by rfl) (fun hb34 => ?_) (fun hb34 => ?_)
            · exact j119
            · refine zG_wp (pc := 111) (L := [.inr (.inr (some 60)), .inl a1, .inl a2, .inl v8, .inl x12, .inl v13, zN]) (st := []) 4 hd0 hz zp_106 (qw_get (by first | exact zdk hd rfl | omega) hCM9 (⟨by decide, rfl, rfl⟩ : qT n 61 250 4) v8 (by first | with_reducible exact hv8 | omega) 1 (by first | decide | omega)) (by rfl) (fun x36 hx36 => ?_)
              refine zG_wi_ne (pc := 112) (n' := 115) (t := 119) (L := [.inr (.inr (some 60)), .inl a1, .inl a2, .inl v8, .inl x12, .inl v13, zN]) (st := []) (x := x36) (y := (-1)) 1 hd0 hz (by rfl) (fun hb37 => ?_) (fun hb37 => ?_)
              · exact j119
              · refine zG_w (c' := (120, [.inr (.inr (some 60)), .inl a1, .inl a2, .inl v8, .inl x12, .inl v13, zN], [.inl 1])) 2 hd0 hz (by rfl) ?_
                exact j120 1 (by first | decide | omega)
        have j74 : zG n (0, 0) d 48 (74, [.inr (.inr (some 60)), .inl a1, .inl a2, .inl v8, .inl x12, zN, zN], []) M9 (fun v M' => qWf qCI [62] M M' ∧ qRn v) := by
          refine zG_w (c' := (79, [.inr (.inr (some 60)), .inl a1, .inl a2, .inl v8, .inl x12, zN, zN], [.inl 1])) 2 hd0 hz (by rfl) ?_
          exact j79 1 (by first | decide | omega)
        refine zG_wi_eq (pc := 53) (n' := 56) (t := 74) (L := [.inr (.inr (some 60)), .inl a1, .inl a2, .inl v8, .inl x12, zN, zN]) (st := []) (x := x12) (y := (-1)) 0 hd0 hz (by rfl) (fun hb38 => ?_) (fun hb38 => ?_)
        · exact j74
        · refine zG_w (c' := (59, [.inr (.inr (some 60)), .inl a1, .inl a2, .inl v8, .inl x12, zN, zN], [.inl a2, .inl x12])) 2 hd0 hz (by rfl) ?_
          have j78 : zG n (0, 0) d 48 (78, [.inr (.inr (some 60)), .inl a1, .inl a2, .inl v8, .inl x12, zN, zN], []) M9 (fun v M' => qWf qCI [62] M M' ∧ qRn v) := by
            refine zG_w (c' := (79, [.inr (.inr (some 60)), .inl a1, .inl a2, .inl v8, .inl x12, zN, zN], [.inl 0])) 1 hd0 hz (by rfl) ?_
            exact j79 0 (by first | decide | omega)
          refine zG_wi_eq (pc := 59) (n' := 62) (t := 78) (L := [.inr (.inr (some 60)), .inl a1, .inl a2, .inl v8, .inl x12, zN, zN]) (st := []) (x := x12) (y := a2) 0 hd0 hz (by rfl) (fun hb39 => ?_) (fun hb39 => ?_)
          · exact j78
          · refine zG_wp (pc := 71) (L := [.inr (.inr (some 60)), .inl a1, .inl a2, .inl v8, .inl x12, zN, zN]) (st := []) 3 hd0 hz zp_20 (qm_20_9 (by first | exact zdk hd rfl | omega) hCM9  x12 (by omega)) (by rfl) (fun x41 hx41 => ?_)
            refine zG_wf_eq (pc := 71) (n' := 74) (t := 78) (L := [.inr (.inr (some 60)), .inl a1, .inl a2, .inl v8, .inl x12, zN, zN]) (st := []) (x := x41) 0 hd0 hz (by rfl) (fun hb42 => ?_) (fun hb42 => ?_)
            · exact j78
            · exact j74
  exact j32 ((x7 + 1 : Int).toNat + 1) x7 M3 (by omega) (by omega) hCM3 hWM3
theorem qm_42_60 {n d : Nat} {M : zM} (hd : 2 ≤ d) (hC : qCI M) (a1 : Int) (ha1 : (-2147483648) ≤ a1 ∧ a1 ≤ 2147483647) : qOkP n d 42 [.inr (.inr (some 60)), .inl a1] 2 M (qRi (fun x => 0 ≤ x ∧ x ≤ 1)) := by
  have hz := zp_42
  have hd0 : 0 < d := by omega
  show zG n (0, 0) d 42 (0, [.inr (.inr (some 60)), .inl a1], []) M _
  refine zG_wp (pc := 9) (L := [.inr (.inr (some 60)), .inl a1]) (st := []) 4 hd0 hz zp_106 (qw_get (by first | exact zdk hd rfl | omega) hC (⟨by decide, rfl, rfl⟩ : qT n 61 250 4) a1 (by first | with_reducible exact ha1 | omega) 0 (by first | decide | omega)) (by rfl) (fun x2 hx2 => ?_)
  refine zG_w (c' := (10, [.inr (.inr (some 60)), .inl a1], [.inl 1, .inl x2])) 1 hd0 hz (by rfl) ?_
  have j18 : ∀ (v3 : Int) , 0 ≤ v3 ∧ v3 ≤ 1 → zG n (0, 0) d 42 (18, [.inr (.inr (some 60)), .inl a1], [.inl v3]) M (fun v M' => M' = M ∧ qRi (fun x => 0 ≤ x ∧ x ≤ 1) v) := by
    intro v3 hv3
    exact zG_zret hd0 hz rfl (by omega) ⟨rfl, _, rfl, by omega⟩
  refine zG_wi_ne (pc := 10) (n' := 13) (t := 17) (L := [.inr (.inr (some 60)), .inl a1]) (st := []) (x := x2) (y := 1) 0 hd0 hz (by rfl) (fun hb4 => ?_) (fun hb4 => ?_)
  · refine zG_w (c' := (18, [.inr (.inr (some 60)), .inl a1], [.inl 0])) 1 hd0 hz (by rfl) ?_
    exact j18 0 (by first | decide | omega)
  · refine zG_w (c' := (18, [.inr (.inr (some 60)), .inl a1], [.inl 1])) 2 hd0 hz (by rfl) ?_
    exact j18 1 (by first | decide | omega)
theorem qm_52_60 {n d : Nat} {M : zM} (hd : 2 ≤ d) (hC : qCI M) (a1 : Int) (ha1 : (-2147483648) ≤ a1 ∧ a1 ≤ 2147483647) : qOkP n d 52 [.inr (.inr (some 60)), .inl a1] 2 M (qRi (fun x => (-2147483648) ≤ x ∧ x ≤ 2147483647)) := by
  have hz := zp_52
  have hd0 : 0 < d := by omega
  show zG n (0, 0) d 52 (0, [.inr (.inr (some 60)), .inl a1], []) M _
  refine zG_wp (pc := 12) (L := [.inr (.inr (some 60)), .inl a1]) (st := []) 5 hd0 hz zp_106 (qw_get (by first | exact zdk hd rfl | omega) hC (⟨by decide, rfl, rfl⟩ : qT n 18 250 11) a1 (by first | with_reducible exact ha1 | omega) 4 (by first | decide | omega)) (by rfl) (fun x2 hx2 => ?_)
  obtain ⟨x3, hx3⟩ : ∃ x : Int, x = w32 (x2 * 14) := ⟨_, rfl⟩
  have hx3r : qin x3 := by rw [hx3]; exact w32_in _
  refine zG_wp (pc := 27) (L := [.inr (.inr (some 60)), .inl a1]) (st := [.inl x3]) 7 hd0 hz zp_106 (qw_get (by first | exact zdk hd rfl | omega) hC (⟨by decide, rfl, rfl⟩ : qT n 18 250 11) a1 (by first | with_reducible exact ha1 | omega) 5 (by first | decide | omega)) (by subst hx3; rfl) (fun x5 hx5 => ?_)
  obtain ⟨x6, hx6⟩ : ∃ x : Int, x = w32 (x3 + x5) := ⟨_, rfl⟩
  have hx6r : x6 = (x3 + x5 + 2147483648) % 4294967296 - 2147483648 := hx6
  exact zG_wr (r := some (.inl x6)) 1 hd0 hz (by subst hx6; rfl) ⟨rfl, _, rfl, by omega⟩
theorem qm_51_60 {n d : Nat} {M : zM} (hd : 3 ≤ d) (hC : qCI M) (a1 : Int) (ha1 : (-2147483648) ≤ a1 ∧ a1 ≤ 2147483647) : qOkM n d 51 [.inr (.inr (some 60)), .inl a1] 4 qCI [64] M qRn := by
  have hz := zp_51
  have hd0 : 0 < d := by omega
  have hW : qFr [64] M M := qFr.rfl
  show zG n (0, 0) d 51 (0, [.inr (.inr (some 60)), .inl a1, zN, zN], []) M _
  refine zG_wp (pc := 5) (L := [.inr (.inr (some 60)), .inl a1, zN, zN]) (st := []) 2 hd0 hz zp_52 (qm_52_60 (by first | exact zdk hd rfl | omega) hC  a1 (by first | with_reducible exact ha1 | omega)) (by rfl) (fun x2 hx2 => ?_)
  refine zG_wp (pc := 15) (L := [.inr (.inr (some 60)), .inl a1, .inl x2, zN]) (st := []) 5 hd0 hz zp_106 (qw_get (by first | exact zdk hd rfl | omega) hC (⟨by decide, rfl, rfl⟩ : qT n 63 280 4) x2 (by omega) 3 (by first | decide | omega)) (by rfl) (fun x4 hx4 => ?_)
  refine zG_w (c' := (18, [.inr (.inr (some 60)), .inl a1, .inl x2, .inl x4], [.inl (-1), .inl x4])) 3 hd0 hz (by rfl) ?_
  have j58 : ∀ (M5 : zM) , qCI M5 → qFr [64] M M5 → zG n (0, 0) d 51 (58, [.inr (.inr (some 60)), .inl a1, .inl x2, .inl x4], []) M5 (fun v M' => qWf qCI [64] M M' ∧ qRn v) := by
    intro M5 hCM5 hWM5
    exact zG_wr (r := none) 0 hd0 hz (by rfl) ⟨⟨hCM5, hWM5⟩, rfl⟩
  have j48 : zG n (0, 0) d 51 (48, [.inr (.inr (some 60)), .inl a1, .inl x2, .inl x4], []) M (fun v M' => qWf qCI [64] M M' ∧ qRn v) := by
    refine zG_wv (pc := 58) (L := [.inr (.inr (some 60)), .inl a1, .inl x2, .inl x4]) (st := []) 5 hd0 hz zp_107 (qw_set (by first | exact zdk hd rfl | omega) hC (⟨by decide, rfl, rfl⟩ : qT n 63 280 4) x2 (by omega) 3 (by first | decide | omega) a1 (by first | with_reducible exact ha1 | omega)) (by rfl) (fun M6 hr => ?_)
    obtain ⟨hCM6, hFM6⟩ := hr
    have hWM6 : qFr [64] M M6 := hW.tr hFM6 (by decide)
    exact j58 M6 hCM6 hWM6
  refine zG_wi_eq (pc := 18) (n' := 21) (t := 48) (L := [.inr (.inr (some 60)), .inl a1, .inl x2, .inl x4]) (st := []) (x := x4) (y := (-1)) 0 hd0 hz (by rfl) (fun hb8 => ?_) (fun hb8 => ?_)
  · exact j48
  · refine zG_wp (pc := 33) (L := [.inr (.inr (some 60)), .inl a1, .inl x2, .inl x4]) (st := []) 5 hd0 hz zp_106 (qw_get (by first | exact zdk hd rfl | omega) hC (⟨by decide, rfl, rfl⟩ : qT n 18 250 11) a1 (by first | with_reducible exact ha1 | omega) 1 (by first | decide | omega)) (by rfl) (fun x10 hx10 => ?_)
    refine zG_wp (pc := 45) (L := [.inr (.inr (some 60)), .inl a1, .inl x2, .inl x4]) (st := [.inl x10]) 5 hd0 hz zp_106 (qw_get (by first | exact zdk hd rfl | omega) hC (⟨by decide, rfl, rfl⟩ : qT n 18 250 11) x4 (by omega) 1 (by first | decide | omega)) (by rfl) (fun x12 hx12 => ?_)
    refine zG_wi_ge (pc := 45) (n' := 48) (t := 58) (L := [.inr (.inr (some 60)), .inl a1, .inl x2, .inl x4]) (st := []) (x := x10) (y := x12) 0 hd0 hz (by rfl) (fun hb13 => ?_) (fun hb13 => ?_)
    · exact j58 M hC hW
    · exact j48
theorem qm_50_60 {n d : Nat} {M : zM} (hd : 4 ≤ d) (hC : qCI M) (a1 : Int) (ha1 : (-2147483648) ≤ a1 ∧ a1 ≤ 2147483647) : qOkM n d 50 [.inr (.inr (some 60)), .inl a1] 2 qCI [62, 64, 65, 66] M qRn := by
  have hz := zp_50
  have hd0 : 0 < d := by omega
  have hW : qFr [62, 64, 65, 66] M M := qFr.rfl
  show zG n (0, 0) d 50 (0, [.inr (.inr (some 60)), .inl a1], []) M _
  refine zG_wp (pc := 12) (L := [.inr (.inr (some 60)), .inl a1]) (st := []) 5 hd0 hz zp_106 (qw_get (by first | exact zdk hd rfl | omega) hC (⟨by decide, rfl, rfl⟩ : qT n 18 250 11) a1 (by first | with_reducible exact ha1 | omega) 0 (by first | decide | omega)) (by rfl) (fun x2 hx2 => ?_)
  have j156 : ∀ (M3 : zM) , qCI M3 → qFr [62, 64, 65, 66] M M3 → zG n (0, 0) d 50 (156, [.inr (.inr (some 60)), .inl a1], []) M3 (fun v M' => qWf qCI [62, 64, 65, 66] M M' ∧ qRn v) := by
    intro M3 hCM3 hWM3
    exact zG_wr (r := none) 0 hd0 hz (by rfl) ⟨⟨hCM3, hWM3⟩, rfl⟩
  have j48 : zG n (0, 0) d 50 (48, [.inr (.inr (some 60)), .inl a1], []) M (fun v M' => qWf qCI [62, 64, 65, 66] M M' ∧ qRn v) := by
    refine zG_wp (pc := 57) (L := [.inr (.inr (some 60)), .inl a1]) (st := [.inr (.inr (some 63))]) 4 hd0 hz zp_52 (qm_52_60 (by first | exact zdk hd rfl | omega) hC  a1 (by first | with_reducible exact ha1 | omega)) (by rfl) (fun x5 hx5 => ?_)
    refine zG_wv (pc := 62) (L := [.inr (.inr (some 60)), .inl a1]) (st := []) 2 hd0 hz zp_108 (qw_add (by first | exact zdk hd rfl | omega) hC (⟨by decide, rfl, rfl⟩ : qT n 63 280 4) x5 (by omega) 1 (by first | decide | omega) 1 (by first | decide | omega)) (by rfl) (fun M6 hr => ?_)
    obtain ⟨hCM6, hFM6⟩ := hr
    have hWM6 : qFr [62, 64, 65, 66] M M6 := hW.tr hFM6 (by decide)
    refine zG_wv (pc := 67) (L := [.inr (.inr (some 60)), .inl a1]) (st := []) 2 hd0 hz zp_51 (qm_51_60 (by first | exact zdk hd rfl | omega) hCM6  a1 (by first | with_reducible exact ha1 | omega)) (by rfl) (fun M8 hr => ?_)
    obtain ⟨hCM8, hFM8⟩ := hr
    have hWM8 : qFr [62, 64, 65, 66] M M8 := hWM6.tr hFM8 (by decide)
    refine zG_w (c' := (156, [.inr (.inr (some 60)), .inl a1], [])) 1 hd0 hz (by rfl) ?_
    exact j156 M8 hCM8 hWM8
  have j70 : zG n (0, 0) d 50 (70, [.inr (.inr (some 60)), .inl a1], []) M (fun v M' => qWf qCI [62, 64, 65, 66] M M' ∧ qRn v) := by
    refine zG_wp (pc := 87) (L := [.inr (.inr (some 60)), .inl a1]) (st := [.inr (.inr (some 61))]) 7 hd0 hz zp_106 (qw_get (by first | exact zdk hd rfl | omega) hC (⟨by decide, rfl, rfl⟩ : qT n 18 250 11) a1 (by first | with_reducible exact ha1 | omega) 6 (by first | decide | omega)) (by rfl) (fun x11 hx11 => ?_)
    refine zG_wv (pc := 92) (L := [.inr (.inr (some 60)), .inl a1]) (st := []) 2 hd0 hz zp_107 (qw_set (by first | exact zdk hd rfl | omega) hC (⟨by decide, rfl, rfl⟩ : qT n 61 250 4) x11 (by omega) 2 (by first | decide | omega) a1 (by first | with_reducible exact ha1 | omega)) (by rfl) (fun M12 hr => ?_)
    obtain ⟨hCM12, hFM12⟩ := hr
    have hWM12 : qFr [62, 64, 65, 66] M M12 := hW.tr hFM12 (by decide)
    refine zG_w (c' := (156, [.inr (.inr (some 60)), .inl a1], [])) 1 hd0 hz (by rfl) ?_
    exact j156 M12 hCM12 hWM12
  have j95 : zG n (0, 0) d 50 (95, [.inr (.inr (some 60)), .inl a1], []) M (fun v M' => qWf qCI [62, 64, 65, 66] M M' ∧ qRn v) := by
    refine zG_wp (pc := 112) (L := [.inr (.inr (some 60)), .inl a1]) (st := [.inr (.inr (some 61))]) 7 hd0 hz zp_106 (qw_get (by first | exact zdk hd rfl | omega) hC (⟨by decide, rfl, rfl⟩ : qT n 18 250 11) a1 (by first | with_reducible exact ha1 | omega) 6 (by first | decide | omega)) (by rfl) (fun x15 hx15 => ?_)
    refine zG_wv (pc := 117) (L := [.inr (.inr (some 60)), .inl a1]) (st := []) 2 hd0 hz zp_107 (qw_set (by first | exact zdk hd rfl | omega) hC (⟨by decide, rfl, rfl⟩ : qT n 61 250 4) x15 (by omega) 3 (by first | decide | omega) a1 (by first | with_reducible exact ha1 | omega)) (by rfl) (fun M16 hr => ?_)
    obtain ⟨hCM16, hFM16⟩ := hr
    have hWM16 : qFr [62, 64, 65, 66] M M16 := hW.tr hFM16 (by decide)
    refine zG_w (c' := (156, [.inr (.inr (some 60)), .inl a1], [])) 1 hd0 hz (by rfl) ?_
    exact j156 M16 hCM16 hWM16
  have j120 : zG n (0, 0) d 50 (120, [.inr (.inr (some 60)), .inl a1], []) M (fun v M' => qWf qCI [62, 64, 65, 66] M M' ∧ qRn v) := by
    refine zG_wn (pc := 131) (L := [.inr (.inr (some 60)), .inl a1]) (st := [.inr (.inr (some 65))]) 4 hd0 hz zp_103 (qw_open (by first | exact zdk hd rfl | omega) hC (⟨by decide, rfl, rfl⟩ : qT n 65 250 1) ) (by rfl) (fun x19 M18 hr hx19 => ?_)
    obtain ⟨hCM18, hFM18⟩ := hr
    have hWM18 : qFr [62, 64, 65, 66] M M18 := hW.tr hFM18 (by decide)
    refine zG_wv (pc := 136) (L := [.inr (.inr (some 60)), .inl a1]) (st := []) 2 hd0 hz zp_107 (qw_set (by first | exact zdk hd rfl | omega) hCM18 (⟨by decide, rfl, rfl⟩ : qT n 65 250 1) x19 (by omega) 0 (by first | decide | omega) a1 (by first | with_reducible exact ha1 | omega)) (by rfl) (fun M20 hr => ?_)
    obtain ⟨hCM20, hFM20⟩ := hr
    have hWM20 : qFr [62, 64, 65, 66] M M20 := hWM18.tr hFM20 (by decide)
    refine zG_w (c' := (156, [.inr (.inr (some 60)), .inl a1], [])) 1 hd0 hz (by rfl) ?_
    exact j156 M20 hCM20 hWM20
  have j139 : zG n (0, 0) d 50 (139, [.inr (.inr (some 60)), .inl a1], []) M (fun v M' => qWf qCI [62, 64, 65, 66] M M' ∧ qRn v) := by
    refine zG_wp (pc := 148) (L := [.inr (.inr (some 60)), .inl a1]) (st := [.inr (.inr (some 63))]) 4 hd0 hz zp_52 (qm_52_60 (by first | exact zdk hd rfl | omega) hC  a1 (by first | with_reducible exact ha1 | omega)) (by rfl) (fun x23 hx23 => ?_)
    refine zG_wv (pc := 153) (L := [.inr (.inr (some 60)), .inl a1]) (st := []) 2 hd0 hz zp_107 (qw_set (by first | exact zdk hd rfl | omega) hC (⟨by decide, rfl, rfl⟩ : qT n 63 280 4) x23 (by omega) 2 (by first | decide | omega) 1 (by first | decide | omega)) (by rfl) (fun M24 hr => ?_)
    obtain ⟨hCM24, hFM24⟩ := hr
    have hWM24 : qFr [62, 64, 65, 66] M M24 := hW.tr hFM24 (by decide)
    refine zG_w (c' := (156, [.inr (.inr (some 60)), .inl a1], [])) 1 hd0 hz (by rfl) ?_
    exact j156 M24 hCM24 hWM24
  refine zG_sw hd0 hz rfl ?_
  refine zts_all (P := fun t => zG n (0, 0) d 50 (t, [.inr (.inr (some 60)), .inl a1], []) M _) ?_ ?_
  · exact j156 M hC hW
  · intro t ht
    simp only [List.mem_cons, List.not_mem_nil, or_false] at ht
    rcases ht with rfl | rfl | rfl | rfl | rfl
    · exact j48
    · exact j70
    · exact j95
    · exact j120
    · exact j139
theorem qm_49_60 {n d : Nat} {M : zM} (hd : 5 ≤ d) (hC : qCI M)  : qOkM n d 49 [.inr (.inr (some 60))] 3 qCI [62, 64, 65, 66] M qRn := by
  have hz := zp_49
  have hd0 : 0 < d := by omega
  have hW : qFr [62, 64, 65, 66] M M := qFr.rfl
  show zG n (0, 0) d 49 (0, [.inr (.inr (some 60)), zN, zN], []) M _
  refine zG_wp (pc := 10) (L := [.inr (.inr (some 60)), zN, zN]) (st := []) 3 hd0 hz zp_101 (qw_size (by first | exact zdk hd rfl | omega) hC (⟨by decide, rfl, rfl⟩ : qT n 12 20 3) ) (by rfl) (fun x2 hx2 => ?_)
  obtain ⟨x3, hx3⟩ : ∃ x : Int, x = w32 (x2 * 14) := ⟨_, rfl⟩
  have hx3e : x3 = x2 * 14 := by rw [hx3]; exact w32_id (by omega)
  refine zG_wp (pc := 30) (L := [.inr (.inr (some 60)), .inl x3, zN]) (st := [.inl (-1), .inl 2, .inr (.inr (some 61))]) 10 hd0 hz zp_101 (qw_size (by first | exact zdk hd rfl | omega) hC (⟨by decide, rfl, rfl⟩ : qT n 18 250 11) ) (by subst hx3; rfl) (fun x5 hx5 => ?_)
  refine zG_wv (pc := 33) (L := [.inr (.inr (some 60)), .inl x3, zN]) (st := []) 0 hd0 hz zp_109 (qw_fillColumn (by first | exact zdk hd rfl | omega) hC (⟨by decide, rfl, rfl⟩ : qT n 61 250 4) 2 (by first | decide | omega) (-1) (by first | decide | omega) x5 (by omega)) (by rfl) (fun M6 hr => ?_)
  obtain ⟨hCM6, hFM6⟩ := hr
  have hWM6 : qFr [62, 64, 65, 66] M M6 := hW.tr hFM6 (by decide)
  refine zG_wp (pc := 49) (L := [.inr (.inr (some 60)), .inl x3, zN]) (st := [.inl (-1), .inl 3, .inr (.inr (some 61))]) 7 hd0 hz zp_101 (qw_size (by first | exact zdk hd rfl | omega) hCM6 (⟨by decide, rfl, rfl⟩ : qT n 18 250 11) ) (by rfl) (fun x9 hx9 => ?_)
  refine zG_wv (pc := 52) (L := [.inr (.inr (some 60)), .inl x3, zN]) (st := []) 0 hd0 hz zp_109 (qw_fillColumn (by first | exact zdk hd rfl | omega) hCM6 (⟨by decide, rfl, rfl⟩ : qT n 61 250 4) 3 (by first | decide | omega) (-1) (by first | decide | omega) x9 (by omega)) (by rfl) (fun M10 hr => ?_)
  obtain ⟨hCM10, hFM10⟩ := hr
  have hWM10 : qFr [62, 64, 65, 66] M M10 := hWM6.tr hFM10 (by decide)
  refine zG_wv (pc := 62) (L := [.inr (.inr (some 60)), .inl x3, zN]) (st := []) 5 hd0 hz zp_109 (qw_fillColumn (by first | exact zdk hd rfl | omega) hCM10 (⟨by decide, rfl, rfl⟩ : qT n 63 280 4) 0 (by first | decide | omega) (-1) (by first | decide | omega) x3 (by omega)) (by rfl) (fun M12 hr => ?_)
  obtain ⟨hCM12, hFM12⟩ := hr
  have hWM12 : qFr [62, 64, 65, 66] M M12 := hWM10.tr hFM12 (by decide)
  refine zG_wv (pc := 72) (L := [.inr (.inr (some 60)), .inl x3, zN]) (st := []) 5 hd0 hz zp_109 (qw_fillColumn (by first | exact zdk hd rfl | omega) hCM12 (⟨by decide, rfl, rfl⟩ : qT n 63 280 4) 1 (by first | decide | omega) 0 (by first | decide | omega) x3 (by omega)) (by rfl) (fun M14 hr => ?_)
  obtain ⟨hCM14, hFM14⟩ := hr
  have hWM14 : qFr [62, 64, 65, 66] M M14 := hWM12.tr hFM14 (by decide)
  refine zG_wv (pc := 82) (L := [.inr (.inr (some 60)), .inl x3, zN]) (st := []) 5 hd0 hz zp_109 (qw_fillColumn (by first | exact zdk hd rfl | omega) hCM14 (⟨by decide, rfl, rfl⟩ : qT n 63 280 4) 2 (by first | decide | omega) 0 (by first | decide | omega) x3 (by omega)) (by rfl) (fun M16 hr => ?_)
  obtain ⟨hCM16, hFM16⟩ := hr
  have hWM16 : qFr [62, 64, 65, 66] M M16 := hWM14.tr hFM16 (by decide)
  refine zG_wv (pc := 92) (L := [.inr (.inr (some 60)), .inl x3, zN]) (st := []) 5 hd0 hz zp_109 (qw_fillColumn (by first | exact zdk hd rfl | omega) hCM16 (⟨by decide, rfl, rfl⟩ : qT n 63 280 4) 3 (by first | decide | omega) (-1) (by first | decide | omega) x3 (by omega)) (by rfl) (fun M18 hr => ?_)
  obtain ⟨hCM18, hFM18⟩ := hr
  have hWM18 : qFr [62, 64, 65, 66] M M18 := hWM16.tr hFM18 (by decide)
  refine zG_wv (pc := 99) (L := [.inr (.inr (some 60)), .inl x3, zN]) (st := []) 2 hd0 hz zp_104 (qw_drop (by first | exact zdk hd rfl | omega) hCM18 (⟨by decide, rfl, rfl⟩ : qT n 65 250 1) ) (by rfl) (fun M20 hr => ?_)
  obtain ⟨hCM20, hFM20⟩ := hr
  have hWM20 : qFr [62, 64, 65, 66] M M20 := hWM18.tr hFM20 (by decide)
  refine zG_w (c' := (101, [.inr (.inr (some 60)), .inl x3, .inl 0], [])) 2 hd0 hz (by rfl) ?_
  have j101 : ∀ (N : Nat) (v22 : Int) (M23 : zM) , (250 - v22 : Int).toNat < N → 0 ≤ v22 ∧ v22 ≤ 250 → qCI M23 → qFr [62, 64, 65, 66] M M23 → zG n (0, 0) d 49 (101, [.inr (.inr (some 60)), .inl x3, .inl v22], []) M23 (fun v M' => qWf qCI [62, 64, 65, 66] M M' ∧ qRn v) := by
    intro N
    induction N with
    | zero => intro v22 M23 hN hv22 hCM23 hWM23; exact absurd hN (Nat.not_lt_zero _)
    | succ N ih101 =>
      intro v22 M23 hN hv22 hCM23 hWM23
      replace hN : 250 - v22 < (N : Int) + 1 := by omega
      refine zG_wp (pc := 112) (L := [.inr (.inr (some 60)), .inl x3, .inl v22]) (st := [.inl v22]) 4 hd0 hz zp_101 (qw_size (by first | exact zdk hd rfl | omega) hCM23 (⟨by decide, rfl, rfl⟩ : qT n 18 250 11) ) (by rfl) (fun x25 hx25 => ?_)
      refine zG_wi_ge (pc := 112) (n' := 115) (t := 134) (L := [.inr (.inr (some 60)), .inl x3, .inl v22]) (st := []) (x := v22) (y := x25) 0 hd0 hz (by rfl) (fun hb26 => ?_) (fun hb26 => ?_)
      · exact zG_ret hd0 hz rfl rfl ⟨⟨hCM23, hWM23⟩, rfl⟩
      · refine zG_wp (pc := 120) (L := [.inr (.inr (some 60)), .inl x3, .inl v22]) (st := []) 2 hd0 hz zp_42 (qm_42_60 (by first | exact zdk hd rfl | omega) hCM23  v22 (by first | with_reducible exact hv22 | omega)) (by rfl) (fun x28 hx28 => ?_)
        have j128 : ∀ (M29 : zM) , qCI M29 → qFr [62, 64, 65, 66] M M29 → zG n (0, 0) d 49 (128, [.inr (.inr (some 60)), .inl x3, .inl v22], []) M29 (fun v M' => qWf qCI [62, 64, 65, 66] M M' ∧ qRn v) := by
          intro M29 hCM29 hWM29
          obtain ⟨x30, hx30⟩ : ∃ x : Int, x = w32 (v22 + 1) := ⟨_, rfl⟩
          have hx30e : x30 = v22 + 1 := by rw [hx30]; exact w32_id (by omega)
          refine zG_w (c' := (101, [.inr (.inr (some 60)), .inl x3, .inl x30], [])) 2 hd0 hz (by subst hx30; rfl) ?_
          exact ih101 x30 M29 (by omega) (by omega) hCM29 hWM29
        refine zG_wf_eq (pc := 120) (n' := 123) (t := 128) (L := [.inr (.inr (some 60)), .inl x3, .inl v22]) (st := []) (x := x28) 0 hd0 hz (by rfl) (fun hb31 => ?_) (fun hb31 => ?_)
        · exact j128 M23 hCM23 hWM23
        · refine zG_wv (pc := 128) (L := [.inr (.inr (some 60)), .inl x3, .inl v22]) (st := []) 2 hd0 hz zp_50 (qm_50_60 (by first | exact zdk hd rfl | omega) hCM23  v22 (by first | with_reducible exact hv22 | omega)) (by rfl) (fun M32 hr => ?_)
          obtain ⟨hCM32, hFM32⟩ := hr
          have hWM32 : qFr [62, 64, 65, 66] M M32 := hWM23.tr hFM32 (by decide)
          exact j128 M32 hCM32 hWM32
  exact j101 ((250 - 0 : Int).toNat + 1) 0 M20 (by omega) (by omega) hCM20 hWM20
theorem qm_53 {n d : Nat} {M : zM} (hd : 1 ≤ d) (hC : qCI M) (a0 : Int) (ha0 : (-2147483648) ≤ a0 ∧ a0 ≤ 2147483647) (a1 : Int) (ha1 : (-2147483648) ≤ a1 ∧ a1 ≤ 2147483647) : qOkP n d 53 [.inl a0, .inl a1] 2 M (qRi (fun x => (-2147483648) ≤ x ∧ x ≤ 2147483647)) := by
  have hz := zp_53
  have hd0 : 0 < d := by omega
  show zG n (0, 0) d 53 (0, [.inl a0, .inl a1], []) M _
  obtain ⟨x1, hx1⟩ : ∃ x : Int, x = w32 (a0 - a1) := ⟨_, rfl⟩
  have hx1r : x1 = (a0 - a1 + 2147483648) % 4294967296 - 2147483648 := hx1
  obtain ⟨x2, hx2⟩ : ∃ x : Int, x = (if 0 ≤ x1 then x1 else w32 (0 - x1)) := ⟨_, rfl⟩
  have hx2r : qin x2 := by rw [hx2]; split <;> first | omega | exact w32_in _
  refine zG_w (c' := (8, [.inl a0, .inl a1], [.inl 10, .inl x2])) 5 hd0 hz (by subst hx2; subst hx1; rfl) ?_
  have j24 : ∀ (v3 : Int) , (-2147483648) ≤ v3 ∧ v3 ≤ 2147483647 → zG n (0, 0) d 53 (24, [.inl a0, .inl a1], [.inl v3]) M (fun v M' => M' = M ∧ qRi (fun x => (-2147483648) ≤ x ∧ x ≤ 2147483647) v) := by
    intro v3 hv3
    exact zG_wr (r := some (.inl v3)) 0 hd0 hz (by rfl) ⟨rfl, _, rfl, by omega⟩
  refine zG_wi_gt (pc := 8) (n' := 11) (t := 19) (L := [.inl a0, .inl a1]) (st := []) (x := x2) (y := 10) 0 hd0 hz (by rfl) (fun hb4 => ?_) (fun hb4 => ?_)
  · obtain ⟨x5, hx5⟩ : ∃ x : Int, x = (if a1 < a0 then a1 else a0) := ⟨_, rfl⟩
    have hx5r := qite hx5
    refine zG_w (c' := (24, [.inl a0, .inl a1], [.inl x5])) 3 hd0 hz (by subst hx5; rfl) ?_
    exact j24 x5 (by omega)
  · obtain ⟨x6, hx6⟩ : ∃ x : Int, x = w32 (a0 + a1) := ⟨_, rfl⟩
    have hx6r : x6 = (a0 + a1 + 2147483648) % 4294967296 - 2147483648 := hx6
    refine zG_w (c' := (15, [.inl a0, .inl a1], [.inl 2, .inl x6])) 4 hd0 hz (by subst hx6; rfl) ?_
    refine zG_idiv hd0 hz rfl (by omega) ?_
    have hx7 := qtdiv_in x6 2 (by first | decide | omega) (by omega)
    generalize w32 (x6.tdiv 2) = x7 at hx7 ⊢
    show zG n (0, 0) d 53 (16, [.inl a0, .inl a1], [.inl x7]) M _
    refine zG_w (c' := (24, [.inl a0, .inl a1], [.inl x7])) 1 hd0 hz (by rfl) ?_
    exact j24 x7 (by omega)
theorem qm_54_60 {n d : Nat} {M : zM} (hd : 2 ≤ d) (hC : qCI M) (a1 : Int) (ha1 : (-2147483648) ≤ a1 ∧ a1 ≤ 2147483647) (a2 : Int) (ha2 : (-2147483648) ≤ a2 ∧ a2 ≤ 2147483647) : qOkP n d 54 [.inr (.inr (some 60)), .inl a1, .inl a2] 10 M (qRi (fun x => (-2147483648) ≤ x ∧ x ≤ 2147483647)) := by
  have hz := zp_54
  have hd0 : 0 < d := by omega
  show zG n (0, 0) d 54 (0, [.inr (.inr (some 60)), .inl a1, .inl a2, zN, zN, zN, zN, zN, zN, zN], []) M _
  refine zG_wp (pc := 12) (L := [.inr (.inr (some 60)), .inl a1, .inl a2, zN, zN, zN, zN, zN, zN, zN]) (st := []) 5 hd0 hz zp_106 (qw_get (by first | exact zdk hd rfl | omega) hC (⟨by decide, rfl, rfl⟩ : qT n 18 250 11) a1 (by first | with_reducible exact ha1 | omega) 5 (by first | decide | omega)) (by rfl) (fun x2 hx2 => ?_)
  refine zG_wp (pc := 25) (L := [.inr (.inr (some 60)), .inl a1, .inl a2, .inl x2, zN, zN, zN, zN, zN, zN]) (st := []) 6 hd0 hz zp_106 (qw_get (by first | exact zdk hd rfl | omega) hC (⟨by decide, rfl, rfl⟩ : qT n 18 250 11) a1 (by first | with_reducible exact ha1 | omega) 1 (by first | decide | omega)) (by rfl) (fun x4 hx4 => ?_)
  refine zG_wp (pc := 34) (L := [.inr (.inr (some 60)), .inl a1, .inl a2, .inl x2, .inl x4, zN, zN, zN, zN, zN]) (st := []) 3 hd0 hz zp_101 (qw_size (by first | exact zdk hd rfl | omega) hC (⟨by decide, rfl, rfl⟩ : qT n 65 250 1) ) (by rfl) (fun x6 hx6 => ?_)
  obtain ⟨x7, hx7⟩ : ∃ x : Int, x = w32 (x6 - 1) := ⟨_, rfl⟩
  have hx7e : x7 = x6 - 1 := by rw [hx7]; exact w32_id (by omega)
  refine zG_w (c' := (38, [.inr (.inr (some 60)), .inl a1, .inl a2, .inl x2, .inl x4, .inl x7, zN, zN, zN, zN], [])) 3 hd0 hz (by subst hx7; rfl) ?_
  have j38 : ∀ (N : Nat) (v8 : Int) , (v8 + 1 : Int).toNat < N → (-1) ≤ v8 ∧ v8 ≤ 249 → zG n (0, 0) d 54 (38, [.inr (.inr (some 60)), .inl a1, .inl a2, .inl x2, .inl x4, .inl v8, zN, zN, zN, zN], []) M (fun v M' => M' = M ∧ qRi (fun x => (-2147483648) ≤ x ∧ x ≤ 2147483647) v) := by
    intro N
    induction N with
    | zero => intro v8 hN hv8; exact absurd hN (Nat.not_lt_zero _)
    | succ N ih38 =>
      intro v8 hN hv8
      replace hN : v8 + 1 < (N : Int) + 1 := by omega
      refine zG_wf_lt (pc := 40) (n' := 43) (t := 177) (L := [.inr (.inr (some 60)), .inl a1, .inl a2, .inl x2, .inl x4, .inl v8, zN, zN, zN, zN]) (st := []) (x := v8) 1 hd0 hz (by rfl) (fun hb9 => ?_) (fun hb9 => ?_)
      · exact zG_wr (r := some (.inl a2)) 1 hd0 hz (by rfl) ⟨rfl, _, rfl, by omega⟩
      · refine zG_wp (pc := 53) (L := [.inr (.inr (some 60)), .inl a1, .inl a2, .inl x2, .inl x4, .inl v8, zN, zN, zN, zN]) (st := []) 4 hd0 hz zp_106 (qw_get (by first | exact zdk hd rfl | omega) hC (⟨by decide, rfl, rfl⟩ : qT n 65 250 1) v8 (by first | with_reducible exact hv8 | omega) 0 (by first | decide | omega)) (by rfl) (fun x11 hx11 => ?_)
        refine zG_wp (pc := 69) (L := [.inr (.inr (some 60)), .inl a1, .inl a2, .inl x2, .inl x4, .inl v8, .inl x11, zN, zN, zN]) (st := []) 6 hd0 hz zp_106 (qw_get (by first | exact zdk hd rfl | omega) hC (⟨by decide, rfl, rfl⟩ : qT n 18 250 11) x11 (by omega) 9 (by first | decide | omega)) (by rfl) (fun x13 hx13 => ?_)
        refine zG_wp (pc := 84) (L := [.inr (.inr (some 60)), .inl a1, .inl a2, .inl x2, .inl x4, .inl v8, .inl x11, .inl x13, zN, zN]) (st := []) 6 hd0 hz zp_106 (qw_get (by first | exact zdk hd rfl | omega) hC (⟨by decide, rfl, rfl⟩ : qT n 18 250 11) x11 (by omega) 5 (by first | decide | omega)) (by rfl) (fun x15 hx15 => ?_)
        refine zG_w (c' := (85, [.inr (.inr (some 60)), .inl a1, .inl a2, .inl x2, .inl x4, .inl v8, .inl x11, .inl x13, zN, zN], [.inl x2, .inl x15])) 1 hd0 hz (by rfl) ?_
        have j93 : ∀ (v16 : Int) , 0 ≤ v16 ∧ v16 ≤ 1 → zG n (0, 0) d 54 (93, [.inr (.inr (some 60)), .inl a1, .inl a2, .inl x2, .inl x4, .inl v8, .inl x11, .inl x13, zN, zN], [.inl v16]) M (fun v M' => M' = M ∧ qRi (fun x => (-2147483648) ≤ x ∧ x ≤ 2147483647) v) := by
          intro v16 hv16
          refine zG_w (c' := (97, [.inr (.inr (some 60)), .inl a1, .inl a2, .inl x2, .inl x4, .inl v8, .inl x11, .inl x13, .inl v16, zN], [.inl v16])) 2 hd0 hz (by rfl) ?_
          have j171 : zG n (0, 0) d 54 (171, [.inr (.inr (some 60)), .inl a1, .inl a2, .inl x2, .inl x4, .inl v8, .inl x11, .inl x13, .inl v16, zN], []) M (fun v M' => M' = M ∧ qRi (fun x => (-2147483648) ≤ x ∧ x ≤ 2147483647) v) := by
            obtain ⟨x17, hx17⟩ : ∃ x : Int, x = w32 (v8 + (-1)) := ⟨_, rfl⟩
            have hx17e : x17 = v8 + (-1) := by rw [hx17]; exact w32_id (by omega)
            refine zG_w (c' := (38, [.inr (.inr (some 60)), .inl a1, .inl a2, .inl x2, .inl x4, .inl x17, .inl x11, .inl x13, .inl v16, zN], [])) 2 hd0 hz (by subst hx17; rfl) ?_
            exact zG_weak (ih38 x17 (by omega) (by omega)) ⟨.inr rfl, .inr rfl, .inr rfl, .inr rfl, .inr rfl, .inr rfl, .inl rfl, .inl rfl, .inl rfl, .inr rfl, trivial⟩
          refine zG_wf_eq (pc := 97) (n' := 100) (t := 171) (L := [.inr (.inr (some 60)), .inl a1, .inl a2, .inl x2, .inl x4, .inl v8, .inl x11, .inl x13, .inl v16, zN]) (st := []) (x := v16) 0 hd0 hz (by rfl) (fun hb18 => ?_) (fun hb18 => ?_)
          · exact j171
          · refine zG_wp (pc := 113) (L := [.inr (.inr (some 60)), .inl a1, .inl a2, .inl x2, .inl x4, .inl v8, .inl x11, .inl x13, .inl v16, zN]) (st := []) 5 hd0 hz zp_106 (qw_get (by first | exact zdk hd rfl | omega) hC (⟨by decide, rfl, rfl⟩ : qT n 18 250 11) x11 (by omega) 1 (by first | decide | omega)) (by rfl) (fun x20 hx20 => ?_)
            refine zG_wi_lt (pc := 115) (n' := 118) (t := 171) (L := [.inr (.inr (some 60)), .inl a1, .inl a2, .inl x2, .inl x4, .inl v8, .inl x11, .inl x13, .inl v16, zN]) (st := []) (x := x20) (y := x4) 1 hd0 hz (by rfl) (fun hb21 => ?_) (fun hb21 => ?_)
            · exact j171
            · refine zG_wf_le (pc := 120) (n' := 123) (t := 171) (L := [.inr (.inr (some 60)), .inl a1, .inl a2, .inl x2, .inl x4, .inl v8, .inl x11, .inl x13, .inl v16, zN]) (st := []) (x := x13) 1 hd0 hz (by rfl) (fun hb22 => ?_) (fun hb22 => ?_)
              · exact j171
              · refine zG_wp (pc := 138) (L := [.inr (.inr (some 60)), .inl a1, .inl a2, .inl x2, .inl x4, .inl v8, .inl x11, .inl x13, .inl v16, zN]) (st := [.inl a2]) 6 hd0 hz zp_106 (qw_get (by first | exact zdk hd rfl | omega) hC (⟨by decide, rfl, rfl⟩ : qT n 18 250 11) x11 (by omega) 8 (by first | decide | omega)) (by rfl) (fun x24 hx24 => ?_)
                obtain ⟨x25, hx25⟩ : ∃ x : Int, x = w32 (a2 * x24) := ⟨_, rfl⟩
                have hx25r : qin x25 := by rw [hx25]; exact w32_in _
                refine zG_w (c' := (141, [.inr (.inr (some 60)), .inl a1, .inl a2, .inl x2, .inl x4, .inl v8, .inl x11, .inl x13, .inl v16, zN], [.inl x13, .inl x25])) 2 hd0 hz (by subst hx25; rfl) ?_
                refine zG_idiv hd0 hz rfl (by omega) ?_
                have hx26 := qtdiv_in x25 x13 (by omega) (by omega)
                generalize w32 (x25.tdiv x13) = x26 at hx26 ⊢
                show zG n (0, 0) d 54 (142, [.inr (.inr (some 60)), .inl a1, .inl a2, .inl x2, .inl x4, .inl v8, .inl x11, .inl x13, .inl v16, zN], [.inl x26]) M _
                refine zG_wp (pc := 156) (L := [.inr (.inr (some 60)), .inl a1, .inl a2, .inl x2, .inl x4, .inl v8, .inl x11, .inl x13, .inl v16, zN]) (st := [.inl x26]) 5 hd0 hz zp_106 (qw_get (by first | exact zdk hd rfl | omega) hC (⟨by decide, rfl, rfl⟩ : qT n 18 250 11) x11 (by omega) 10 (by first | decide | omega)) (by rfl) (fun x28 hx28 => ?_)
                obtain ⟨x29, hx29⟩ : ∃ x : Int, x = w32 (x26 + x28) := ⟨_, rfl⟩
                have hx29r : x29 = (x26 + x28 + 2147483648) % 4294967296 - 2147483648 := hx29
                obtain ⟨x30, hx30⟩ : ∃ x : Int, x = (if x29 < 100 then x29 else 100) := ⟨_, rfl⟩
                have hx30r := qite hx30
                obtain ⟨x31, hx31⟩ : ∃ x : Int, x = (if 0 < x30 then x30 else 0) := ⟨_, rfl⟩
                have hx31r := qite hx31
                exact zG_wr (r := some (.inl x31)) 7 hd0 hz (by subst hx31; subst hx30; subst hx29; rfl) ⟨rfl, _, rfl, by omega⟩
        refine zG_wi_ne (pc := 85) (n' := 88) (t := 92) (L := [.inr (.inr (some 60)), .inl a1, .inl a2, .inl x2, .inl x4, .inl v8, .inl x11, .inl x13, zN, zN]) (st := []) (x := x15) (y := x2) 0 hd0 hz (by rfl) (fun hb32 => ?_) (fun hb32 => ?_)
        · refine zG_w (c' := (93, [.inr (.inr (some 60)), .inl a1, .inl a2, .inl x2, .inl x4, .inl v8, .inl x11, .inl x13, zN, zN], [.inl 0])) 1 hd0 hz (by rfl) ?_
          exact j93 0 (by first | decide | omega)
        · refine zG_w (c' := (93, [.inr (.inr (some 60)), .inl a1, .inl a2, .inl x2, .inl x4, .inl v8, .inl x11, .inl x13, zN, zN], [.inl 1])) 2 hd0 hz (by rfl) ?_
          exact j93 1 (by first | decide | omega)
  exact j38 ((x7 + 1 : Int).toNat + 1) x7 (by omega) (by omega)
theorem qm_47_60 {n d : Nat} {M : zM} (hd : 3 ≤ d) (hC : qCI M) (a1 : Int) (ha1 : (-2147483648) ≤ a1 ∧ a1 ≤ 2147483647) (a2 : Int) (ha2 : (-2147483648) ≤ a2 ∧ a2 ≤ 2147483647) : qOkP n d 47 [.inr (.inr (some 60)), .inl a1, .inl a2] 4 M (qRi (fun x => (-2147483648) ≤ x ∧ x ≤ 2147483647)) := by
  have hz := zp_47
  have hd0 : 0 < d := by omega
  show zG n (0, 0) d 47 (0, [.inr (.inr (some 60)), .inl a1, .inl a2, zN], []) M _
  refine zG_wp (pc := 13) (L := [.inr (.inr (some 60)), .inl a1, .inl a2, zN]) (st := []) 5 hd0 hz zp_106 (qw_get (by first | exact zdk hd rfl | omega) hC (⟨by decide, rfl, rfl⟩ : qT n 18 250 11) a1 (by first | with_reducible exact ha1 | omega) 7 (by first | decide | omega)) (by rfl) (fun x2 hx2 => ?_)
  refine zG_w (c' := (16, [.inr (.inr (some 60)), .inl a1, .inl a2, .inl x2], [.inl 1, .inl a2])) 3 hd0 hz (by rfl) ?_
  have j58 : ∀ (v3 : Int) , (-2147483648) ≤ v3 ∧ v3 ≤ 2147483647 → zG n (0, 0) d 47 (58, [.inr (.inr (some 60)), .inl a1, .inl a2, .inl v3], []) M (fun v M' => M' = M ∧ qRi (fun x => (-2147483648) ≤ x ∧ x ≤ 2147483647) v) := by
    intro v3 hv3
    refine zG_w (c' := (60, [.inr (.inr (some 60)), .inl a1, .inl a2, .inl v3], [.inl 2, .inl a2])) 2 hd0 hz (by rfl) ?_
    have j98 : ∀ (v4 : Int) , (-2147483648) ≤ v4 ∧ v4 ≤ 2147483647 → zG n (0, 0) d 47 (98, [.inr (.inr (some 60)), .inl a1, .inl a2, .inl v4], []) M (fun v M' => M' = M ∧ qRi (fun x => (-2147483648) ≤ x ∧ x ≤ 2147483647) v) := by
      intro v4 hv4
      refine zG_w (c' := (100, [.inr (.inr (some 60)), .inl a1, .inl a2, .inl v4], [.inl 3, .inl a2])) 2 hd0 hz (by rfl) ?_
      have j110 : ∀ (v5 : Int) , (-2147483648) ≤ v5 ∧ v5 ≤ 2147483647 → zG n (0, 0) d 47 (110, [.inr (.inr (some 60)), .inl a1, .inl a2, .inl v5], []) M (fun v M' => M' = M ∧ qRi (fun x => (-2147483648) ≤ x ∧ x ≤ 2147483647) v) := by
        intro v5 hv5
        refine zG_w (c' := (112, [.inr (.inr (some 60)), .inl a1, .inl a2, .inl v5], [.inl 4, .inl a2])) 2 hd0 hz (by rfl) ?_
        have j160 : ∀ (v6 : Int) , (-2147483648) ≤ v6 ∧ v6 ≤ 2147483647 → zG n (0, 0) d 47 (160, [.inr (.inr (some 60)), .inl a1, .inl a2, .inl v6], []) M (fun v M' => M' = M ∧ qRi (fun x => (-2147483648) ≤ x ∧ x ≤ 2147483647) v) := by
          intro v6 hv6
          exact zG_wr (r := some (.inl v6)) 1 hd0 hz (by rfl) ⟨rfl, _, rfl, by omega⟩
        refine zG_wi_lt (pc := 112) (n' := 115) (t := 160) (L := [.inr (.inr (some 60)), .inl a1, .inl a2, .inl v5]) (st := []) (x := a2) (y := 4) 0 hd0 hz (by rfl) (fun hb7 => ?_) (fun hb7 => ?_)
        · exact j160 v5 (by first | with_reducible exact hv5 | omega)
        · refine zG_wp (pc := 124) (L := [.inr (.inr (some 60)), .inl a1, .inl a2, .inl v5]) (st := [.inr (.inr (some 63))]) 4 hd0 hz zp_52 (qm_52_60 (by first | exact zdk hd rfl | omega) hC  a1 (by first | with_reducible exact ha1 | omega)) (by rfl) (fun x9 hx9 => ?_)
          refine zG_wp (pc := 128) (L := [.inr (.inr (some 60)), .inl a1, .inl a2, .inl v5]) (st := []) 1 hd0 hz zp_106 (qw_get (by first | exact zdk hd rfl | omega) hC (⟨by decide, rfl, rfl⟩ : qT n 63 280 4) x9 (by omega) 3 (by first | decide | omega)) (by rfl) (fun x11 hx11 => ?_)
          refine zG_wi_eq (pc := 129) (n' := 132) (t := 160) (L := [.inr (.inr (some 60)), .inl a1, .inl a2, .inl v5]) (st := []) (x := x11) (y := a1) 1 hd0 hz (by rfl) (fun hb12 => ?_) (fun hb12 => ?_)
          · exact j160 v5 (by first | with_reducible exact hv5 | omega)
          · refine zG_wp (pc := 152) (L := [.inr (.inr (some 60)), .inl a1, .inl a2, .inl v5]) (st := [.inr (.inr (some 10)), .inl v5]) 9 hd0 hz zp_106 (qw_get (by first | exact zdk hd rfl | omega) hC (⟨by decide, rfl, rfl⟩ : qT n 18 250 11) a1 (by first | with_reducible exact ha1 | omega) 5 (by first | decide | omega)) (by rfl) (fun x14 hx14 => ?_)
            refine zG_wp (pc := 156) (L := [.inr (.inr (some 60)), .inl a1, .inl a2, .inl v5]) (st := [.inl v5]) 1 hd0 hz zp_106 (qw_get (by first | exact zdk hd rfl | omega) hC (⟨by decide, rfl, rfl⟩ : qT n 10 14 4) x14 (by omega) 3 (by first | decide | omega)) (by rfl) (fun x16 hx16 => ?_)
            obtain ⟨x17, hx17⟩ : ∃ x : Int, x = (if x16 < v5 then x16 else v5) := ⟨_, rfl⟩
            have hx17r := qite hx17
            refine zG_w (c' := (160, [.inr (.inr (some 60)), .inl a1, .inl a2, .inl x17], [])) 2 hd0 hz (by subst hx17; rfl) ?_
            exact j160 x17 (by omega)
      refine zG_wi_lt (pc := 100) (n' := 103) (t := 110) (L := [.inr (.inr (some 60)), .inl a1, .inl a2, .inl v4]) (st := []) (x := a2) (y := 3) 0 hd0 hz (by rfl) (fun hb18 => ?_) (fun hb18 => ?_)
      · exact j110 v4 (by first | with_reducible exact hv4 | omega)
      · refine zG_wp (pc := 109) (L := [.inr (.inr (some 60)), .inl a1, .inl a2, .inl v4]) (st := []) 3 hd0 hz zp_54 (qm_54_60 (by first | exact zdk hd rfl | omega) hC  a1 (by first | with_reducible exact ha1 | omega) v4 (by first | with_reducible exact hv4 | omega)) (by rfl) (fun x20 hx20 => ?_)
        refine zG_w (c' := (110, [.inr (.inr (some 60)), .inl a1, .inl a2, .inl x20], [])) 1 hd0 hz (by rfl) ?_
        exact j110 x20 (by omega)
    refine zG_wi_lt (pc := 60) (n' := 63) (t := 98) (L := [.inr (.inr (some 60)), .inl a1, .inl a2, .inl v3]) (st := []) (x := a2) (y := 2) 0 hd0 hz (by rfl) (fun hb21 => ?_) (fun hb21 => ?_)
    · exact j98 v3 (by first | with_reducible exact hv3 | omega)
    · refine zG_wp (pc := 72) (L := [.inr (.inr (some 60)), .inl a1, .inl a2, .inl v3]) (st := []) 4 hd0 hz zp_106 (qw_get (by first | exact zdk hd rfl | omega) hC (⟨by decide, rfl, rfl⟩ : qT n 61 250 4) a1 (by first | with_reducible exact ha1 | omega) 3 (by first | decide | omega)) (by rfl) (fun x23 hx23 => ?_)
      refine zG_wi_eq (pc := 73) (n' := 76) (t := 98) (L := [.inr (.inr (some 60)), .inl a1, .inl a2, .inl v3]) (st := []) (x := x23) (y := (-1)) 1 hd0 hz (by rfl) (fun hb24 => ?_) (fun hb24 => ?_)
      · exact j98 v3 (by first | with_reducible exact hv3 | omega)
      · refine zG_wp (pc := 92) (L := [.inr (.inr (some 60)), .inl a1, .inl a2, .inl v3]) (st := [.inr (.inr (some 18))]) 7 hd0 hz zp_106 (qw_get (by first | exact zdk hd rfl | omega) hC (⟨by decide, rfl, rfl⟩ : qT n 61 250 4) a1 (by first | with_reducible exact ha1 | omega) 3 (by first | decide | omega)) (by rfl) (fun x26 hx26 => ?_)
        refine zG_wp (pc := 97) (L := [.inr (.inr (some 60)), .inl a1, .inl a2, .inl v3]) (st := []) 1 hd0 hz zp_106 (qw_get (by first | exact zdk hd rfl | omega) hC (⟨by decide, rfl, rfl⟩ : qT n 18 250 11) x26 (by omega) 7 (by first | decide | omega)) (by rfl) (fun x28 hx28 => ?_)
        refine zG_w (c' := (98, [.inr (.inr (some 60)), .inl a1, .inl a2, .inl x28], [])) 1 hd0 hz (by rfl) ?_
        exact j98 x28 (by omega)
  refine zG_wi_lt (pc := 16) (n' := 19) (t := 58) (L := [.inr (.inr (some 60)), .inl a1, .inl a2, .inl x2]) (st := []) (x := a2) (y := 1) 0 hd0 hz (by rfl) (fun hb29 => ?_) (fun hb29 => ?_)
  · exact j58 x2 (by omega)
  · refine zG_wp (pc := 28) (L := [.inr (.inr (some 60)), .inl a1, .inl a2, .inl x2]) (st := []) 4 hd0 hz zp_106 (qw_get (by first | exact zdk hd rfl | omega) hC (⟨by decide, rfl, rfl⟩ : qT n 61 250 4) a1 (by first | with_reducible exact ha1 | omega) 2 (by first | decide | omega)) (by rfl) (fun x31 hx31 => ?_)
    refine zG_wi_eq (pc := 29) (n' := 32) (t := 58) (L := [.inr (.inr (some 60)), .inl a1, .inl a2, .inl x2]) (st := []) (x := x31) (y := (-1)) 1 hd0 hz (by rfl) (fun hb32 => ?_) (fun hb32 => ?_)
    · exact j58 x2 (by omega)
    · refine zG_wp (pc := 49) (L := [.inr (.inr (some 60)), .inl a1, .inl a2, .inl x2]) (st := [.inr (.inr (some 18)), .inl x2]) 8 hd0 hz zp_106 (qw_get (by first | exact zdk hd rfl | omega) hC (⟨by decide, rfl, rfl⟩ : qT n 61 250 4) a1 (by first | with_reducible exact ha1 | omega) 2 (by first | decide | omega)) (by rfl) (fun x34 hx34 => ?_)
      refine zG_wp (pc := 54) (L := [.inr (.inr (some 60)), .inl a1, .inl a2, .inl x2]) (st := [.inl x2]) 1 hd0 hz zp_106 (qw_get (by first | exact zdk hd rfl | omega) hC (⟨by decide, rfl, rfl⟩ : qT n 18 250 11) x34 (by omega) 7 (by first | decide | omega)) (by rfl) (fun x36 hx36 => ?_)
      refine zG_wp (pc := 57) (L := [.inr (.inr (some 60)), .inl a1, .inl a2, .inl x2]) (st := []) 0 hd0 hz zp_53 (qm_53 (by first | exact zdk hd rfl | omega) hC  x2 (by omega) x36 (by omega)) (by rfl) (fun x38 hx38 => ?_)
      refine zG_w (c' := (58, [.inr (.inr (some 60)), .inl a1, .inl a2, .inl x38], [])) 1 hd0 hz (by rfl) ?_
      exact j58 x38 (by omega)
theorem qm_41_60 {n d : Nat} {M : zM} (hd : 6 ≤ d) (hC : qCI M) (a1 : Int) (ha1 : (-2147483648) ≤ a1 ∧ a1 ≤ 2147483647) (a2 : Int) (ha2 : (-2147483648) ≤ a2 ∧ a2 ≤ 2147483647) : qOkM n d 41 [.inr (.inr (some 60)), .inl a1, .inl a2] 5 qCI [62, 64, 65, 66] M qRn := by
  have hz := zp_41
  have hd0 : 0 < d := by omega
  have hW : qFr [62, 64, 65, 66] M M := qFr.rfl
  show zG n (0, 0) d 41 (0, [.inr (.inr (some 60)), .inl a1, .inl a2, zN, zN], []) M _
  refine zG_wv (pc := 6) (L := [.inr (.inr (some 60)), .inl a1, .inl a2, zN, zN]) (st := []) 3 hd0 hz zp_48 (qm_48_60 (by first | exact zdk hd rfl | omega) hC  a1 (by first | with_reducible exact ha1 | omega) a2 (by first | with_reducible exact ha2 | omega)) (by rfl) (fun M1 hr => ?_)
  obtain ⟨hCM1, hFM1⟩ := hr
  have hWM1 : qFr [62, 64, 65, 66] M M1 := hW.tr hFM1 (by decide)
  refine zG_wv (pc := 10) (L := [.inr (.inr (some 60)), .inl a1, .inl a2, zN, zN]) (st := []) 1 hd0 hz zp_49 (qm_49_60 (by first | exact zdk hd rfl | omega) hCM1  ) (by rfl) (fun M3 hr => ?_)
  obtain ⟨hCM3, hFM3⟩ := hr
  have hWM3 : qFr [62, 64, 65, 66] M M3 := hWM1.tr hFM3 (by decide)
  refine zG_w (c' := (12, [.inr (.inr (some 60)), .inl a1, .inl a2, .inl 0, zN], [])) 2 hd0 hz (by rfl) ?_
  have j12 : ∀ (N : Nat) (v5 : Int) (M6 : zM) , (250 - v5 : Int).toNat < N → 0 ≤ v5 ∧ v5 ≤ 250 → qCI M6 → qFr [62, 64, 65, 66] M M6 → zG n (0, 0) d 41 (12, [.inr (.inr (some 60)), .inl a1, .inl a2, .inl v5, zN], []) M6 (fun v M' => qWf qCI [62, 64, 65, 66] M M' ∧ qRn v) := by
    intro N
    induction N with
    | zero => intro v5 M6 hN hv5 hCM6 hWM6; exact absurd hN (Nat.not_lt_zero _)
    | succ N ih12 =>
      intro v5 M6 hN hv5 hCM6 hWM6
      replace hN : 250 - v5 < (N : Int) + 1 := by omega
      refine zG_wp (pc := 23) (L := [.inr (.inr (some 60)), .inl a1, .inl a2, .inl v5, zN]) (st := [.inl v5]) 4 hd0 hz zp_101 (qw_size (by first | exact zdk hd rfl | omega) hCM6 (⟨by decide, rfl, rfl⟩ : qT n 18 250 11) ) (by rfl) (fun x8 hx8 => ?_)
      refine zG_wi_ge (pc := 23) (n' := 26) (t := 88) (L := [.inr (.inr (some 60)), .inl a1, .inl a2, .inl v5, zN]) (st := []) (x := v5) (y := x8) 0 hd0 hz (by rfl) (fun hb9 => ?_) (fun hb9 => ?_)
      · exact zG_ret hd0 hz rfl rfl ⟨⟨hCM6, hWM6⟩, rfl⟩
      · refine zG_wp (pc := 35) (L := [.inr (.inr (some 60)), .inl a1, .inl a2, .inl v5, zN]) (st := []) 4 hd0 hz zp_19 (qm_19_9 (by first | exact zdk hd rfl | omega) hCM6  0 (by first | decide | omega) v5 (by first | with_reducible exact hv5 | omega)) (by rfl) (fun x11 hx11 => ?_)
        have j82 : ∀ (M12 : zM) , qCI M12 → qFr [62, 64, 65, 66] M M12 → zG n (0, 0) d 41 (82, [.inr (.inr (some 60)), .inl a1, .inl a2, .inl v5, zN], []) M12 (fun v M' => qWf qCI [62, 64, 65, 66] M M' ∧ qRn v) := by
          intro M12 hCM12 hWM12
          obtain ⟨x13, hx13⟩ : ∃ x : Int, x = w32 (v5 + 1) := ⟨_, rfl⟩
          have hx13e : x13 = v5 + 1 := by rw [hx13]; exact w32_id (by omega)
          refine zG_w (c' := (12, [.inr (.inr (some 60)), .inl a1, .inl a2, .inl x13, zN], [])) 2 hd0 hz (by subst hx13; rfl) ?_
          exact ih12 x13 M12 (by omega) (by omega) hCM12 hWM12
        refine zG_wf_eq (pc := 35) (n' := 38) (t := 82) (L := [.inr (.inr (some 60)), .inl a1, .inl a2, .inl v5, zN]) (st := []) (x := x11) 0 hd0 hz (by rfl) (fun hb14 => ?_) (fun hb14 => ?_)
        · exact j82 M6 hCM6 hWM6
        · refine zG_wp (pc := 43) (L := [.inr (.inr (some 60)), .inl a1, .inl a2, .inl v5, zN]) (st := []) 2 hd0 hz zp_42 (qm_42_60 (by first | exact zdk hd rfl | omega) hCM6  v5 (by first | with_reducible exact hv5 | omega)) (by rfl) (fun x16 hx16 => ?_)
          refine zG_wf_eq (pc := 43) (n' := 46) (t := 82) (L := [.inr (.inr (some 60)), .inl a1, .inl a2, .inl v5, zN]) (st := []) (x := x16) 0 hd0 hz (by rfl) (fun hb17 => ?_) (fun hb17 => ?_)
          · exact j82 M6 hCM6 hWM6
          · refine zG_wp (pc := 51) (L := [.inr (.inr (some 60)), .inl a1, .inl a2, .inl v5, zN]) (st := []) 2 hd0 hz zp_52 (qm_52_60 (by first | exact zdk hd rfl | omega) hCM6  v5 (by first | with_reducible exact hv5 | omega)) (by rfl) (fun x19 hx19 => ?_)
            refine zG_wp (pc := 70) (L := [.inr (.inr (some 60)), .inl a1, .inl a2, .inl v5, .inl x19]) (st := [.inl 0, .inl x19, .inr (.inr (some 63))]) 9 hd0 hz zp_106 (qw_get (by first | exact zdk hd rfl | omega) hCM6 (⟨by decide, rfl, rfl⟩ : qT n 63 280 4) x19 (by omega) 0 (by first | decide | omega)) (by rfl) (fun x21 hx21 => ?_)
            refine zG_wp (pc := 76) (L := [.inr (.inr (some 60)), .inl a1, .inl a2, .inl v5, .inl x19]) (st := [.inl x21, .inl 0, .inl x19, .inr (.inr (some 63))]) 3 hd0 hz zp_47 (qm_47_60 (by first | exact zdk hd rfl | omega) hCM6  v5 (by first | with_reducible exact hv5 | omega) 4 (by first | decide | omega)) (by rfl) (fun x23 hx23 => ?_)
            obtain ⟨x24, hx24⟩ : ∃ x : Int, x = (if x21 < x23 then x23 else x21) := ⟨_, rfl⟩
            have hx24r := qite hx24
            refine zG_wv (pc := 82) (L := [.inr (.inr (some 60)), .inl a1, .inl a2, .inl v5, .inl x19]) (st := []) 1 hd0 hz zp_107 (qw_set (by first | exact zdk hd rfl | omega) hCM6 (⟨by decide, rfl, rfl⟩ : qT n 63 280 4) x19 (by omega) 0 (by first | decide | omega) x24 (by omega)) (by subst hx24; rfl) (fun M25 hr => ?_)
            obtain ⟨hCM25, hFM25⟩ := hr
            have hWM25 : qFr [62, 64, 65, 66] M M25 := hWM6.tr hFM25 (by decide)
            exact zG_weak (j82 M25 hCM25 hWM25) ⟨.inr rfl, .inr rfl, .inr rfl, .inr rfl, .inl rfl, trivial⟩
  exact j12 ((250 - 0 : Int).toNat + 1) 0 M3 (by omega) (by omega) hCM3 hWM3
theorem qm_139_8 {n d : Nat} {M : zM} (hd : 7 ≤ d) (hC : qCI M) (a1 : Int) (ha1 : (-2147483648) ≤ a1 ∧ a1 ≤ 2147483647) (a2 : Int) (ha2 : (-2147483648) ≤ a2 ∧ a2 ≤ 2147483647) : qOkM n d 139 [.inr (.inr (some 8)), .inl a1, .inl a2] 3 qCI [62, 64, 65, 66] M (qRi (fun x => (-2) ≤ x ∧ x ≤ 1)) := by
  have hz := zp_139
  have hd0 : 0 < d := by omega
  have hW : qFr [62, 64, 65, 66] M M := qFr.rfl
  show zG n (0, 0) d 139 (0, [.inr (.inr (some 8)), .inl a1, .inl a2], []) M _
  refine zG_wp (pc := 11) (L := [.inr (.inr (some 8)), .inl a1, .inl a2]) (st := []) 4 hd0 hz zp_102 (qw_has (by first | exact zdk hd rfl | omega) hC (⟨by decide, rfl, rfl⟩ : qT n 18 250 11) a1 (by first | with_reducible exact ha1 | omega)) (by rfl) (fun x2 hx2 => ?_)
  have j21 : zG n (0, 0) d 139 (21, [.inr (.inr (some 8)), .inl a1, .inl a2], []) M (fun v M' => qWf qCI [62, 64, 65, 66] M M' ∧ qRi (fun x => (-2) ≤ x ∧ x ≤ 1) v) := by
    exact zG_wr (r := some (.inl (-2))) 1 hd0 hz (by rfl) ⟨⟨hC, hW⟩, _, rfl, by omega⟩
  refine zG_wf_eq (pc := 11) (n' := 14) (t := 21) (L := [.inr (.inr (some 8)), .inl a1, .inl a2]) (st := []) (x := x2) 0 hd0 hz (by rfl) (fun hb3 => ?_) (fun hb3 => ?_)
  · exact j21
  · refine zG_wp (pc := 18) (L := [.inr (.inr (some 8)), .inl a1, .inl a2]) (st := []) 1 hd0 hz zp_170 (qm_170 (by first | exact zdk hd rfl | omega) hC  a2 (by first | with_reducible exact ha2 | omega)) (by rfl) (fun x5 hx5 => ?_)
    refine zG_wf_ne (pc := 18) (n' := 21) (t := 24) (L := [.inr (.inr (some 8)), .inl a1, .inl a2]) (st := []) (x := x5) 0 hd0 hz (by rfl) (fun hb6 => ?_) (fun hb6 => ?_)
    · refine zG_wv (pc := 33) (L := [.inr (.inr (some 8)), .inl a1, .inl a2]) (st := []) 4 hd0 hz zp_41 (qm_41_60 (by first | exact zdk hd rfl | omega) hC  a2 (by first | with_reducible exact ha2 | omega) (-1) (by first | decide | omega)) (by rfl) (fun M7 hr => ?_)
      obtain ⟨hCM7, hFM7⟩ := hr
      have hWM7 : qFr [62, 64, 65, 66] M M7 := hW.tr hFM7 (by decide)
      refine zG_wp (pc := 41) (L := [.inr (.inr (some 8)), .inl a1, .inl a2]) (st := []) 3 hd0 hz zp_42 (qm_42_60 (by first | exact zdk hd rfl | omega) hCM7  a1 (by first | with_reducible exact ha1 | omega)) (by rfl) (fun x10 hx10 => ?_)
      have j49 : ∀ (v11 : Int) , 0 ≤ v11 ∧ v11 ≤ 1 → zG n (0, 0) d 139 (49, [.inr (.inr (some 8)), .inl a1, .inl a2], [.inl v11]) M7 (fun v M' => qWf qCI [62, 64, 65, 66] M M' ∧ qRi (fun x => (-2) ≤ x ∧ x ≤ 1) v) := by
        intro v11 hv11
        exact zG_wr (r := some (.inl v11)) 0 hd0 hz (by rfl) ⟨⟨hCM7, hWM7⟩, _, rfl, by omega⟩
      refine zG_wf_eq (pc := 41) (n' := 44) (t := 48) (L := [.inr (.inr (some 8)), .inl a1, .inl a2]) (st := []) (x := x10) 0 hd0 hz (by rfl) (fun hb12 => ?_) (fun hb12 => ?_)
      · refine zG_w (c' := (49, [.inr (.inr (some 8)), .inl a1, .inl a2], [.inl 0])) 1 hd0 hz (by rfl) ?_
        exact j49 0 (by first | decide | omega)
      · refine zG_w (c' := (49, [.inr (.inr (some 8)), .inl a1, .inl a2], [.inl 1])) 2 hd0 hz (by rfl) ?_
        exact j49 1 (by first | decide | omega)
    · exact j21
theorem qm_140_8 {n d : Nat} {M : zM} (hd : 7 ≤ d) (hC : qCI M) (a1 : Int) (ha1 : (-2147483648) ≤ a1 ∧ a1 ≤ 2147483647) (a2 : Int) (ha2 : (-2147483648) ≤ a2 ∧ a2 ≤ 2147483647) (a3 : Int) (ha3 : (-2147483648) ≤ a3 ∧ a3 ≤ 2147483647) : qOkM n d 140 [.inr (.inr (some 8)), .inl a1, .inl a2, .inl a3] 4 qCI [62, 64, 65, 66] M (qRi (fun x => (-2147483648) ≤ x ∧ x ≤ 2147483647)) := by
  have hz := zp_140
  have hd0 : 0 < d := by omega
  have hW : qFr [62, 64, 65, 66] M M := qFr.rfl
  show zG n (0, 0) d 140 (0, [.inr (.inr (some 8)), .inl a1, .inl a2, .inl a3], []) M _
  refine zG_wp (pc := 9) (L := [.inr (.inr (some 8)), .inl a1, .inl a2, .inl a3]) (st := []) 4 hd0 hz zp_19 (qm_19_9 (by first | exact zdk hd rfl | omega) hC  0 (by first | decide | omega) a1 (by first | with_reducible exact ha1 | omega)) (by rfl) (fun x2 hx2 => ?_)
  have j28 : zG n (0, 0) d 140 (28, [.inr (.inr (some 8)), .inl a1, .inl a2, .inl a3], []) M (fun v M' => qWf qCI [62, 64, 65, 66] M M' ∧ qRi (fun x => (-2147483648) ≤ x ∧ x ≤ 2147483647) v) := by
    exact zG_wr (r := some (.inl (-2))) 1 hd0 hz (by rfl) ⟨⟨hC, hW⟩, _, rfl, by omega⟩
  refine zG_wf_eq (pc := 9) (n' := 12) (t := 28) (L := [.inr (.inr (some 8)), .inl a1, .inl a2, .inl a3]) (st := []) (x := x2) 0 hd0 hz (by rfl) (fun hb3 => ?_) (fun hb3 => ?_)
  · exact j28
  · refine zG_wp (pc := 18) (L := [.inr (.inr (some 8)), .inl a1, .inl a2, .inl a3]) (st := []) 3 hd0 hz zp_169 (qm_169 (by first | exact zdk hd rfl | omega) hC  a2 (by first | with_reducible exact ha2 | omega) 0 (by first | decide | omega) 4 (by first | decide | omega)) (by rfl) (fun x5 hx5 => ?_)
    refine zG_wf_eq (pc := 18) (n' := 21) (t := 28) (L := [.inr (.inr (some 8)), .inl a1, .inl a2, .inl a3]) (st := []) (x := x5) 0 hd0 hz (by rfl) (fun hb6 => ?_) (fun hb6 => ?_)
    · exact j28
    · refine zG_wp (pc := 25) (L := [.inr (.inr (some 8)), .inl a1, .inl a2, .inl a3]) (st := []) 1 hd0 hz zp_170 (qm_170 (by first | exact zdk hd rfl | omega) hC  a3 (by first | with_reducible exact ha3 | omega)) (by rfl) (fun x8 hx8 => ?_)
      refine zG_wf_ne (pc := 25) (n' := 28) (t := 31) (L := [.inr (.inr (some 8)), .inl a1, .inl a2, .inl a3]) (st := []) (x := x8) 0 hd0 hz (by rfl) (fun hb9 => ?_) (fun hb9 => ?_)
      · refine zG_wv (pc := 40) (L := [.inr (.inr (some 8)), .inl a1, .inl a2, .inl a3]) (st := []) 4 hd0 hz zp_41 (qm_41_60 (by first | exact zdk hd rfl | omega) hC  a3 (by first | with_reducible exact ha3 | omega) (-1) (by first | decide | omega)) (by rfl) (fun M10 hr => ?_)
        obtain ⟨hCM10, hFM10⟩ := hr
        have hWM10 : qFr [62, 64, 65, 66] M M10 := hW.tr hFM10 (by decide)
        refine zG_wp (pc := 48) (L := [.inr (.inr (some 8)), .inl a1, .inl a2, .inl a3]) (st := []) 3 hd0 hz zp_42 (qm_42_60 (by first | exact zdk hd rfl | omega) hCM10  a1 (by first | with_reducible exact ha1 | omega)) (by rfl) (fun x13 hx13 => ?_)
        have j64 : ∀ (v14 : Int) , (-2147483648) ≤ v14 ∧ v14 ≤ 2147483647 → zG n (0, 0) d 140 (64, [.inr (.inr (some 8)), .inl a1, .inl a2, .inl a3], [.inl v14]) M10 (fun v M' => qWf qCI [62, 64, 65, 66] M M' ∧ qRi (fun x => (-2147483648) ≤ x ∧ x ≤ 2147483647) v) := by
          intro v14 hv14
          exact zG_wr (r := some (.inl v14)) 0 hd0 hz (by rfl) ⟨⟨hCM10, hWM10⟩, _, rfl, by omega⟩
        refine zG_wf_eq (pc := 48) (n' := 51) (t := 63) (L := [.inr (.inr (some 8)), .inl a1, .inl a2, .inl a3]) (st := []) (x := x13) 0 hd0 hz (by rfl) (fun hb15 => ?_) (fun hb15 => ?_)
        · refine zG_w (c' := (64, [.inr (.inr (some 8)), .inl a1, .inl a2, .inl a3], [.inl (-1)])) 1 hd0 hz (by rfl) ?_
          exact j64 (-1) (by first | decide | omega)
        · refine zG_wp (pc := 60) (L := [.inr (.inr (some 8)), .inl a1, .inl a2, .inl a3]) (st := []) 4 hd0 hz zp_47 (qm_47_60 (by first | exact zdk hd rfl | omega) hCM10  a1 (by first | with_reducible exact ha1 | omega) a2 (by first | with_reducible exact ha2 | omega)) (by rfl) (fun x17 hx17 => ?_)
          refine zG_w (c' := (64, [.inr (.inr (some 8)), .inl a1, .inl a2, .inl a3], [.inl x17])) 1 hd0 hz (by rfl) ?_
          exact j64 x17 (by omega)
      · exact j28
theorem qm_44_60 {n d : Nat} {M : zM} (hd : 2 ≤ d) (hC : qCI M) (a1 : Int) (ha1 : (-2147483648) ≤ a1 ∧ a1 ≤ 2147483647) (a2 : Int) (ha2 : (-2147483648) ≤ a2 ∧ a2 ≤ 2147483647) : qOkP n d 44 [.inr (.inr (some 60)), .inl a1, .inl a2] 3 M (qRi (fun x => (-2147483648) ≤ x ∧ x ≤ 2147483647)) := by
  have hz := zp_44
  have hd0 : 0 < d := by omega
  show zG n (0, 0) d 44 (0, [.inr (.inr (some 60)), .inl a1, .inl a2], []) M _
  obtain ⟨x1, hx1⟩ : ∃ x : Int, x = w32 (a1 * 14) := ⟨_, rfl⟩
  have hx1r : qin x1 := by rw [hx1]; exact w32_in _
  obtain ⟨x2, hx2⟩ : ∃ x : Int, x = w32 (x1 + a2) := ⟨_, rfl⟩
  have hx2r : x2 = (x1 + a2 + 2147483648) % 4294967296 - 2147483648 := hx2
  refine zG_wp (pc := 14) (L := [.inr (.inr (some 60)), .inl a1, .inl a2]) (st := []) 8 hd0 hz zp_106 (qw_get (by first | exact zdk hd rfl | omega) hC (⟨by decide, rfl, rfl⟩ : qT n 63 280 4) x2 (by omega) 0 (by first | decide | omega)) (by subst hx2; subst hx1; rfl) (fun x4 hx4 => ?_)
  exact zG_wr (r := some (.inl x4)) 0 hd0 hz (by rfl) ⟨rfl, _, rfl, by omega⟩
theorem qm_45_60 {n d : Nat} {M : zM} (hd : 2 ≤ d) (hC : qCI M) (a1 : Int) (ha1 : (-2147483648) ≤ a1 ∧ a1 ≤ 2147483647) (a2 : Int) (ha2 : (-2147483648) ≤ a2 ∧ a2 ≤ 2147483647) : qOkP n d 45 [.inr (.inr (some 60)), .inl a1, .inl a2] 3 M (qRi (fun x => (-2147483648) ≤ x ∧ x ≤ 2147483647)) := by
  have hz := zp_45
  have hd0 : 0 < d := by omega
  show zG n (0, 0) d 45 (0, [.inr (.inr (some 60)), .inl a1, .inl a2], []) M _
  obtain ⟨x1, hx1⟩ : ∃ x : Int, x = w32 (a1 * 14) := ⟨_, rfl⟩
  have hx1r : qin x1 := by rw [hx1]; exact w32_in _
  obtain ⟨x2, hx2⟩ : ∃ x : Int, x = w32 (x1 + a2) := ⟨_, rfl⟩
  have hx2r : x2 = (x1 + a2 + 2147483648) % 4294967296 - 2147483648 := hx2
  refine zG_wp (pc := 14) (L := [.inr (.inr (some 60)), .inl a1, .inl a2]) (st := []) 8 hd0 hz zp_106 (qw_get (by first | exact zdk hd rfl | omega) hC (⟨by decide, rfl, rfl⟩ : qT n 63 280 4) x2 (by omega) 1 (by first | decide | omega)) (by subst hx2; subst hx1; rfl) (fun x4 hx4 => ?_)
  exact zG_wr (r := some (.inl x4)) 0 hd0 hz (by rfl) ⟨rfl, _, rfl, by omega⟩
theorem qm_46_60 {n d : Nat} {M : zM} (hd : 2 ≤ d) (hC : qCI M) (a1 : Int) (ha1 : (-2147483648) ≤ a1 ∧ a1 ≤ 2147483647) (a2 : Int) (ha2 : (-2147483648) ≤ a2 ∧ a2 ≤ 2147483647) : qOkP n d 46 [.inr (.inr (some 60)), .inl a1, .inl a2] 3 M (qRi (fun x => (-2147483648) ≤ x ∧ x ≤ 2147483647)) := by
  have hz := zp_46
  have hd0 : 0 < d := by omega
  show zG n (0, 0) d 46 (0, [.inr (.inr (some 60)), .inl a1, .inl a2], []) M _
  obtain ⟨x1, hx1⟩ : ∃ x : Int, x = w32 (a1 * 14) := ⟨_, rfl⟩
  have hx1r : qin x1 := by rw [hx1]; exact w32_in _
  obtain ⟨x2, hx2⟩ : ∃ x : Int, x = w32 (x1 + a2) := ⟨_, rfl⟩
  have hx2r : x2 = (x1 + a2 + 2147483648) % 4294967296 - 2147483648 := hx2
  refine zG_wp (pc := 14) (L := [.inr (.inr (some 60)), .inl a1, .inl a2]) (st := []) 8 hd0 hz zp_106 (qw_get (by first | exact zdk hd rfl | omega) hC (⟨by decide, rfl, rfl⟩ : qT n 63 280 4) x2 (by omega) 2 (by first | decide | omega)) (by subst hx2; subst hx1; rfl) (fun x4 hx4 => ?_)
  exact zG_wr (r := some (.inl x4)) 0 hd0 hz (by rfl) ⟨rfl, _, rfl, by omega⟩
theorem qm_141_8 {n d : Nat} {M : zM} (hd : 7 ≤ d) (hC : qCI M) (a1 : Int) (ha1 : (-2147483648) ≤ a1 ∧ a1 ≤ 2147483647) (a2 : Int) (ha2 : (-2147483648) ≤ a2 ∧ a2 ≤ 2147483647) (a3 : Int) (ha3 : (-2147483648) ≤ a3 ∧ a3 ≤ 2147483647) (a4 : Int) (ha4 : (-2147483648) ≤ a4 ∧ a4 ≤ 2147483647) : qOkM n d 141 [.inr (.inr (some 8)), .inl a1, .inl a2, .inl a3, .inl a4] 5 qCI [62, 64, 65, 66] M (qRi (fun x => (-2147483648) ≤ x ∧ x ≤ 2147483647)) := by
  have hz := zp_141
  have hd0 : 0 < d := by omega
  have hW : qFr [62, 64, 65, 66] M M := qFr.rfl
  show zG n (0, 0) d 141 (0, [.inr (.inr (some 8)), .inl a1, .inl a2, .inl a3, .inl a4], []) M _
  refine zG_wp (pc := 5) (L := [.inr (.inr (some 8)), .inl a1, .inl a2, .inl a3, .inl a4]) (st := []) 2 hd0 hz zp_174 (qm_174_8 (by first | exact zdk hd rfl | omega) hC  a1 (by first | with_reducible exact ha1 | omega)) (by rfl) (fun x2 hx2 => ?_)
  have j33 : zG n (0, 0) d 141 (33, [.inr (.inr (some 8)), .inl a1, .inl a2, .inl a3, .inl a4], []) M (fun v M' => qWf qCI [62, 64, 65, 66] M M' ∧ qRi (fun x => (-2147483648) ≤ x ∧ x ≤ 2147483647) v) := by
    exact zG_wr (r := some (.inl (-2))) 1 hd0 hz (by rfl) ⟨⟨hC, hW⟩, _, rfl, by omega⟩
  refine zG_wf_eq (pc := 5) (n' := 8) (t := 33) (L := [.inr (.inr (some 8)), .inl a1, .inl a2, .inl a3, .inl a4]) (st := []) (x := x2) 0 hd0 hz (by rfl) (fun hb3 => ?_) (fun hb3 => ?_)
  · exact j33
  · refine zG_wp (pc := 13) (L := [.inr (.inr (some 8)), .inl a1, .inl a2, .inl a3, .inl a4]) (st := []) 2 hd0 hz zp_175 (qm_175_8 (by first | exact zdk hd rfl | omega) hC  a2 (by first | with_reducible exact ha2 | omega)) (by rfl) (fun x5 hx5 => ?_)
    refine zG_wf_eq (pc := 13) (n' := 16) (t := 33) (L := [.inr (.inr (some 8)), .inl a1, .inl a2, .inl a3, .inl a4]) (st := []) (x := x5) 0 hd0 hz (by rfl) (fun hb6 => ?_) (fun hb6 => ?_)
    · exact j33
    · refine zG_wp (pc := 20) (L := [.inr (.inr (some 8)), .inl a1, .inl a2, .inl a3, .inl a4]) (st := []) 1 hd0 hz zp_170 (qm_170 (by first | exact zdk hd rfl | omega) hC  a3 (by first | with_reducible exact ha3 | omega)) (by rfl) (fun x8 hx8 => ?_)
      refine zG_wf_eq (pc := 20) (n' := 23) (t := 33) (L := [.inr (.inr (some 8)), .inl a1, .inl a2, .inl a3, .inl a4]) (st := []) (x := x8) 0 hd0 hz (by rfl) (fun hb9 => ?_) (fun hb9 => ?_)
      · exact j33
      · refine zG_wp (pc := 30) (L := [.inr (.inr (some 8)), .inl a1, .inl a2, .inl a3, .inl a4]) (st := []) 3 hd0 hz zp_169 (qm_169 (by first | exact zdk hd rfl | omega) hC  a4 (by first | with_reducible exact ha4 | omega) 0 (by first | decide | omega) 2 (by first | decide | omega)) (by rfl) (fun x11 hx11 => ?_)
        refine zG_wf_ne (pc := 30) (n' := 33) (t := 36) (L := [.inr (.inr (some 8)), .inl a1, .inl a2, .inl a3, .inl a4]) (st := []) (x := x11) 0 hd0 hz (by rfl) (fun hb12 => ?_) (fun hb12 => ?_)
        · refine zG_wv (pc := 45) (L := [.inr (.inr (some 8)), .inl a1, .inl a2, .inl a3, .inl a4]) (st := []) 4 hd0 hz zp_41 (qm_41_60 (by first | exact zdk hd rfl | omega) hC  a3 (by first | with_reducible exact ha3 | omega) (-1) (by first | decide | omega)) (by rfl) (fun M13 hr => ?_)
          obtain ⟨hCM13, hFM13⟩ := hr
          have hWM13 : qFr [62, 64, 65, 66] M M13 := hW.tr hFM13 (by decide)
          refine zG_wf_ne (pc := 47) (n' := 50) (t := 60) (L := [.inr (.inr (some 8)), .inl a1, .inl a2, .inl a3, .inl a4]) (st := []) (x := a4) 1 hd0 hz (by rfl) (fun hb15 => ?_) (fun hb15 => ?_)
          · refine zG_w (c' := (63, [.inr (.inr (some 8)), .inl a1, .inl a2, .inl a3, .inl a4], [.inl 1, .inl a4])) 2 hd0 hz (by rfl) ?_
            have j87 : ∀ (v16 : Int) , (-2147483648) ≤ v16 ∧ v16 ≤ 2147483647 → zG n (0, 0) d 141 (87, [.inr (.inr (some 8)), .inl a1, .inl a2, .inl a3, .inl a4], [.inl v16]) M13 (fun v M' => qWf qCI [62, 64, 65, 66] M M' ∧ qRi (fun x => (-2147483648) ≤ x ∧ x ≤ 2147483647) v) := by
              intro v16 hv16
              exact zG_wr (r := some (.inl v16)) 0 hd0 hz (by rfl) ⟨⟨hCM13, hWM13⟩, _, rfl, by omega⟩
            refine zG_wi_ne (pc := 63) (n' := 66) (t := 78) (L := [.inr (.inr (some 8)), .inl a1, .inl a2, .inl a3, .inl a4]) (st := []) (x := a4) (y := 1) 0 hd0 hz (by rfl) (fun hb17 => ?_) (fun hb17 => ?_)
            · refine zG_wp (pc := 87) (L := [.inr (.inr (some 8)), .inl a1, .inl a2, .inl a3, .inl a4]) (st := []) 4 hd0 hz zp_46 (qm_46_60 (by first | exact zdk hd rfl | omega) hCM13  a1 (by first | with_reducible exact ha1 | omega) a2 (by first | with_reducible exact ha2 | omega)) (by rfl) (fun x19 hx19 => ?_)
              exact j87 x19 (by omega)
            · refine zG_wp (pc := 75) (L := [.inr (.inr (some 8)), .inl a1, .inl a2, .inl a3, .inl a4]) (st := []) 4 hd0 hz zp_45 (qm_45_60 (by first | exact zdk hd rfl | omega) hCM13  a1 (by first | with_reducible exact ha1 | omega) a2 (by first | with_reducible exact ha2 | omega)) (by rfl) (fun x21 hx21 => ?_)
              refine zG_w (c' := (87, [.inr (.inr (some 8)), .inl a1, .inl a2, .inl a3, .inl a4], [.inl x21])) 1 hd0 hz (by rfl) ?_
              exact j87 x21 (by omega)
          · refine zG_wp (pc := 59) (L := [.inr (.inr (some 8)), .inl a1, .inl a2, .inl a3, .inl a4]) (st := []) 4 hd0 hz zp_44 (qm_44_60 (by first | exact zdk hd rfl | omega) hCM13  a1 (by first | with_reducible exact ha1 | omega) a2 (by first | with_reducible exact ha2 | omega)) (by rfl) (fun x23 hx23 => ?_)
            exact zG_wr (r := some (.inl x23)) 0 hd0 hz (by rfl) ⟨⟨hCM13, hWM13⟩, _, rfl, by omega⟩
        · exact j33
theorem qm_30_76 {n d : Nat} {M : zM} (hd : 2 ≤ d) (hC : qCI M) (a1 : Int) (ha1 : (-2147483648) ≤ a1 ∧ a1 ≤ 2147483647) (a2 : Int) (ha2 : 0 ≤ a2 ∧ a2 ≤ 1) : qOkP n d 30 [.inr (.inr (some 76)), .inl a1, .inl a2] 8 M (qRi (fun x => (-1) ≤ x ∧ x ≤ 9)) := by
  have hz := zp_30
  have hd0 : 0 < d := by omega
  show zG n (0, 0) d 30 (0, [.inr (.inr (some 76)), .inl a1, .inl a2, zN, zN, zN, zN, zN], []) M _
  refine zG_w (c' := (8, [.inr (.inr (some 76)), .inl a1, .inl a2, .inl (-1), .inl (-1), .inl 0, zN, zN], [])) 6 hd0 hz (by rfl) ?_
  have j8 : ∀ (N : Nat) (v1 v2 v3 : Int) , (10 - v3 : Int).toNat < N → (-1) ≤ v1 ∧ v1 ≤ 9 → (-1) ≤ v2 ∧ v2 ≤ 2147483647 → 0 ≤ v3 ∧ v3 ≤ 10 → zG n (0, 0) d 30 (8, [.inr (.inr (some 76)), .inl a1, .inl a2, .inl v1, .inl v2, .inl v3, zN, zN], []) M (fun v M' => M' = M ∧ qRi (fun x => (-1) ≤ x ∧ x ≤ 9) v) := by
    intro N
    induction N with
    | zero => intro v1 v2 v3 hN hv1 hv2 hv3; exact absurd hN (Nat.not_lt_zero _)
    | succ N ih8 =>
      intro v1 v2 v3 hN hv1 hv2 hv3
      replace hN : 10 - v3 < (N : Int) + 1 := by omega
      refine zG_wp (pc := 20) (L := [.inr (.inr (some 76)), .inl a1, .inl a2, .inl v1, .inl v2, .inl v3, zN, zN]) (st := [.inl v3]) 4 hd0 hz zp_101 (qw_size (by first | exact zdk hd rfl | omega) hC (⟨by decide, rfl, rfl⟩ : qT n 22 10 164) ) (by rfl) (fun x5 hx5 => ?_)
      refine zG_wi_ge (pc := 20) (n' := 23) (t := 97) (L := [.inr (.inr (some 76)), .inl a1, .inl a2, .inl v1, .inl v2, .inl v3, zN, zN]) (st := []) (x := v3) (y := x5) 0 hd0 hz (by rfl) (fun hb6 => ?_) (fun hb6 => ?_)
      · exact zG_wr (r := some (.inl v1)) 1 hd0 hz (by rfl) ⟨rfl, _, rfl, by omega⟩
      · refine zG_wp (pc := 36) (L := [.inr (.inr (some 76)), .inl a1, .inl a2, .inl v1, .inl v2, .inl v3, zN, zN]) (st := []) 5 hd0 hz zp_106 (qw_get (by first | exact zdk hd rfl | omega) hC (⟨by decide, rfl, rfl⟩ : qT n 22 10 164) v3 (by first | with_reducible exact hv3 | omega) 0 (by first | decide | omega)) (by rfl) (fun x8 hx8 => ?_)
        refine zG_w (c' := (39, [.inr (.inr (some 76)), .inl a1, .inl a2, .inl v1, .inl v2, .inl v3, .inl x8, zN], [.inl a2])) 2 hd0 hz (by rfl) ?_
        have j64 : ∀ (v9 : Int) , 0 ≤ v9 ∧ v9 ≤ 1 → zG n (0, 0) d 30 (64, [.inr (.inr (some 76)), .inl a1, .inl a2, .inl v1, .inl v2, .inl v3, .inl x8, zN], [.inl v9]) M (fun v M' => M' = M ∧ qRi (fun x => (-1) ≤ x ∧ x ≤ 9) v) := by
          intro v9 hv9
          refine zG_w (c' := (68, [.inr (.inr (some 76)), .inl a1, .inl a2, .inl v1, .inl v2, .inl v3, .inl x8, .inl v9], [.inl v9])) 2 hd0 hz (by rfl) ?_
          have j91 : ∀ (v10 v11 : Int) , (-1) ≤ v10 ∧ v10 ≤ 9 → (-1) ≤ v11 ∧ v11 ≤ 2147483647 → zG n (0, 0) d 30 (91, [.inr (.inr (some 76)), .inl a1, .inl a2, .inl v10, .inl v11, .inl v3, .inl x8, .inl v9], []) M (fun v M' => M' = M ∧ qRi (fun x => (-1) ≤ x ∧ x ≤ 9) v) := by
            intro v10 v11 hv10 hv11
            obtain ⟨x12, hx12⟩ : ∃ x : Int, x = w32 (v3 + 1) := ⟨_, rfl⟩
            have hx12e : x12 = v3 + 1 := by rw [hx12]; exact w32_id (by omega)
            refine zG_w (c' := (8, [.inr (.inr (some 76)), .inl a1, .inl a2, .inl v10, .inl v11, .inl x12, .inl x8, .inl v9], [])) 2 hd0 hz (by subst hx12; rfl) ?_
            exact zG_weak (ih8 v10 v11 x12 (by omega) (by omega) (by omega) (by omega)) ⟨.inr rfl, .inr rfl, .inr rfl, .inr rfl, .inr rfl, .inr rfl, .inl rfl, .inl rfl, trivial⟩
          refine zG_wf_eq (pc := 68) (n' := 71) (t := 91) (L := [.inr (.inr (some 76)), .inl a1, .inl a2, .inl v1, .inl v2, .inl v3, .inl x8, .inl v9]) (st := []) (x := v9) 0 hd0 hz (by rfl) (fun hb13 => ?_) (fun hb13 => ?_)
          · exact j91 v1 v2 (by first | with_reducible exact hv2 | omega) (by omega)
          · refine zG_wi_gt (pc := 74) (n' := 77) (t := 91) (L := [.inr (.inr (some 76)), .inl a1, .inl a2, .inl v1, .inl v2, .inl v3, .inl x8, .inl v9]) (st := []) (x := x8) (y := a1) 2 hd0 hz (by rfl) (fun hb14 => ?_) (fun hb14 => ?_)
            · exact j91 v1 v2 (by first | with_reducible exact hv2 | omega) (by omega)
            · refine zG_wi_lt (pc := 81) (n' := 84) (t := 91) (L := [.inr (.inr (some 76)), .inl a1, .inl a2, .inl v1, .inl v2, .inl v3, .inl x8, .inl v9]) (st := []) (x := x8) (y := v2) 2 hd0 hz (by rfl) (fun hb15 => ?_) (fun hb15 => ?_)
              · exact j91 v1 v2 (by first | with_reducible exact hv2 | omega) (by omega)
              · refine zG_w (c' := (91, [.inr (.inr (some 76)), .inl a1, .inl a2, .inl v3, .inl x8, .inl v3, .inl x8, .inl v9], [])) 4 hd0 hz (by rfl) ?_
                exact j91 v3 x8 (by omega) (by omega)
        have j59 : zG n (0, 0) d 30 (59, [.inr (.inr (some 76)), .inl a1, .inl a2, .inl v1, .inl v2, .inl v3, .inl x8, zN], []) M (fun v M' => M' = M ∧ qRi (fun x => (-1) ≤ x ∧ x ≤ 9) v) := by
          refine zG_w (c' := (64, [.inr (.inr (some 76)), .inl a1, .inl a2, .inl v1, .inl v2, .inl v3, .inl x8, zN], [.inl 1])) 2 hd0 hz (by rfl) ?_
          exact j64 1 (by first | decide | omega)
        refine zG_wf_eq (pc := 39) (n' := 42) (t := 59) (L := [.inr (.inr (some 76)), .inl a1, .inl a2, .inl v1, .inl v2, .inl v3, .inl x8, zN]) (st := []) (x := a2) 0 hd0 hz (by rfl) (fun hb16 => ?_) (fun hb16 => ?_)
        · exact j59
        · refine zG_wp (pc := 55) (L := [.inr (.inr (some 76)), .inl a1, .inl a2, .inl v1, .inl v2, .inl v3, .inl x8, zN]) (st := []) 5 hd0 hz zp_106 (qw_get (by first | exact zdk hd rfl | omega) hC (⟨by decide, rfl, rfl⟩ : qT n 22 10 164) v3 (by first | with_reducible exact hv3 | omega) 1 (by first | decide | omega)) (by rfl) (fun x18 hx18 => ?_)
          refine zG_wi_ne (pc := 56) (n' := 59) (t := 63) (L := [.inr (.inr (some 76)), .inl a1, .inl a2, .inl v1, .inl v2, .inl v3, .inl x8, zN]) (st := []) (x := x18) (y := 1) 1 hd0 hz (by rfl) (fun hb19 => ?_) (fun hb19 => ?_)
          · refine zG_w (c' := (64, [.inr (.inr (some 76)), .inl a1, .inl a2, .inl v1, .inl v2, .inl v3, .inl x8, zN], [.inl 0])) 1 hd0 hz (by rfl) ?_
            exact j64 0 (by first | decide | omega)
          · exact j59
  exact j8 ((10 - 0 : Int).toNat + 1) (-1) (-1) 0 (by first | decide | omega) (by omega) (by omega) (by omega)
theorem qm_29_76 {n d : Nat} {M : zM} (hd : 3 ≤ d) (hC : qCI M) (a1 : Int) (ha1 : (-2147483648) ≤ a1 ∧ a1 ≤ 2147483647) (a2 : Int) (ha2 : (-2147483648) ≤ a2 ∧ a2 ≤ 2147483647) : qOkP n d 29 [.inr (.inr (some 76)), .inl a1, .inl a2] 5 M (qRi (fun x => (-2147483648) ≤ x ∧ x ≤ 2147483647)) := by
  have hz := zp_29
  have hd0 : 0 < d := by omega
  show zG n (0, 0) d 29 (0, [.inr (.inr (some 76)), .inl a1, .inl a2, zN, zN], []) M _
  refine zG_wp (pc := 6) (L := [.inr (.inr (some 76)), .inl a1, .inl a2, zN, zN]) (st := []) 3 hd0 hz zp_30 (qm_30_76 (by first | exact zdk hd rfl | omega) hC  a2 (by first | with_reducible exact ha2 | omega) 1 (by first | decide | omega)) (by rfl) (fun x2 hx2 => ?_)
  refine zG_wi_eq (pc := 9) (n' := 12) (t := 14) (L := [.inr (.inr (some 76)), .inl a1, .inl a2, .inl x2, zN]) (st := []) (x := x2) (y := (-1)) 3 hd0 hz (by rfl) (fun hb3 => ?_) (fun hb3 => ?_)
  · refine zG_wp (pc := 26) (L := [.inr (.inr (some 76)), .inl a1, .inl a2, .inl x2, zN]) (st := []) 5 hd0 hz zp_106 (qw_get (by first | exact zdk hd rfl | omega) hC (⟨by decide, rfl, rfl⟩ : qT n 12 20 3) a1 (by first | with_reducible exact ha1 | omega) 1 (by first | decide | omega)) (by rfl) (fun x5 hx5 => ?_)
    refine zG_w (c' := (31, [.inr (.inr (some 76)), .inl a1, .inl a2, .inl x2, .inl x5], [.inl (-1), .inl x5])) 3 hd0 hz (by rfl) ?_
    have j56 : ∀ (v6 : Int) , (-2147483648) ≤ v6 ∧ v6 ≤ 2147483647 → zG n (0, 0) d 29 (56, [.inr (.inr (some 76)), .inl a1, .inl a2, .inl x2, .inl x5], [.inl v6]) M (fun v M' => M' = M ∧ qRi (fun x => (-2147483648) ≤ x ∧ x ≤ 2147483647) v) := by
      intro v6 hv6
      exact zG_wr (r := some (.inl v6)) 0 hd0 hz (by rfl) ⟨rfl, _, rfl, by omega⟩
    refine zG_wi_eq (pc := 31) (n' := 34) (t := 39) (L := [.inr (.inr (some 76)), .inl a1, .inl a2, .inl x2, .inl x5]) (st := []) (x := x5) (y := (-1)) 0 hd0 hz (by rfl) (fun hb7 => ?_) (fun hb7 => ?_)
    · refine zG_wp (pc := 52) (L := [.inr (.inr (some 76)), .inl a1, .inl a2, .inl x2, .inl x5]) (st := [.inr (.inr (some 76))]) 6 hd0 hz zp_106 (qw_get (by first | exact zdk hd rfl | omega) hC (⟨by decide, rfl, rfl⟩ : qT n 12 20 3) a1 (by first | with_reducible exact ha1 | omega) 0 (by first | decide | omega)) (by rfl) (fun x9 hx9 => ?_)
      refine zG_wp (pc := 56) (L := [.inr (.inr (some 76)), .inl a1, .inl a2, .inl x2, .inl x5]) (st := []) 1 hd0 hz zp_30 (qm_30_76 (by first | exact zdk hd rfl | omega) hC  x9 (by omega) 0 (by first | decide | omega)) (by rfl) (fun x11 hx11 => ?_)
      exact j56 x11 (by omega)
    · refine zG_w (c' := (56, [.inr (.inr (some 76)), .inl a1, .inl a2, .inl x2, .inl x5], [.inl x5])) 2 hd0 hz (by rfl) ?_
      exact j56 x5 (by omega)
  · exact zG_wr (r := some (.inl x2)) 1 hd0 hz (by rfl) ⟨rfl, _, rfl, by omega⟩
theorem qm_298_74 {n d : Nat} {M : zM} (hd : 1 ≤ d) (hC : qCI M) (a1 : Int) : qOkM n d 298 [.inr (.inr (some 74)), .inr (.inl (a1))] 5 qCI [74] M qRn := by
  have hz := zp_298
  have hd0 : 0 < d := by omega
  have hW : qFr [74] M M := qFr.rfl
  show zG n (0, 0) d 298 (0, [.inr (.inr (some 74)), .inr (.inl (a1)), zN, zN, zN], []) M _
  refine zG_w (c' := (6, [.inr (.inr (some 74)), .inr (.inl (a1)), zN, .inl 0, .inl 15], [])) 5 hd0 hz (by rfl) ?_
  have j6 : ∀ (N : Nat) (v1 : Int) (M2 : zM) , (15 - v1 : Int).toNat < N → 0 ≤ v1 ∧ v1 ≤ 15 → qCI M2 → qFr [74] M M2 → zG n (0, 0) d 298 (6, [.inr (.inr (some 74)), .inr (.inl (a1)), zN, .inl v1, .inl 15], []) M2 (fun v M' => qWf qCI [74] M M' ∧ qRn v) := by
    intro N
    induction N with
    | zero => intro v1 M2 hN hv1 hCM2 hWM2; exact absurd hN (Nat.not_lt_zero _)
    | succ N ih6 =>
      intro v1 M2 hN hv1 hCM2 hWM2
      replace hN : 15 - v1 < (N : Int) + 1 := by omega
      refine zG_wi_ge (pc := 9) (n' := 12) (t := 22) (L := [.inr (.inr (some 74)), .inr (.inl (a1)), zN, .inl v1, .inl 15]) (st := []) (x := v1) (y := 15) 2 hd0 hz (by rfl) (fun hb3 => ?_) (fun hb3 => ?_)
      · exact zG_ret hd0 hz rfl rfl ⟨⟨hCM2, hWM2⟩, rfl⟩
      · refine zG_w (c' := (15, [.inr (.inr (some 74)), .inr (.inl (a1)), zN, .inl v1, .inl 15], [.inr (.inl (a1)), .inl v1, .inr (.inr (some 74))])) 3 hd0 hz (by rfl) ?_
        refine zG_last hd0 hz rfl rfl (by omega) ?_
        obtain ⟨M4, hM4⟩ : ∃ X : zM, X = zput M2 74 (v1 : Int).toNat a1 := ⟨_, rfl⟩
        rw [← hM4]
        have hCM4 : qCI M4 := by rw [hM4]; exact hCM2.put (r := 74) rfl (.inr (.inl (by decide)))
        have hWM4 : qFr [74] M M4 := by rw [hM4]; exact hWM2.put (by decide)
        show zG n (0, 0) d 298 (16, [.inr (.inr (some 74)), .inr (.inl (a1)), zN, .inl v1, .inl 15], []) M4 _
        obtain ⟨x5, hx5⟩ : ∃ x : Int, x = w32 (v1 + 1) := ⟨_, rfl⟩
        have hx5e : x5 = v1 + 1 := by rw [hx5]; exact w32_id (by omega)
        refine zG_w (c' := (6, [.inr (.inr (some 74)), .inr (.inl (a1)), zN, .inl x5, .inl 15], [])) 2 hd0 hz (by subst hx5; rfl) ?_
        exact ih6 x5 M4 (by omega) (by omega) hCM4 hWM4
  exact j6 ((15 - 0 : Int).toNat + 1) 0 M (by omega) (by omega) hC hW
theorem qm_56_72 {n d : Nat} {M : zM} (hd : 2 ≤ d) (hC : qCI M)  : qOkM n d 56 [.inr (.inr (some 72))] 1 qCI [72, 74] M qRn := by
  have hz := zp_56
  have hd0 : 0 < d := by omega
  have hW : qFr [72, 74] M M := qFr.rfl
  show zG n (0, 0) d 56 (0, [.inr (.inr (some 72))], []) M _
  refine zG_wv (pc := 8) (L := [.inr (.inr (some 72))]) (st := []) 3 hd0 hz zp_298 (qm_298_74 (by first | exact zdk hd rfl | omega) hC  0) (by rfl) (fun M1 hr => ?_)
  obtain ⟨hCM1, hFM1⟩ := hr
  have hWM1 : qFr [72, 74] M M1 := hW.tr hFM1 (by decide)
  refine zG_w (c' := (10, [.inr (.inr (some 72))], [.inl 0, .inr (.inr (some 72))])) 2 hd0 hz (by rfl) ?_
  refine zG_putf (.inl rfl) hd0 hz rfl (by decide) rfl rfl ?_
  obtain ⟨M3, hM3⟩ : ∃ X : zM, X = zput M1 72 3 0 := ⟨_, rfl⟩
  rw [← hM3]
  have hCM3 : qCI M3 := by rw [hM3]; exact hCM1.putRk (by omega)
  have hWM3 : qFr [72, 74] M M3 := by rw [hM3]; exact hWM1.put (by decide)
  have e4 : M3 72 3 = 0 := by rw [hM3]; exact qput_eq
  show zG n (0, 0) d 56 (13, [.inr (.inr (some 72))], []) M3 _
  exact zG_wr (r := none) 0 hd0 hz (by rfl) ⟨⟨hCM3, hWM3⟩, rfl⟩
theorem qm_57_72 {n d : Nat} {M : zM} (hd : 1 ≤ d) (hC : qCI M) (a1 : Int) (ha1 : (-2147483648) ≤ a1 ∧ a1 ≤ 2147483647) (a2 : Int) : qOkM n d 57 [.inr (.inr (some 72)), .inl a1, .inr (.inl (a2))] 4 qCI [74] M qRn := by
  have hz := zp_57
  have hd0 : 0 < d := by omega
  have hW : qFr [74] M M := qFr.rfl
  show zG n (0, 0) d 57 (0, [.inr (.inr (some 72)), .inl a1, .inr (.inl (a2)), zN], []) M _
  refine zG_w (c' := (1, [.inr (.inr (some 72)), .inl a1, .inr (.inl (a2)), zN], [.inl a1])) 1 hd0 hz (by rfl) ?_
  have j20 : ∀ (M1 : zM) , qCI M1 → qFr [74] M M1 → zG n (0, 0) d 57 (20, [.inr (.inr (some 72)), .inl a1, .inr (.inl (a2)), zN], []) M1 (fun v M' => qWf qCI [74] M M' ∧ qRn v) := by
    intro M1 hCM1 hWM1
    exact zG_wr (r := none) 0 hd0 hz (by rfl) ⟨⟨hCM1, hWM1⟩, rfl⟩
  refine zG_wf_lt (pc := 1) (n' := 4) (t := 20) (L := [.inr (.inr (some 72)), .inl a1, .inr (.inl (a2)), zN]) (st := []) (x := a1) 0 hd0 hz (by rfl) (fun hb2 => ?_) (fun hb2 => ?_)
  · exact j20 M hC hW
  · refine zG_wi_ge (pc := 10) (n' := 13) (t := 20) (L := [.inr (.inr (some 72)), .inl a1, .inr (.inl (a2)), zN]) (st := []) (x := a1) (y := 15) 4 hd0 hz (by rfl) (fun hb3 => ?_) (fun hb3 => ?_)
    · exact j20 M hC hW
    · refine zG_w (c' := (19, [.inr (.inr (some 72)), .inl a1, .inr (.inl (a2)), zN], [.inr (.inl (a2)), .inl a1, .inr (.inr (some 74))])) 4 hd0 hz (by rfl) ?_
      refine zG_last hd0 hz rfl rfl (by omega) ?_
      obtain ⟨M4, hM4⟩ : ∃ X : zM, X = zput M 74 (a1 : Int).toNat a2 := ⟨_, rfl⟩
      rw [← hM4]
      have hCM4 : qCI M4 := by rw [hM4]; exact hC.put (r := 74) rfl (.inr (.inl (by decide)))
      have hWM4 : qFr [74] M M4 := by rw [hM4]; exact hW.put (by decide)
      show zG n (0, 0) d 57 (20, [.inr (.inr (some 72)), .inl a1, .inr (.inl (a2)), zN], []) M4 _
      exact j20 M4 hCM4 hWM4
theorem qm_38_76 {n d : Nat} {M : zM} (hd : 3 ≤ d) (hC : qCI M) (a1 : Int) (ha1 : (-2147483648) ≤ a1 ∧ a1 ≤ 2147483647) (a2 : Int) (ha2 : (-2147483648) ≤ a2 ∧ a2 ≤ 2147483647) (a3 : Int) (ha3 : (-2147483648) ≤ a3 ∧ a3 ≤ 2147483647) : qOkM n d 38 [.inr (.inr (some 76)), .inl a1, .inl a2, .inl a3] 5 qCI [72, 74] M qRn := by
  have hz := zp_38
  have hd0 : 0 < d := by omega
  have hW : qFr [72, 74] M M := qFr.rfl
  show zG n (0, 0) d 38 (0, [.inr (.inr (some 76)), .inl a1, .inl a2, .inl a3, zN], []) M _
  refine zG_wp (pc := 12) (L := [.inr (.inr (some 76)), .inl a1, .inl a2, .inl a3, zN]) (st := []) 5 hd0 hz zp_106 (qw_get (by first | exact zdk hd rfl | omega) hC (⟨by decide, rfl, rfl⟩ : qT n 10 14 4) a2 (by first | with_reducible exact ha2 | omega) 1 (by first | decide | omega)) (by rfl) (fun x2 hx2 => ?_)
  refine zG_wv (pc := 21) (L := [.inr (.inr (some 76)), .inl a1, .inl a2, .inl a3, .inl x2]) (st := []) 3 hd0 hz zp_56 (qm_56_72 (by first | exact zdk hd rfl | omega) hC  ) (by rfl) (fun M3 hr => ?_)
  obtain ⟨hCM3, hFM3⟩ := hr
  have hWM3 : qFr [72, 74] M M3 := hW.tr hFM3 (by decide)
  refine zG_wp (pc := 36) (L := [.inr (.inr (some 76)), .inl a1, .inl a2, .inl a3, .inl x2]) (st := [.inl 7, .inr (.inr (some 72))]) 7 hd0 hz zp_44 (qm_44_60 (by first | exact zdk hd rfl | omega) hCM3  a1 (by first | with_reducible exact ha1 | omega) a2 (by first | with_reducible exact ha2 | omega)) (by rfl) (fun x6 hx6 => ?_)
  refine zG_wv (pc := 40) (L := [.inr (.inr (some 76)), .inl a1, .inl a2, .inl a3, .inl x2]) (st := []) 1 hd0 hz zp_57 (qm_57_72 (by first | exact zdk hd rfl | omega) hCM3  7 (by first | decide | omega) x6) (by rfl) (fun M7 hr => ?_)
  obtain ⟨hCM7, hFM7⟩ := hr
  have hWM7 : qFr [72, 74] M M7 := hWM3.tr hFM7 (by decide)
  refine zG_wp (pc := 55) (L := [.inr (.inr (some 76)), .inl a1, .inl a2, .inl a3, .inl x2]) (st := [.inl 8, .inr (.inr (some 72))]) 7 hd0 hz zp_45 (qm_45_60 (by first | exact zdk hd rfl | omega) hCM7  a1 (by first | with_reducible exact ha1 | omega) a2 (by first | with_reducible exact ha2 | omega)) (by rfl) (fun x10 hx10 => ?_)
  refine zG_wv (pc := 59) (L := [.inr (.inr (some 76)), .inl a1, .inl a2, .inl a3, .inl x2]) (st := []) 1 hd0 hz zp_57 (qm_57_72 (by first | exact zdk hd rfl | omega) hCM7  8 (by first | decide | omega) x10) (by rfl) (fun M11 hr => ?_)
  obtain ⟨hCM11, hFM11⟩ := hr
  have hWM11 : qFr [72, 74] M M11 := hWM7.tr hFM11 (by decide)
  refine zG_wp (pc := 74) (L := [.inr (.inr (some 76)), .inl a1, .inl a2, .inl a3, .inl x2]) (st := [.inl 9, .inr (.inr (some 72))]) 7 hd0 hz zp_46 (qm_46_60 (by first | exact zdk hd rfl | omega) hCM11  a1 (by first | with_reducible exact ha1 | omega) a2 (by first | with_reducible exact ha2 | omega)) (by rfl) (fun x14 hx14 => ?_)
  refine zG_wv (pc := 78) (L := [.inr (.inr (some 76)), .inl a1, .inl a2, .inl a3, .inl x2]) (st := []) 1 hd0 hz zp_57 (qm_57_72 (by first | exact zdk hd rfl | omega) hCM11  9 (by first | decide | omega) x14) (by rfl) (fun M15 hr => ?_)
  obtain ⟨hCM15, hFM15⟩ := hr
  have hWM15 : qFr [72, 74] M M15 := hWM11.tr hFM15 (by decide)
  obtain ⟨x17, hx17⟩ : ∃ x : Int, x = zband x2 a3 := ⟨_, rfl⟩
  have hx17r : qin x17 := by rw [hx17]; exact qb32 _
  refine zG_w (c' := (90, [.inr (.inr (some 76)), .inl a1, .inl a2, .inl a3, .inl x2], [.inl x2, .inl x17, .inl 10, .inr (.inr (some 72))])) 7 hd0 hz (by subst hx17; rfl) ?_
  have j98 : ∀ (v18 v19 : Int) , 10 ≤ v18 ∧ v18 ≤ 10 → zG n (0, 0) d 38 (98, [.inr (.inr (some 76)), .inl a1, .inl a2, .inl a3, .inl x2], [.inr (.inl (v19)), .inl v18, .inr (.inr (some 72))]) M15 (fun v M' => qWf qCI [72, 74] M M' ∧ qRn v) := by
    intro v18 v19 hv18
    refine zG_wv (pc := 101) (L := [.inr (.inr (some 76)), .inl a1, .inl a2, .inl a3, .inl x2]) (st := []) 0 hd0 hz zp_57 (qm_57_72 (by first | exact zdk hd rfl | omega) hCM15  v18 (by first | with_reducible exact hv18 | omega) v19) (by rfl) (fun M20 hr => ?_)
    obtain ⟨hCM20, hFM20⟩ := hr
    have hWM20 : qFr [72, 74] M M20 := hWM15.tr hFM20 (by decide)
    refine zG_wv (pc := 112) (L := [.inr (.inr (some 76)), .inl a1, .inl a2, .inl a3, .inl x2]) (st := []) 5 hd0 hz zp_57 (qm_57_72 (by first | exact zdk hd rfl | omega) hCM20  11 (by first | decide | omega) a2) (by rfl) (fun M22 hr => ?_)
    obtain ⟨hCM22, hFM22⟩ := hr
    have hWM22 : qFr [72, 74] M M22 := hWM20.tr hFM22 (by decide)
    exact zG_wr (r := none) 0 hd0 hz (by rfl) ⟨⟨hCM22, hWM22⟩, rfl⟩
  refine zG_wi_ne (pc := 90) (n' := 93) (t := 97) (L := [.inr (.inr (some 76)), .inl a1, .inl a2, .inl a3, .inl x2]) (st := [.inl 10, .inr (.inr (some 72))]) (x := x17) (y := x2) 0 hd0 hz (by rfl) (fun hb24 => ?_) (fun hb24 => ?_)
  · refine zG_w (c' := (98, [.inr (.inr (some 76)), .inl a1, .inl a2, .inl a3, .inl x2], [.inr (.inl (0)), .inl 10, .inr (.inr (some 72))])) 1 hd0 hz (by rfl) ?_
    exact j98 10 0 (by first | decide | omega)
  · refine zG_w (c' := (98, [.inr (.inr (some 76)), .inl a1, .inl a2, .inl a3, .inl x2], [.inr (.inl (1)), .inl 10, .inr (.inr (some 72))])) 2 hd0 hz (by rfl) ?_
    exact j98 10 1 (by first | decide | omega)
theorem qm_31_76 {n d : Nat} {M : zM} (hd : 1 ≤ d) (hC : qCI M) (a1 : Int) (ha1 : (-2147483648) ≤ a1 ∧ a1 ≤ 2147483647) : qOkP n d 31 [.inr (.inr (some 76)), .inl a1] 2 M (fun v => v = some (.inr (.inr (some 22))) ∨ v = some (.inr (.inr (some 77)))) := by
  have hz := zp_31
  have hd0 : 0 < d := by omega
  show zG n (0, 0) d 31 (0, [.inr (.inr (some 76)), .inl a1], []) M _
  refine zG_wi_ne (pc := 2) (n' := 5) (t := 12) (L := [.inr (.inr (some 76)), .inl a1]) (st := []) (x := a1) (y := (-1)) 2 hd0 hz (by rfl) (fun hb1 => ?_) (fun hb1 => ?_)
  · exact zG_wr (r := some (.inr (.inr (some 22)))) 3 hd0 hz (by rfl) ⟨rfl, by first | exact .inl rfl | exact .inr rfl⟩
  · exact zG_wr (r := some (.inr (.inr (some 77)))) 3 hd0 hz (by rfl) ⟨rfl, by first | exact .inl rfl | exact .inr rfl⟩
theorem qm_65_72 {n d : Nat} {M : zM} (hd : 1 ≤ d) (hC : qCI M) (a1 : Int) : qOkM n d 65 [.inr (.inr (some 72)), .inr (.inl (a1))] 3 qCI [72, 73] M qRn := by
  have hz := zp_65
  have hd0 : 0 < d := by omega
  have hW : qFr [72, 73] M M := qFr.rfl
  show zG n (0, 0) d 65 (0, [.inr (.inr (some 72)), .inr (.inl (a1)), zN], []) M _
  have r1 := hC.rng 72 4 (by decide) (by decide)
  refine zG_w (c' := (4, [.inr (.inr (some 72)), .inr (.inl (a1)), zN], [.inl (M 72 4)])) 2 hd0 hz (by rfl) ?_
  have j39 : ∀ (M2 : zM) , qCI M2 → qFr [72, 73] M M2 → zG n (0, 0) d 65 (39, [.inr (.inr (some 72)), .inr (.inl (a1)), zN], []) M2 (fun v M' => qWf qCI [72, 73] M M' ∧ qRn v) := by
    intro M2 hCM2 hWM2
    exact zG_wr (r := none) 0 hd0 hz (by rfl) ⟨⟨hCM2, hWM2⟩, rfl⟩
  refine zG_wf_lt (pc := 4) (n' := 7) (t := 39) (L := [.inr (.inr (some 72)), .inr (.inl (a1)), zN]) (st := []) (x := (M 72 4)) 0 hd0 hz (by rfl) (fun hb3 => ?_) (fun hb3 => ?_)
  · exact j39 M hC hW
  · refine zG_wi_ge (pc := 16) (n' := 19) (t := 39) (L := [.inr (.inr (some 72)), .inr (.inl (a1)), zN]) (st := []) (x := (M 72 4)) (y := 80) 5 hd0 hz (by rfl) (fun hb4 => ?_) (fun hb4 => ?_)
    · exact j39 M hC hW
    · refine zG_w (c' := (28, [.inr (.inr (some 72)), .inr (.inl (a1)), zN], [.inr (.inl (a1)), .inl (M 72 4), .inr (.inr (some 73))])) 5 hd0 hz (by rfl) ?_
      refine zG_last hd0 hz rfl rfl (by omega) ?_
      obtain ⟨M5, hM5⟩ : ∃ X : zM, X = zput M 73 ((M 72 4) : Int).toNat a1 := ⟨_, rfl⟩
      rw [← hM5]
      have hCM5 : qCI M5 := by rw [hM5]; exact hC.put (r := 73) rfl (.inr (.inl (by decide)))
      have hWM5 : qFr [72, 73] M M5 := by rw [hM5]; exact hW.put (by decide)
      have e6 : M5 72 4 = M 72 4 := by rw [hM5]; exact qput_ne (by decide)
      show zG n (0, 0) d 65 (29, [.inr (.inr (some 72)), .inr (.inl (a1)), zN], []) M5 _
      obtain ⟨x7, hx7⟩ : ∃ x : Int, x = w32 ((M5 72 4) + 1) := ⟨_, rfl⟩
      have hx7r : x7 = ((M5 72 4) + 1 + 2147483648) % 4294967296 - 2147483648 := hx7
      refine zG_w (c' := (36, [.inr (.inr (some 72)), .inr (.inl (a1)), zN], [.inl x7, .inr (.inr (some 72))])) 5 hd0 hz (by subst hx7; rfl) ?_
      refine zG_putf (.inl rfl) hd0 hz rfl (by decide) rfl rfl ?_
      obtain ⟨M8, hM8⟩ : ∃ X : zM, X = zput M5 72 4 x7 := ⟨_, rfl⟩
      rw [← hM8]
      have hCM8 : qCI M8 := by rw [hM8]; exact hCM5.put (r := 72) (k := 4) rfl (.inl (by omega))
      have hWM8 : qFr [72, 73] M M8 := by rw [hM8]; exact hWM5.put (by decide)
      have e9 : M8 72 4 = x7 := by rw [hM8]; exact qput_eq
      show zG n (0, 0) d 65 (39, [.inr (.inr (some 72)), .inr (.inl (a1)), zN], []) M8 _
      exact j39 M8 hCM8 hWM8
theorem qm_66_72 {n d : Nat} {M : zM} (hd : 1 ≤ d) (hC : qCI M)  : qOkM n d 66 [.inr (.inr (some 72))] 1 qCI [72] M qRl := by
  have hz := zp_66
  have hd0 : 0 < d := by omega
  have hW : qFr [72] M M := qFr.rfl
  show zG n (0, 0) d 66 (0, [.inr (.inr (some 72))], []) M _
  have r1 := hC.rng 72 4 (by decide) (by decide)
  refine zG_w (c' := (5, [.inr (.inr (some 72))], [.inl 1, .inl (M 72 4)])) 3 hd0 hz (by rfl) ?_
  have j20 : zG n (0, 0) d 66 (20, [.inr (.inr (some 72))], []) M (fun v M' => qWf qCI [72] M M' ∧ qRl v) := by
    exact zG_wr (r := some (.inr (.inl (0)))) 1 hd0 hz (by rfl) ⟨⟨hC, hW⟩, _, rfl⟩
  refine zG_wi_lt (pc := 5) (n' := 8) (t := 20) (L := [.inr (.inr (some 72))]) (st := []) (x := (M 72 4)) (y := 1) 0 hd0 hz (by rfl) (fun hb2 => ?_) (fun hb2 => ?_)
  · exact j20
  · refine zG_wi_le (pc := 17) (n' := 20) (t := 22) (L := [.inr (.inr (some 72))]) (st := []) (x := (M 72 4)) (y := 80) 5 hd0 hz (by rfl) (fun hb3 => ?_) (fun hb3 => ?_)
    · obtain ⟨x4, hx4⟩ : ∃ x : Int, x = w32 ((M 72 4) - 1) := ⟨_, rfl⟩
      have hx4r : x4 = ((M 72 4) - 1 + 2147483648) % 4294967296 - 2147483648 := hx4
      refine zG_w (c' := (29, [.inr (.inr (some 72))], [.inl x4, .inr (.inr (some 72))])) 5 hd0 hz (by subst hx4; rfl) ?_
      refine zG_putf (.inl rfl) hd0 hz rfl (by decide) rfl rfl ?_
      obtain ⟨M5, hM5⟩ : ∃ X : zM, X = zput M 72 4 x4 := ⟨_, rfl⟩
      rw [← hM5]
      have hCM5 : qCI M5 := by rw [hM5]; exact hC.put (r := 72) (k := 4) rfl (.inl (by omega))
      have hWM5 : qFr [72] M M5 := by rw [hM5]; exact hW.put (by decide)
      have e6 : M5 72 4 = x4 := by rw [hM5]; exact qput_eq
      show zG n (0, 0) d 66 (32, [.inr (.inr (some 72))], []) M5 _
      refine zG_w (c' := (40, [.inr (.inr (some 72))], [.inl (M5 72 4), .inr (.inr (some 73))])) 4 hd0 hz (by rfl) ?_
      refine zG_lald hd0 hz rfl rfl (.inl rfl) (by omega) ?_
      generalize M5 73 ((M5 72 4) : Int).toNat = x7
      show zG n (0, 0) d 66 (41, [.inr (.inr (some 72))], [.inr (.inl (x7))]) M5 _
      exact zG_wr (r := some (.inr (.inl (x7)))) 0 hd0 hz (by rfl) ⟨⟨hCM5, hWM5⟩, _, rfl⟩
    · exact j20
theorem qm_64 {n d : Nat} {M : zM} (hd : 1 ≤ d) (hC : qCI M) (a0 : Int) (ha0 : (-2147483648) ≤ a0 ∧ a0 ≤ 2147483647) (a1 : Int) (a2 : Int) : qOkP n d 64 [.inl a0, .inr (.inl (a1)), .inr (.inl (a2))] 5 M qRl := by
  have hz := zp_64
  have hd0 : 0 < d := by omega
  show zG n (0, 0) d 64 (0, [.inl a0, .inr (.inl (a1)), zN, .inr (.inl (a2)), zN], []) M _
  refine zG_w (c' := (1, [.inl a0, .inr (.inl (a1)), zN, .inr (.inl (a2)), zN], [.inl a0])) 1 hd0 hz (by rfl) ?_
  have j104 : zG n (0, 0) d 64 (104, [.inl a0, .inr (.inl (a1)), zN, .inr (.inl (a2)), zN], []) M (fun v M' => M' = M ∧ qRl v) := by
    refine zG_w (c' := (106, [.inl a0, .inr (.inl (a1)), zN, .inr (.inl (a2)), zN], [.inr (.inl (0)), .inr (.inl (a2))])) 2 hd0 hz (by rfl) ?_
    have j115 : ∀ (v1 : Int) , zG n (0, 0) d 64 (115, [.inl a0, .inr (.inl (a1)), zN, .inr (.inl (a2)), zN], [.inr (.inl (v1))]) M (fun v M' => M' = M ∧ qRl v) := by
      intro v1
      exact zG_wr (r := some (.inr (.inl (v1)))) 0 hd0 hz (by rfl) ⟨rfl, _, rfl⟩
    refine zG_lc_eq hd0 hz rfl rfl (fun hb106 => ?_) (fun hb106 => ?_)
    · refine zG_w (c' := (115, [.inl a0, .inr (.inl (a1)), zN, .inr (.inl (a2)), zN], [.inr (.inl (a1))])) 1 hd0 hz (by rfl) ?_
      exact j115 a1
    · refine zG_w (c' := (115, [.inl a0, .inr (.inl (a1)), zN, .inr (.inl (a2)), zN], [.inr (.inl (0))])) 2 hd0 hz (by rfl) ?_
      exact j115 0
  have j116 : zG n (0, 0) d 64 (116, [.inl a0, .inr (.inl (a1)), zN, .inr (.inl (a2)), zN], []) M (fun v M' => M' = M ∧ qRl v) := by
    refine zG_w (c' := (118, [.inl a0, .inr (.inl (a1)), zN, .inr (.inl (a2)), zN], [.inr (.inl (0)), .inr (.inl (a1))])) 2 hd0 hz (by rfl) ?_
    have j133 : ∀ (v2 : Int) , zG n (0, 0) d 64 (133, [.inl a0, .inr (.inl (a1)), zN, .inr (.inl (a2)), zN], [.inr (.inl (v2))]) M (fun v M' => M' = M ∧ qRl v) := by
      intro v2
      exact zG_wr (r := some (.inr (.inl (v2)))) 0 hd0 hz (by rfl) ⟨rfl, _, rfl⟩
    have j128 : zG n (0, 0) d 64 (128, [.inl a0, .inr (.inl (a1)), zN, .inr (.inl (a2)), zN], []) M (fun v M' => M' = M ∧ qRl v) := by
      refine zG_w (c' := (133, [.inl a0, .inr (.inl (a1)), zN, .inr (.inl (a2)), zN], [.inr (.inl (1))])) 2 hd0 hz (by rfl) ?_
      exact j133 1
    refine zG_lc_ne hd0 hz rfl rfl (fun hb118 => ?_) (fun hb118 => ?_)
    · exact j128
    · refine zG_w (c' := (124, [.inl a0, .inr (.inl (a1)), zN, .inr (.inl (a2)), zN], [.inr (.inl (0)), .inr (.inl (a2))])) 2 hd0 hz (by rfl) ?_
      refine zG_lc_eq hd0 hz rfl rfl (fun hb124 => ?_) (fun hb124 => ?_)
      · refine zG_w (c' := (133, [.inl a0, .inr (.inl (a1)), zN, .inr (.inl (a2)), zN], [.inr (.inl (0))])) 1 hd0 hz (by rfl) ?_
        exact j133 0
      · exact j128
  have j134 : zG n (0, 0) d 64 (134, [.inl a0, .inr (.inl (a1)), zN, .inr (.inl (a2)), zN], []) M (fun v M' => M' = M ∧ qRl v) := by
    refine zG_w (c' := (136, [.inl a0, .inr (.inl (a1)), zN, .inr (.inl (a2)), zN], [.inr (.inl (0)), .inr (.inl (a1))])) 2 hd0 hz (by rfl) ?_
    have j151 : ∀ (v3 : Int) , zG n (0, 0) d 64 (151, [.inl a0, .inr (.inl (a1)), zN, .inr (.inl (a2)), zN], [.inr (.inl (v3))]) M (fun v M' => M' = M ∧ qRl v) := by
      intro v3
      exact zG_wr (r := some (.inr (.inl (v3)))) 0 hd0 hz (by rfl) ⟨rfl, _, rfl⟩
    have j150 : zG n (0, 0) d 64 (150, [.inl a0, .inr (.inl (a1)), zN, .inr (.inl (a2)), zN], []) M (fun v M' => M' = M ∧ qRl v) := by
      refine zG_w (c' := (151, [.inl a0, .inr (.inl (a1)), zN, .inr (.inl (a2)), zN], [.inr (.inl (0))])) 1 hd0 hz (by rfl) ?_
      exact j151 0
    refine zG_lc_eq hd0 hz rfl rfl (fun hb136 => ?_) (fun hb136 => ?_)
    · exact j150
    · refine zG_w (c' := (142, [.inl a0, .inr (.inl (a1)), zN, .inr (.inl (a2)), zN], [.inr (.inl (0)), .inr (.inl (a2))])) 2 hd0 hz (by rfl) ?_
      refine zG_lc_eq hd0 hz rfl rfl (fun hb142 => ?_) (fun hb142 => ?_)
      · exact j150
      · refine zG_w (c' := (151, [.inl a0, .inr (.inl (a1)), zN, .inr (.inl (a2)), zN], [.inr (.inl (1))])) 2 hd0 hz (by rfl) ?_
        exact j151 1
  have j152 : zG n (0, 0) d 64 (152, [.inl a0, .inr (.inl (a1)), zN, .inr (.inl (a2)), zN], []) M (fun v M' => M' = M ∧ qRl v) := by
    refine zG_w (c' := (154, [.inl a0, .inr (.inl (a1)), zN, .inr (.inl (a2)), zN], [.inr (.inl (a2)), .inr (.inl (a1))])) 2 hd0 hz (by rfl) ?_
    have j163 : ∀ (v4 : Int) , zG n (0, 0) d 64 (163, [.inl a0, .inr (.inl (a1)), zN, .inr (.inl (a2)), zN], [.inr (.inl (v4))]) M (fun v M' => M' = M ∧ qRl v) := by
      intro v4
      exact zG_wr (r := some (.inr (.inl (v4)))) 0 hd0 hz (by rfl) ⟨rfl, _, rfl⟩
    refine zG_lc_ge hd0 hz rfl rfl (fun hb154 => ?_) (fun hb154 => ?_)
    · refine zG_w (c' := (163, [.inl a0, .inr (.inl (a1)), zN, .inr (.inl (a2)), zN], [.inr (.inl (0))])) 1 hd0 hz (by rfl) ?_
      exact j163 0
    · refine zG_w (c' := (163, [.inl a0, .inr (.inl (a1)), zN, .inr (.inl (a2)), zN], [.inr (.inl (1))])) 2 hd0 hz (by rfl) ?_
      exact j163 1
  have j164 : zG n (0, 0) d 64 (164, [.inl a0, .inr (.inl (a1)), zN, .inr (.inl (a2)), zN], []) M (fun v M' => M' = M ∧ qRl v) := by
    refine zG_w (c' := (166, [.inl a0, .inr (.inl (a1)), zN, .inr (.inl (a2)), zN], [.inr (.inl (a2)), .inr (.inl (a1))])) 2 hd0 hz (by rfl) ?_
    have j175 : ∀ (v5 : Int) , zG n (0, 0) d 64 (175, [.inl a0, .inr (.inl (a1)), zN, .inr (.inl (a2)), zN], [.inr (.inl (v5))]) M (fun v M' => M' = M ∧ qRl v) := by
      intro v5
      exact zG_wr (r := some (.inr (.inl (v5)))) 0 hd0 hz (by rfl) ⟨rfl, _, rfl⟩
    refine zG_lc_le hd0 hz rfl rfl (fun hb166 => ?_) (fun hb166 => ?_)
    · refine zG_w (c' := (175, [.inl a0, .inr (.inl (a1)), zN, .inr (.inl (a2)), zN], [.inr (.inl (0))])) 1 hd0 hz (by rfl) ?_
      exact j175 0
    · refine zG_w (c' := (175, [.inl a0, .inr (.inl (a1)), zN, .inr (.inl (a2)), zN], [.inr (.inl (1))])) 2 hd0 hz (by rfl) ?_
      exact j175 1
  have j176 : zG n (0, 0) d 64 (176, [.inl a0, .inr (.inl (a1)), zN, .inr (.inl (a2)), zN], []) M (fun v M' => M' = M ∧ qRl v) := by
    refine zG_w (c' := (178, [.inl a0, .inr (.inl (a1)), zN, .inr (.inl (a2)), zN], [.inr (.inl (a2)), .inr (.inl (a1))])) 2 hd0 hz (by rfl) ?_
    have j187 : ∀ (v6 : Int) , zG n (0, 0) d 64 (187, [.inl a0, .inr (.inl (a1)), zN, .inr (.inl (a2)), zN], [.inr (.inl (v6))]) M (fun v M' => M' = M ∧ qRl v) := by
      intro v6
      exact zG_wr (r := some (.inr (.inl (v6)))) 0 hd0 hz (by rfl) ⟨rfl, _, rfl⟩
    refine zG_lc_ne hd0 hz rfl rfl (fun hb178 => ?_) (fun hb178 => ?_)
    · refine zG_w (c' := (187, [.inl a0, .inr (.inl (a1)), zN, .inr (.inl (a2)), zN], [.inr (.inl (0))])) 1 hd0 hz (by rfl) ?_
      exact j187 0
    · refine zG_w (c' := (187, [.inl a0, .inr (.inl (a1)), zN, .inr (.inl (a2)), zN], [.inr (.inl (1))])) 2 hd0 hz (by rfl) ?_
      exact j187 1
  have j188 : zG n (0, 0) d 64 (188, [.inl a0, .inr (.inl (a1)), zN, .inr (.inl (a2)), zN], []) M (fun v M' => M' = M ∧ qRl v) := by
    obtain ⟨x7, hx7⟩ : ∃ x : Int, x = w64 (a1 + a2) := ⟨_, rfl⟩
    exact zG_wr (r := some (.inr (.inl (x7)))) 3 hd0 hz (by subst hx7; rfl) ⟨rfl, _, rfl⟩
  have j192 : zG n (0, 0) d 64 (192, [.inl a0, .inr (.inl (a1)), zN, .inr (.inl (a2)), zN], []) M (fun v M' => M' = M ∧ qRl v) := by
    obtain ⟨x8, hx8⟩ : ∃ x : Int, x = w64 (a1 - a2) := ⟨_, rfl⟩
    exact zG_wr (r := some (.inr (.inl (x8)))) 3 hd0 hz (by subst hx8; rfl) ⟨rfl, _, rfl⟩
  have j196 : zG n (0, 0) d 64 (196, [.inl a0, .inr (.inl (a1)), zN, .inr (.inl (a2)), zN], []) M (fun v M' => M' = M ∧ qRl v) := by
    obtain ⟨x9, hx9⟩ : ∃ x : Int, x = w64 (a1 * a2) := ⟨_, rfl⟩
    exact zG_wr (r := some (.inr (.inl (x9)))) 3 hd0 hz (by subst hx9; rfl) ⟨rfl, _, rfl⟩
  have j200 : zG n (0, 0) d 64 (200, [.inl a0, .inr (.inl (a1)), zN, .inr (.inl (a2)), zN], []) M (fun v M' => M' = M ∧ qRl v) := by
    refine zG_w (c' := (202, [.inl a0, .inr (.inl (a1)), zN, .inr (.inl (a2)), zN], [.inr (.inl (0)), .inr (.inl (a2))])) 2 hd0 hz (by rfl) ?_
    have j213 : ∀ (v10 : Int) , zG n (0, 0) d 64 (213, [.inl a0, .inr (.inl (a1)), zN, .inr (.inl (a2)), zN], [.inr (.inl (v10))]) M (fun v M' => M' = M ∧ qRl v) := by
      intro v10
      exact zG_wr (r := some (.inr (.inl (v10)))) 0 hd0 hz (by rfl) ⟨rfl, _, rfl⟩
    refine zG_lc_ne hd0 hz rfl rfl (fun hb202 => ?_) (fun hb202 => ?_)
    · refine zG_w (c' := (212, [.inl a0, .inr (.inl (a1)), zN, .inr (.inl (a2)), zN], [.inr (.inl (a2)), .inr (.inl (a1))])) 2 hd0 hz (by rfl) ?_
      refine zG_ldiv hd0 hz rfl (by omega) ?_
      generalize w64 (a1.tdiv a2) = x11
      show zG n (0, 0) d 64 (213, [.inl a0, .inr (.inl (a1)), zN, .inr (.inl (a2)), zN], [.inr (.inl (x11))]) M _
      exact j213 x11
    · refine zG_w (c' := (213, [.inl a0, .inr (.inl (a1)), zN, .inr (.inl (a2)), zN], [.inr (.inl (0))])) 2 hd0 hz (by rfl) ?_
      exact j213 0
  have j214 : zG n (0, 0) d 64 (214, [.inl a0, .inr (.inl (a1)), zN, .inr (.inl (a2)), zN], []) M (fun v M' => M' = M ∧ qRl v) := by
    exact zG_wr (r := some (.inr (.inl (0)))) 1 hd0 hz (by rfl) ⟨rfl, _, rfl⟩
  refine zG_sw hd0 hz rfl ?_
  refine zts_all (P := fun t => zG n (0, 0) d 64 (t, [.inl a0, .inr (.inl (a1)), zN, .inr (.inl (a2)), zN], []) M _) ?_ ?_
  · exact j214
  · intro t ht
    simp only [List.mem_cons, List.not_mem_nil, or_false] at ht
    rcases ht with rfl | rfl | rfl | rfl | rfl | rfl | rfl | rfl | rfl | rfl | rfl | rfl | rfl | rfl | rfl | rfl | rfl | rfl | rfl | rfl | rfl | rfl
    · exact j104
    · exact j214
    · exact j214
    · exact j116
    · exact j134
    · exact j214
    · exact j214
    · exact j214
    · exact j214
    · exact j214
    · exact j214
    · exact j214
    · exact j214
    · exact j214
    · exact j214
    · exact j152
    · exact j164
    · exact j176
    · exact j188
    · exact j192
    · exact j196
    · exact j200
theorem qm_60_72 {n d : Nat} {M : zM} (hd : 1 ≤ d) (hC : qCI M) (a1 : Int) : qOkP n d 60 [.inr (.inr (some 72)), .inr (.inl (a1))] 6 M qRl := by
  have hz := zp_60
  have hd0 : 0 < d := by omega
  show zG n (0, 0) d 60 (0, [.inr (.inr (some 72)), .inr (.inl (a1)), zN, zN, zN, zN], []) M _
  refine zG_w (c' := (2, [.inr (.inr (some 72)), .inr (.inl (a1)), zN, zN, zN, zN], [.inr (.inl (1)), .inr (.inl (a1))])) 2 hd0 hz (by rfl) ?_
  have j16 : zG n (0, 0) d 60 (16, [.inr (.inr (some 72)), .inr (.inl (a1)), zN, zN, zN, zN], []) M (fun v M' => M' = M ∧ qRl v) := by
    exact zG_wr (r := some (.inr (.inl (0)))) 1 hd0 hz (by rfl) ⟨rfl, _, rfl⟩
  refine zG_lc_lt hd0 hz rfl rfl (fun hb2 => ?_) (fun hb2 => ?_)
  · exact j16
  · have r1 := hC.rk
    refine zG_w (c' := (12, [.inr (.inr (some 72)), .inr (.inl (a1)), zN, zN, zN, zN], [.inr (.inl ((M 72 3))), .inr (.inl (a1))])) 4 hd0 hz (by rfl) ?_
    refine zG_lc_le hd0 hz rfl rfl (fun hb12 => ?_) (fun hb12 => ?_)
    · refine zG_w (c' := (23, [.inr (.inr (some 72)), .inr (.inl (a1)), zN, .inr (.inl (0)), zN, .inl 0], [])) 4 hd0 hz (by rfl) ?_
      have j23 : ∀ (N : Nat) (v2 v3 : Int) , (14 - v3 : Int).toNat < N → 0 ≤ v3 ∧ v3 ≤ 14 → zG n (0, 0) d 60 (23, [.inr (.inr (some 72)), .inr (.inl (a1)), zN, .inr (.inl (v2)), zN, .inl v3], []) M (fun v M' => M' = M ∧ qRl v) := by
        intro N
        induction N with
        | zero => intro v2 v3 hN hv3; exact absurd hN (Nat.not_lt_zero _)
        | succ N ih23 =>
          intro v2 v3 hN hv3
          replace hN : 14 - v3 < (N : Int) + 1 := by omega
          refine zG_w (c' := (27, [.inr (.inr (some 72)), .inr (.inl (a1)), zN, .inr (.inl (v2)), zN, .inl v3], [.inr (.inl (a1)), .inr (.inl (v3))])) 3 hd0 hz (by rfl) ?_
          have j58 : zG n (0, 0) d 60 (58, [.inr (.inr (some 72)), .inr (.inl (a1)), zN, .inr (.inl (v2)), zN, .inl v3], []) M (fun v M' => M' = M ∧ qRl v) := by
            obtain ⟨x4, hx4⟩ : ∃ x : Int, x = w64 (v2 * 100) := ⟨_, rfl⟩
            refine zG_w (c' := (64, [.inr (.inr (some 72)), .inr (.inl (a1)), zN, .inr (.inl (v2)), zN, .inl v3], [.inr (.inl (a1)), .inr (.inl (x4))])) 4 hd0 hz (by subst hx4; rfl) ?_
            refine zG_ldiv hd0 hz rfl (by omega) ?_
            generalize w64 (x4.tdiv a1) = x5
            show zG n (0, 0) d 60 (65, [.inr (.inr (some 72)), .inr (.inl (a1)), zN, .inr (.inl (v2)), zN, .inl v3], [.inr (.inl (x5))]) M _
            exact zG_wr (r := some (.inr (.inl (x5)))) 0 hd0 hz (by rfl) ⟨rfl, _, rfl⟩
          refine zG_lc_ge hd0 hz rfl rfl (fun hb27 => ?_) (fun hb27 => ?_)
          · exact j58
          · refine zG_wi_ge (pc := 38) (n' := 41) (t := 58) (L := [.inr (.inr (some 72)), .inr (.inl (a1)), zN, .inr (.inl (v2)), zN, .inl v3]) (st := []) (x := v3) (y := 14) 4 hd0 hz (by rfl) (fun hb6 => ?_) (fun hb6 => ?_)
            · exact j58
            · refine zG_w (c' := (48, [.inr (.inr (some 72)), .inr (.inl (a1)), zN, .inr (.inl (v2)), zN, .inl v3], [.inl v3, .inr (.inr (some 75)), .inr (.inl (v2))])) 4 hd0 hz (by rfl) ?_
              refine zG_iald hd0 hz rfl rfl (.inl rfl) (by omega) ?_
              have hx7 := hC.rng 75 (v3 : Int).toNat (by decide) (by decide)
              generalize M 75 (v3 : Int).toNat = x7 at hx7 ⊢
              show zG n (0, 0) d 60 (49, [.inr (.inr (some 72)), .inr (.inl (a1)), zN, .inr (.inl (v2)), zN, .inl v3], [.inl x7, .inr (.inl (v2))]) M _
              obtain ⟨x8, hx8⟩ : ∃ x : Int, x = w64 (v2 + x7) := ⟨_, rfl⟩
              obtain ⟨x9, hx9⟩ : ∃ x : Int, x = w32 (v3 + 1) := ⟨_, rfl⟩
              have hx9e : x9 = v3 + 1 := by rw [hx9]; exact w32_id (by omega)
              refine zG_w (c' := (23, [.inr (.inr (some 72)), .inr (.inl (a1)), zN, .inr (.inl (x8)), zN, .inl x9], [])) 5 hd0 hz (by subst hx9; subst hx8; rfl) ?_
              exact ih23 x8 x9 (by omega) (by omega)
      exact j23 ((14 - 0 : Int).toNat + 1) 0 0 (by first | decide | omega) (by omega)
    · exact j16
theorem qm_58_72 {n d : Nat} {M : zM} (hd : 1 ≤ d) (hC : qCI M) (a1 : Int) (ha1 : (-2147483648) ≤ a1 ∧ a1 ≤ 2147483647) : qOkP n d 58 [.inr (.inr (some 72)), .inl a1] 2 M qRl := by
  have hz := zp_58
  have hd0 : 0 < d := by omega
  show zG n (0, 0) d 58 (0, [.inr (.inr (some 72)), .inl a1], []) M _
  refine zG_w (c' := (1, [.inr (.inr (some 72)), .inl a1], [.inl a1])) 1 hd0 hz (by rfl) ?_
  have j23 : ∀ (v1 : Int) , zG n (0, 0) d 58 (23, [.inr (.inr (some 72)), .inl a1], [.inr (.inl (v1))]) M (fun v M' => M' = M ∧ qRl v) := by
    intro v1
    exact zG_wr (r := some (.inr (.inl (v1)))) 0 hd0 hz (by rfl) ⟨rfl, _, rfl⟩
  have j22 : zG n (0, 0) d 58 (22, [.inr (.inr (some 72)), .inl a1], []) M (fun v M' => M' = M ∧ qRl v) := by
    refine zG_w (c' := (23, [.inr (.inr (some 72)), .inl a1], [.inr (.inl (0))])) 1 hd0 hz (by rfl) ?_
    exact j23 0
  refine zG_wf_lt (pc := 1) (n' := 4) (t := 22) (L := [.inr (.inr (some 72)), .inl a1]) (st := []) (x := a1) 0 hd0 hz (by rfl) (fun hb2 => ?_) (fun hb2 => ?_)
  · exact j22
  · refine zG_wi_ge (pc := 10) (n' := 13) (t := 22) (L := [.inr (.inr (some 72)), .inl a1]) (st := []) (x := a1) (y := 15) 4 hd0 hz (by rfl) (fun hb3 => ?_) (fun hb3 => ?_)
    · exact j22
    · refine zG_w (c' := (18, [.inr (.inr (some 72)), .inl a1], [.inl a1, .inr (.inr (some 74))])) 3 hd0 hz (by rfl) ?_
      refine zG_lald hd0 hz rfl rfl (.inl rfl) (by omega) ?_
      generalize M 74 (a1 : Int).toNat = x4
      show zG n (0, 0) d 58 (19, [.inr (.inr (some 72)), .inl a1], [.inr (.inl (x4))]) M _
      refine zG_w (c' := (23, [.inr (.inr (some 72)), .inl a1], [.inr (.inl (x4))])) 1 hd0 hz (by rfl) ?_
      exact j23 x4
theorem qm_63_72 {n d : Nat} {M : zM} (hd : 2 ≤ d) (hC : qCI M) (a1 : Int) (ha1 : (-2147483648) ≤ a1 ∧ a1 ≤ 2147483647) (a2 : Int) (ha2 : (-2147483648) ≤ a2 ∧ a2 ≤ 2147483647) : qOkM n d 63 [.inr (.inr (some 72)), .inl a1, .inl a2] 11 qCI [72, 73] M qRn := by
  have hz := zp_63
  have hd0 : 0 < d := by omega
  have hW : qFr [72, 73] M M := qFr.rfl
  show zG n (0, 0) d 63 (0, [.inr (.inr (some 72)), .inl a1, .inl a2, zN, zN, zN, zN, zN, zN, zN, zN], []) M _
  refine zG_w (c' := (1, [.inr (.inr (some 72)), .inl a1, .inl a2, zN, zN, zN, zN, zN, zN, zN, zN], [.inl a1])) 1 hd0 hz (by rfl) ?_
  have j261 : ∀ (M1 : zM) , qCI M1 → qFr [72, 73] M M1 → zG n (0, 0) d 63 (261, [.inr (.inr (some 72)), .inl a1, .inl a2, zN, zN, zN, zN, zN, zN, zN, zN], []) M1 (fun v M' => qWf qCI [72, 73] M M' ∧ qRn v) := by
    intro M1 hCM1 hWM1
    exact zG_wr (r := none) 0 hd0 hz (by rfl) ⟨⟨hCM1, hWM1⟩, rfl⟩
  have j116 : zG n (0, 0) d 63 (116, [.inr (.inr (some 72)), .inl a1, .inl a2, zN, zN, zN, zN, zN, zN, zN, zN], []) M (fun v M' => qWf qCI [72, 73] M M' ∧ qRn v) := by
    refine zG_wl (pc := 122) (L := [.inr (.inr (some 72)), .inl a1, .inl a2, zN, zN, zN, zN, zN, zN, zN, zN]) (st := [.inr (.inr (some 72))]) 3 hd0 hz zp_58 (qm_58_72 (by first | exact zdk hd rfl | omega) hC  a1 (by first | with_reducible exact ha1 | omega)) (by rfl) (fun x3 => ?_)
    refine zG_wv (pc := 125) (L := [.inr (.inr (some 72)), .inl a1, .inl a2, zN, zN, zN, zN, zN, zN, zN, zN]) (st := []) 0 hd0 hz zp_65 (qm_65_72 (by first | exact zdk hd rfl | omega) hC  x3) (by rfl) (fun M4 hr => ?_)
    obtain ⟨hCM4, hFM4⟩ := hr
    have hWM4 : qFr [72, 73] M M4 := hW.tr hFM4 (by decide)
    refine zG_w (c' := (261, [.inr (.inr (some 72)), .inl a1, .inl a2, zN, zN, zN, zN, zN, zN, zN, zN], [])) 1 hd0 hz (by rfl) ?_
    exact j261 M4 hCM4 hWM4
  have j128 : zG n (0, 0) d 63 (128, [.inr (.inr (some 72)), .inl a1, .inl a2, zN, zN, zN, zN, zN, zN, zN, zN], []) M (fun v M' => qWf qCI [72, 73] M M' ∧ qRn v) := by
    refine zG_w (c' := (130, [.inr (.inr (some 72)), .inl a1, .inl a2, zN, zN, zN, zN, zN, zN, zN, zN], [.inl 1, .inr (.inr (some 72))])) 2 hd0 hz (by rfl) ?_
    refine zG_putf (.inr ⟨rfl, by omega⟩) hd0 hz rfl (by decide) rfl rfl ?_
    obtain ⟨M6, hM6⟩ : ∃ X : zM, X = zput M 72 5 1 := ⟨_, rfl⟩
    rw [← hM6]
    have hCM6 : qCI M6 := by rw [hM6]; exact hC.putUm (by omega)
    have hWM6 : qFr [72, 73] M M6 := by rw [hM6]; exact hW.put (by decide)
    have e7 : M6 72 5 = 1 := by rw [hM6]; exact qput_eq
    show zG n (0, 0) d 63 (133, [.inr (.inr (some 72)), .inl a1, .inl a2, zN, zN, zN, zN, zN, zN, zN, zN], []) M6 _
    refine zG_wl (pc := 139) (L := [.inr (.inr (some 72)), .inl a1, .inl a2, zN, zN, zN, zN, zN, zN, zN, zN]) (st := [.inr (.inr (some 72))]) 3 hd0 hz zp_58 (qm_58_72 (by first | exact zdk hd rfl | omega) hCM6  a1 (by first | with_reducible exact ha1 | omega)) (by rfl) (fun x9 => ?_)
    obtain ⟨x10, hx10⟩ : ∃ x : Int, x = w64 (x9 + a2) := ⟨_, rfl⟩
    refine zG_wv (pc := 145) (L := [.inr (.inr (some 72)), .inl a1, .inl a2, zN, zN, zN, zN, zN, zN, zN, zN]) (st := []) 3 hd0 hz zp_65 (qm_65_72 (by first | exact zdk hd rfl | omega) hCM6  x10) (by subst hx10; rfl) (fun M11 hr => ?_)
    obtain ⟨hCM11, hFM11⟩ := hr
    have hWM11 : qFr [72, 73] M M11 := hWM6.tr hFM11 (by decide)
    refine zG_w (c' := (261, [.inr (.inr (some 72)), .inl a1, .inl a2, zN, zN, zN, zN, zN, zN, zN, zN], [])) 1 hd0 hz (by rfl) ?_
    exact j261 M11 hCM11 hWM11
  have j148 : zG n (0, 0) d 63 (148, [.inr (.inr (some 72)), .inl a1, .inl a2, zN, zN, zN, zN, zN, zN, zN, zN], []) M (fun v M' => qWf qCI [72, 73] M M' ∧ qRn v) := by
    refine zG_w (c' := (150, [.inr (.inr (some 72)), .inl a1, .inl a2, zN, zN, zN, zN, zN, zN, zN, zN], [.inl 1, .inr (.inr (some 72))])) 2 hd0 hz (by rfl) ?_
    refine zG_putf (.inr ⟨rfl, by omega⟩) hd0 hz rfl (by decide) rfl rfl ?_
    obtain ⟨M13, hM13⟩ : ∃ X : zM, X = zput M 72 5 1 := ⟨_, rfl⟩
    rw [← hM13]
    have hCM13 : qCI M13 := by rw [hM13]; exact hC.putUm (by omega)
    have hWM13 : qFr [72, 73] M M13 := by rw [hM13]; exact hW.put (by decide)
    have e14 : M13 72 5 = 1 := by rw [hM13]; exact qput_eq
    show zG n (0, 0) d 63 (153, [.inr (.inr (some 72)), .inl a1, .inl a2, zN, zN, zN, zN, zN, zN, zN, zN], []) M13 _
    refine zG_wc (c1 := (159, [.inr (.inr (some 72)), .inl a1, .inl a2, zN, zN, zN, zN, zN, zN, zN, zN], [.inr (.inr (some 72)), .inr (.inr (some 72))])) 3 hd0 hz zp_66 (qm_66_72 (by first | exact zdk hd rfl | omega) hCM13  ) (by rfl) (fun vr M15 hr => ?_)
    obtain ⟨⟨hCM15, hFM15⟩, x16, rfl⟩ := hr
    have hWM15 : qFr [72, 73] M M15 := hWM13.tr hFM15 (by decide)
    show zG n (0, 0) d 63 (159, [.inr (.inr (some 72)), .inl a1, .inl a2, zN, zN, zN, zN, zN, zN, zN, zN], [.inr (.inl (x16)), .inr (.inr (some 72)), .inr (.inr (some 72))]) M15 _
    refine zG_wl (pc := 162) (L := [.inr (.inr (some 72)), .inl a1, .inl a2, zN, zN, zN, zN, zN, zN, zN, zN]) (st := [.inr (.inr (some 72))]) 0 hd0 hz zp_60 (qm_60_72 (by first | exact zdk hd rfl | omega) hCM15  x16) (by rfl) (fun x18 => ?_)
    obtain ⟨x19, hx19⟩ : ∃ x : Int, x = w64 (x18 + a2) := ⟨_, rfl⟩
    refine zG_wv (pc := 168) (L := [.inr (.inr (some 72)), .inl a1, .inl a2, zN, zN, zN, zN, zN, zN, zN, zN]) (st := []) 3 hd0 hz zp_65 (qm_65_72 (by first | exact zdk hd rfl | omega) hCM15  x19) (by subst hx19; rfl) (fun M20 hr => ?_)
    obtain ⟨hCM20, hFM20⟩ := hr
    have hWM20 : qFr [72, 73] M M20 := hWM15.tr hFM20 (by decide)
    refine zG_w (c' := (261, [.inr (.inr (some 72)), .inl a1, .inl a2, zN, zN, zN, zN, zN, zN, zN, zN], [])) 1 hd0 hz (by rfl) ?_
    exact j261 M20 hCM20 hWM20
  have j171 : zG n (0, 0) d 63 (171, [.inr (.inr (some 72)), .inl a1, .inl a2, zN, zN, zN, zN, zN, zN, zN, zN], []) M (fun v M' => qWf qCI [72, 73] M M' ∧ qRn v) := by
    refine zG_wc (c1 := (176, [.inr (.inr (some 72)), .inl a1, .inl a2, zN, zN, zN, zN, zN, zN, zN, zN], [.inr (.inr (some 72))])) 2 hd0 hz zp_66 (qm_66_72 (by first | exact zdk hd rfl | omega) hC  ) (by rfl) (fun vr M22 hr => ?_)
    obtain ⟨⟨hCM22, hFM22⟩, x23, rfl⟩ := hr
    have hWM22 : qFr [72, 73] M M22 := hW.tr hFM22 (by decide)
    show zG n (0, 0) d 63 (176, [.inr (.inr (some 72)), .inl a1, .inl a2, zN, zN, zN, zN, zN, zN, zN, zN], [.inr (.inl (x23)), .inr (.inr (some 72))]) M22 _
    refine zG_w (c' := (177, [.inr (.inr (some 72)), .inl a1, .inl a2, zN, zN, zN, zN, zN, zN, zN, zN], [.inr (.inl (0)), .inr (.inl (x23)), .inr (.inr (some 72))])) 1 hd0 hz (by rfl) ?_
    have j186 : ∀ (v24 : Int) , zG n (0, 0) d 63 (186, [.inr (.inr (some 72)), .inl a1, .inl a2, zN, zN, zN, zN, zN, zN, zN, zN], [.inr (.inl (v24)), .inr (.inr (some 72))]) M22 (fun v M' => qWf qCI [72, 73] M M' ∧ qRn v) := by
      intro v24
      refine zG_wv (pc := 189) (L := [.inr (.inr (some 72)), .inl a1, .inl a2, zN, zN, zN, zN, zN, zN, zN, zN]) (st := []) 0 hd0 hz zp_65 (qm_65_72 (by first | exact zdk hd rfl | omega) hCM22  v24) (by rfl) (fun M25 hr => ?_)
      obtain ⟨hCM25, hFM25⟩ := hr
      have hWM25 : qFr [72, 73] M M25 := hWM22.tr hFM25 (by decide)
      refine zG_w (c' := (261, [.inr (.inr (some 72)), .inl a1, .inl a2, zN, zN, zN, zN, zN, zN, zN, zN], [])) 1 hd0 hz (by rfl) ?_
      exact j261 M25 hCM25 hWM25
    refine zG_lc_ne hd0 hz rfl rfl (fun hb177 => ?_) (fun hb177 => ?_)
    · refine zG_w (c' := (186, [.inr (.inr (some 72)), .inl a1, .inl a2, zN, zN, zN, zN, zN, zN, zN, zN], [.inr (.inl (0)), .inr (.inr (some 72))])) 1 hd0 hz (by rfl) ?_
      exact j186 0
    · refine zG_w (c' := (186, [.inr (.inr (some 72)), .inl a1, .inl a2, zN, zN, zN, zN, zN, zN, zN, zN], [.inr (.inl (1)), .inr (.inr (some 72))])) 2 hd0 hz (by rfl) ?_
      exact j186 1
  have j192 : zG n (0, 0) d 63 (192, [.inr (.inr (some 72)), .inl a1, .inl a2, zN, zN, zN, zN, zN, zN, zN, zN], []) M (fun v M' => qWf qCI [72, 73] M M' ∧ qRn v) := by
    refine zG_wc (c1 := (197, [.inr (.inr (some 72)), .inl a1, .inl a2, zN, zN, zN, zN, zN, zN, zN, zN], [.inr (.inr (some 72))])) 2 hd0 hz zp_66 (qm_66_72 (by first | exact zdk hd rfl | omega) hC  ) (by rfl) (fun vr M27 hr => ?_)
    obtain ⟨⟨hCM27, hFM27⟩, x28, rfl⟩ := hr
    have hWM27 : qFr [72, 73] M M27 := hW.tr hFM27 (by decide)
    show zG n (0, 0) d 63 (197, [.inr (.inr (some 72)), .inl a1, .inl a2, zN, zN, zN, zN, zN, zN, zN, zN], [.inr (.inl (x28)), .inr (.inr (some 72))]) M27 _
    obtain ⟨x29, hx29⟩ : ∃ x : Int, x = w64 (-x28) := ⟨_, rfl⟩
    refine zG_wv (pc := 201) (L := [.inr (.inr (some 72)), .inl a1, .inl a2, zN, zN, zN, zN, zN, zN, zN, zN]) (st := []) 1 hd0 hz zp_65 (qm_65_72 (by first | exact zdk hd rfl | omega) hCM27  x29) (by subst hx29; rfl) (fun M30 hr => ?_)
    obtain ⟨hCM30, hFM30⟩ := hr
    have hWM30 : qFr [72, 73] M M30 := hWM27.tr hFM30 (by decide)
    refine zG_w (c' := (261, [.inr (.inr (some 72)), .inl a1, .inl a2, zN, zN, zN, zN, zN, zN, zN, zN], [])) 1 hd0 hz (by rfl) ?_
    exact j261 M30 hCM30 hWM30
  have j204 : zG n (0, 0) d 63 (204, [.inr (.inr (some 72)), .inl a1, .inl a2, zN, zN, zN, zN, zN, zN, zN, zN], []) M (fun v M' => qWf qCI [72, 73] M M' ∧ qRn v) := by
    refine zG_wc (c1 := (208, [.inr (.inr (some 72)), .inl a1, .inl a2, zN, zN, zN, zN, zN, zN, zN, zN], [])) 1 hd0 hz zp_66 (qm_66_72 (by first | exact zdk hd rfl | omega) hC  ) (by rfl) (fun vr M32 hr => ?_)
    obtain ⟨⟨hCM32, hFM32⟩, x33, rfl⟩ := hr
    have hWM32 : qFr [72, 73] M M32 := hW.tr hFM32 (by decide)
    show zG n (0, 0) d 63 (208, [.inr (.inr (some 72)), .inl a1, .inl a2, zN, zN, zN, zN, zN, zN, zN, zN], [.inr (.inl (x33))]) M32 _
    refine zG_wc (c1 := (213, [.inr (.inr (some 72)), .inl a1, .inl a2, .inr (.inl (x33)), zN, zN, zN, zN, zN, zN, zN], [])) 2 hd0 hz zp_66 (qm_66_72 (by first | exact zdk hd rfl | omega) hCM32  ) (by rfl) (fun vr M34 hr => ?_)
    obtain ⟨⟨hCM34, hFM34⟩, x35, rfl⟩ := hr
    have hWM34 : qFr [72, 73] M M34 := hWM32.tr hFM34 (by decide)
    show zG n (0, 0) d 63 (213, [.inr (.inr (some 72)), .inl a1, .inl a2, .inr (.inl (x33)), zN, zN, zN, zN, zN, zN, zN], [.inr (.inl (x35))]) M34 _
    refine zG_wc (c1 := (219, [.inr (.inr (some 72)), .inl a1, .inl a2, .inr (.inl (x33)), zN, .inr (.inl (x35)), zN, zN, zN, zN, zN], [])) 2 hd0 hz zp_66 (qm_66_72 (by first | exact zdk hd rfl | omega) hCM34  ) (by rfl) (fun vr M36 hr => ?_)
    obtain ⟨⟨hCM36, hFM36⟩, x37, rfl⟩ := hr
    have hWM36 : qFr [72, 73] M M36 := hWM34.tr hFM36 (by decide)
    show zG n (0, 0) d 63 (219, [.inr (.inr (some 72)), .inl a1, .inl a2, .inr (.inl (x33)), zN, .inr (.inl (x35)), zN, zN, zN, zN, zN], [.inr (.inl (x37))]) M36 _
    refine zG_w (c' := (225, [.inr (.inr (some 72)), .inl a1, .inl a2, .inr (.inl (x33)), zN, .inr (.inl (x35)), zN, .inr (.inl (x37)), zN, zN, zN], [.inr (.inl (0)), .inr (.inl (x35)), .inr (.inr (some 72))])) 4 hd0 hz (by rfl) ?_
    have j235 : ∀ (v38 : Int) , zG n (0, 0) d 63 (235, [.inr (.inr (some 72)), .inl a1, .inl a2, .inr (.inl (x33)), zN, .inr (.inl (x35)), zN, .inr (.inl (x37)), zN, zN, zN], [.inr (.inl (v38)), .inr (.inr (some 72))]) M36 (fun v M' => qWf qCI [72, 73] M M' ∧ qRn v) := by
      intro v38
      refine zG_wv (pc := 238) (L := [.inr (.inr (some 72)), .inl a1, .inl a2, .inr (.inl (x33)), zN, .inr (.inl (x35)), zN, .inr (.inl (x37)), zN, zN, zN]) (st := []) 0 hd0 hz zp_65 (qm_65_72 (by first | exact zdk hd rfl | omega) hCM36  v38) (by rfl) (fun M39 hr => ?_)
      obtain ⟨hCM39, hFM39⟩ := hr
      have hWM39 : qFr [72, 73] M M39 := hWM36.tr hFM39 (by decide)
      refine zG_w (c' := (261, [.inr (.inr (some 72)), .inl a1, .inl a2, .inr (.inl (x33)), zN, .inr (.inl (x35)), zN, .inr (.inl (x37)), zN, zN, zN], [])) 1 hd0 hz (by rfl) ?_
      exact zG_weak (j261 M39 hCM39 hWM39) ⟨.inr rfl, .inr rfl, .inr rfl, .inl rfl, .inr rfl, .inl rfl, .inr rfl, .inl rfl, .inr rfl, .inr rfl, .inr rfl, trivial⟩
    refine zG_lc_eq hd0 hz rfl rfl (fun hb225 => ?_) (fun hb225 => ?_)
    · refine zG_w (c' := (235, [.inr (.inr (some 72)), .inl a1, .inl a2, .inr (.inl (x33)), zN, .inr (.inl (x35)), zN, .inr (.inl (x37)), zN, zN, zN], [.inr (.inl (x33)), .inr (.inr (some 72))])) 1 hd0 hz (by rfl) ?_
      exact j235 x33
    · refine zG_w (c' := (235, [.inr (.inr (some 72)), .inl a1, .inl a2, .inr (.inl (x33)), zN, .inr (.inl (x35)), zN, .inr (.inl (x37)), zN, zN, zN], [.inr (.inl (x37)), .inr (.inr (some 72))])) 2 hd0 hz (by rfl) ?_
      exact j235 x37
  have j241 : zG n (0, 0) d 63 (241, [.inr (.inr (some 72)), .inl a1, .inl a2, zN, zN, zN, zN, zN, zN, zN, zN], []) M (fun v M' => qWf qCI [72, 73] M M' ∧ qRn v) := by
    refine zG_wc (c1 := (245, [.inr (.inr (some 72)), .inl a1, .inl a2, zN, zN, zN, zN, zN, zN, zN, zN], [])) 1 hd0 hz zp_66 (qm_66_72 (by first | exact zdk hd rfl | omega) hC  ) (by rfl) (fun vr M41 hr => ?_)
    obtain ⟨⟨hCM41, hFM41⟩, x42, rfl⟩ := hr
    have hWM41 : qFr [72, 73] M M41 := hW.tr hFM41 (by decide)
    show zG n (0, 0) d 63 (245, [.inr (.inr (some 72)), .inl a1, .inl a2, zN, zN, zN, zN, zN, zN, zN, zN], [.inr (.inl (x42))]) M41 _
    refine zG_wc (c1 := (253, [.inr (.inr (some 72)), .inl a1, .inl a2, zN, zN, zN, zN, zN, zN, .inr (.inl (x42)), zN], [.inl a1, .inr (.inr (some 72))])) 4 hd0 hz zp_66 (qm_66_72 (by first | exact zdk hd rfl | omega) hCM41  ) (by rfl) (fun vr M43 hr => ?_)
    obtain ⟨⟨hCM43, hFM43⟩, x44, rfl⟩ := hr
    have hWM43 : qFr [72, 73] M M43 := hWM41.tr hFM43 (by decide)
    show zG n (0, 0) d 63 (253, [.inr (.inr (some 72)), .inl a1, .inl a2, zN, zN, zN, zN, zN, zN, .inr (.inl (x42)), zN], [.inr (.inl (x44)), .inl a1, .inr (.inr (some 72))]) M43 _
    refine zG_wl (pc := 258) (L := [.inr (.inr (some 72)), .inl a1, .inl a2, zN, zN, zN, zN, zN, zN, .inr (.inl (x42)), zN]) (st := [.inr (.inr (some 72))]) 1 hd0 hz zp_64 (qm_64 (by first | exact zdk hd rfl | omega) hCM43  a1 (by first | with_reducible exact ha1 | omega) x44 x42) (by rfl) (fun x46 => ?_)
    refine zG_wv (pc := 261) (L := [.inr (.inr (some 72)), .inl a1, .inl a2, zN, zN, zN, zN, zN, zN, .inr (.inl (x42)), zN]) (st := []) 0 hd0 hz zp_65 (qm_65_72 (by first | exact zdk hd rfl | omega) hCM43  x46) (by rfl) (fun M47 hr => ?_)
    obtain ⟨hCM47, hFM47⟩ := hr
    have hWM47 : qFr [72, 73] M M47 := hWM43.tr hFM47 (by decide)
    exact zG_weak (j261 M47 hCM47 hWM47) ⟨.inr rfl, .inr rfl, .inr rfl, .inr rfl, .inr rfl, .inr rfl, .inr rfl, .inr rfl, .inr rfl, .inl rfl, .inr rfl, trivial⟩
  refine zG_sw hd0 hz rfl ?_
  refine zts_all (P := fun t => zG n (0, 0) d 63 (t, [.inr (.inr (some 72)), .inl a1, .inl a2, zN, zN, zN, zN, zN, zN, zN, zN], []) M _) ?_ ?_
  · exact j241
  · intro t ht
    simp only [List.mem_cons, List.not_mem_nil, or_false] at ht
    rcases ht with rfl | rfl | rfl | rfl | rfl | rfl | rfl | rfl | rfl | rfl | rfl | rfl | rfl | rfl | rfl | rfl | rfl | rfl | rfl | rfl | rfl | rfl | rfl | rfl | rfl
    · exact j204
    · exact j241
    · exact j241
    · exact j171
    · exact j148
    · exact j116
    · exact j116
    · exact j116
    · exact j116
    · exact j116
    · exact j116
    · exact j128
    · exact j116
    · exact j241
    · exact j241
    · exact j241
    · exact j241
    · exact j241
    · exact j241
    · exact j241
    · exact j241
    · exact j241
    · exact j241
    · exact j241
    · exact j192
theorem qm_62_72_22 {n d : Nat} {M : zM} (hd : 3 ≤ d) (hC : qCI M) (a2 : Int) (ha2 : (-2147483648) ≤ a2 ∧ a2 ≤ 2147483647) (a3 : Int) (ha3 : (-2147483648) ≤ a3 ∧ a3 ≤ 2147483647) (a4 : Int) (ha4 : (-2147483648) ≤ a4 ∧ a4 ≤ 2147483647) : qOkM n d 62 [.inr (.inr (some 72)), .inr (.inr (some 22)), .inl a2, .inl a3, .inl a4] 8 qCI [72, 73] M qRl := by
  have hz := zp_62
  have hd0 : 0 < d := by omega
  have hW : qFr [72, 73] M M := qFr.rfl
  show zG n (0, 0) d 62 (0, [.inr (.inr (some 72)), .inr (.inr (some 22)), .inl a2, .inl a3, .inl a4, zN, zN, zN], []) M _
  refine zG_wp (pc := 6) (L := [.inr (.inr (some 72)), .inr (.inr (some 22)), .inl a2, .inl a3, .inl a4, zN, zN, zN]) (st := []) 3 hd0 hz zp_106 (qw_get (by first | exact zdk hd rfl | omega) hC (⟨by decide, rfl, rfl⟩ : qT n 22 10 164) a2 (by first | with_reducible exact ha2 | omega) a3 (by first | with_reducible exact ha3 | omega)) (by rfl) (fun x2 hx2 => ?_)
  refine zG_w (c' := (10, [.inr (.inr (some 72)), .inr (.inr (some 22)), .inl a2, .inl a3, .inl a4, .inl x2, zN, zN], [.inl 0, .inr (.inr (some 72))])) 3 hd0 hz (by rfl) ?_
  refine zG_putf (.inl rfl) hd0 hz rfl (by decide) rfl rfl ?_
  obtain ⟨M3, hM3⟩ : ∃ X : zM, X = zput M 72 4 0 := ⟨_, rfl⟩
  rw [← hM3]
  have hCM3 : qCI M3 := by rw [hM3]; exact hC.put (r := 72) (k := 4) rfl (.inl (by omega))
  have hWM3 : qFr [72, 73] M M3 := by rw [hM3]; exact hW.put (by decide)
  have e4 : M3 72 4 = 0 := by rw [hM3]; exact qput_eq
  show zG n (0, 0) d 62 (13, [.inr (.inr (some 72)), .inr (.inr (some 22)), .inl a2, .inl a3, .inl a4, .inl x2, zN, zN], []) M3 _
  refine zG_w (c' := (15, [.inr (.inr (some 72)), .inr (.inr (some 22)), .inl a2, .inl a3, .inl a4, .inl x2, zN, zN], [.inl 0, .inr (.inr (some 72))])) 2 hd0 hz (by rfl) ?_
  refine zG_putf (.inr ⟨rfl, by omega⟩) hd0 hz rfl (by decide) rfl rfl ?_
  obtain ⟨M5, hM5⟩ : ∃ X : zM, X = zput M3 72 5 0 := ⟨_, rfl⟩
  rw [← hM5]
  have hCM5 : qCI M5 := by rw [hM5]; exact hCM3.putUm (by omega)
  have hWM5 : qFr [72, 73] M M5 := by rw [hM5]; exact hWM3.put (by decide)
  have e6 : M5 72 4 = M3 72 4 := by rw [hM5]; exact qput_nk (by decide)
  have e7 : M5 72 5 = 0 := by rw [hM5]; exact qput_eq
  show zG n (0, 0) d 62 (18, [.inr (.inr (some 72)), .inr (.inr (some 22)), .inl a2, .inl a3, .inl a4, .inl x2, zN, zN], []) M5 _
  refine zG_w (c' := (21, [.inr (.inr (some 72)), .inr (.inr (some 22)), .inl a2, .inl a3, .inl a4, .inl x2, .inl 1, zN], [])) 2 hd0 hz (by rfl) ?_
  have j21 : ∀ (N : Nat) (v8 : Int) (M9 : zM) , (81 - v8 : Int).toNat < N → 1 ≤ v8 ∧ v8 ≤ 81 → qCI M9 → qFr [72, 73] M M9 → zG n (0, 0) d 62 (21, [.inr (.inr (some 72)), .inr (.inr (some 22)), .inl a2, .inl a3, .inl a4, .inl x2, .inl v8, zN], []) M9 (fun v M' => qWf qCI [72, 73] M M' ∧ qRl v) := by
    intro N
    induction N with
    | zero => intro v8 M9 hN hv8 hCM9 hWM9; exact absurd hN (Nat.not_lt_zero _)
    | succ N ih21 =>
      intro v8 M9 hN hv8 hCM9 hWM9
      replace hN : 81 - v8 < (N : Int) + 1 := by omega
      refine zG_w (c' := (25, [.inr (.inr (some 72)), .inr (.inr (some 22)), .inl a2, .inl a3, .inl a4, .inl x2, .inl v8, zN], [.inl x2, .inl v8])) 2 hd0 hz (by rfl) ?_
      have j77 : zG n (0, 0) d 62 (77, [.inr (.inr (some 72)), .inr (.inr (some 22)), .inl a2, .inl a3, .inl a4, .inl x2, .inl v8, zN], []) M9 (fun v M' => qWf qCI [72, 73] M M' ∧ qRl v) := by
        refine zG_wc (c1 := (81, [.inr (.inr (some 72)), .inr (.inr (some 22)), .inl a2, .inl a3, .inl a4, .inl x2, .inl v8, zN], [])) 1 hd0 hz zp_66 (qm_66_72 (by first | exact zdk hd rfl | omega) hCM9  ) (by rfl) (fun vr M10 hr => ?_)
        obtain ⟨⟨hCM10, hFM10⟩, x11, rfl⟩ := hr
        have hWM10 : qFr [72, 73] M M10 := hWM9.tr hFM10 (by decide)
        show zG n (0, 0) d 62 (81, [.inr (.inr (some 72)), .inr (.inr (some 22)), .inl a2, .inl a3, .inl a4, .inl x2, .inl v8, zN], [.inr (.inl (x11))]) M10 _
        exact zG_wr (r := some (.inr (.inl (x11)))) 0 hd0 hz (by rfl) ⟨⟨hCM10, hWM10⟩, _, rfl⟩
      refine zG_wi_gt (pc := 25) (n' := 28) (t := 77) (L := [.inr (.inr (some 72)), .inr (.inr (some 22)), .inl a2, .inl a3, .inl a4, .inl x2, .inl v8, zN]) (st := []) (x := v8) (y := x2) 0 hd0 hz (by rfl) (fun hb12 => ?_) (fun hb12 => ?_)
      · exact j77
      · refine zG_wi_gt (pc := 32) (n' := 35) (t := 77) (L := [.inr (.inr (some 72)), .inr (.inr (some 22)), .inl a2, .inl a3, .inl a4, .inl x2, .inl v8, zN]) (st := []) (x := v8) (y := 80) 2 hd0 hz (by rfl) (fun hb13 => ?_) (fun hb13 => ?_)
        · exact j77
        · obtain ⟨x14, hx14⟩ : ∃ x : Int, x = w32 (a3 + v8) := ⟨_, rfl⟩
          have hx14r : x14 = (a3 + v8 + 2147483648) % 4294967296 - 2147483648 := hx14
          refine zG_wp (pc := 44) (L := [.inr (.inr (some 72)), .inr (.inr (some 22)), .inl a2, .inl a3, .inl a4, .inl x2, .inl v8, zN]) (st := []) 5 hd0 hz zp_106 (qw_get (by first | exact zdk hd rfl | omega) hCM9 (⟨by decide, rfl, rfl⟩ : qT n 22 10 164) a2 (by first | with_reducible exact ha2 | omega) x14 (by omega)) (by subst hx14; rfl) (fun x16 hx16 => ?_)
          refine zG_w (c' := (48, [.inr (.inr (some 72)), .inr (.inr (some 22)), .inl a2, .inl a3, .inl a4, .inl x2, .inl v8, .inl x16], [.inl x16])) 2 hd0 hz (by rfl) ?_
          have j71 : ∀ (M17 : zM) , qCI M17 → qFr [72, 73] M M17 → zG n (0, 0) d 62 (71, [.inr (.inr (some 72)), .inr (.inr (some 22)), .inl a2, .inl a3, .inl a4, .inl x2, .inl v8, .inl x16], []) M17 (fun v M' => qWf qCI [72, 73] M M' ∧ qRl v) := by
            intro M17 hCM17 hWM17
            obtain ⟨x18, hx18⟩ : ∃ x : Int, x = w32 (v8 + 1) := ⟨_, rfl⟩
            have hx18e : x18 = v8 + 1 := by rw [hx18]; exact w32_id (by omega)
            refine zG_w (c' := (21, [.inr (.inr (some 72)), .inr (.inr (some 22)), .inl a2, .inl a3, .inl a4, .inl x2, .inl x18, .inl x16], [])) 2 hd0 hz (by subst hx18; rfl) ?_
            exact zG_weak (ih21 x18 M17 (by omega) (by omega) hCM17 hWM17) ⟨.inr rfl, .inr rfl, .inr rfl, .inr rfl, .inr rfl, .inr rfl, .inr rfl, .inl rfl, trivial⟩
          refine zG_wf_lt (pc := 48) (n' := 51) (t := 61) (L := [.inr (.inr (some 72)), .inr (.inr (some 22)), .inl a2, .inl a3, .inl a4, .inl x2, .inl v8, .inl x16]) (st := []) (x := x16) 0 hd0 hz (by rfl) (fun hb19 => ?_) (fun hb19 => ?_)
          · obtain ⟨x20, hx20⟩ : ∃ x : Int, x = zbxor x16 (-1) := ⟨_, rfl⟩
            have hx20r : qin x20 := by rw [hx20]; exact qb32 _
            refine zG_wv (pc := 71) (L := [.inr (.inr (some 72)), .inr (.inr (some 22)), .inl a2, .inl a3, .inl a4, .inl x2, .inl v8, .inl x16]) (st := []) 5 hd0 hz zp_63 (qm_63_72 (by first | exact zdk hd rfl | omega) hCM9  x20 (by omega) a4 (by first | with_reducible exact ha4 | omega)) (by subst hx20; rfl) (fun M21 hr => ?_)
            obtain ⟨hCM21, hFM21⟩ := hr
            have hWM21 : qFr [72, 73] M M21 := hWM9.tr hFM21 (by decide)
            exact j71 M21 hCM21 hWM21
          · refine zG_wv (pc := 58) (L := [.inr (.inr (some 72)), .inr (.inr (some 22)), .inl a2, .inl a3, .inl a4, .inl x2, .inl v8, .inl x16]) (st := []) 3 hd0 hz zp_65 (qm_65_72 (by first | exact zdk hd rfl | omega) hCM9  x16) (by rfl) (fun M23 hr => ?_)
            obtain ⟨hCM23, hFM23⟩ := hr
            have hWM23 : qFr [72, 73] M M23 := hWM9.tr hFM23 (by decide)
            refine zG_w (c' := (71, [.inr (.inr (some 72)), .inr (.inr (some 22)), .inl a2, .inl a3, .inl a4, .inl x2, .inl v8, .inl x16], [])) 1 hd0 hz (by rfl) ?_
            exact j71 M23 hCM23 hWM23
  exact j21 ((81 - 1 : Int).toNat + 1) 1 M5 (by omega) (by omega) hCM5 hWM5
theorem qm_62_72_77 {n d : Nat} {M : zM} (hd : 3 ≤ d) (hC : qCI M) (a2 : Int) (ha2 : (-2147483648) ≤ a2 ∧ a2 ≤ 2147483647) (a3 : Int) (ha3 : (-2147483648) ≤ a3 ∧ a3 ≤ 2147483647) (a4 : Int) (ha4 : (-2147483648) ≤ a4 ∧ a4 ≤ 2147483647) : qOkM n d 62 [.inr (.inr (some 72)), .inr (.inr (some 77)), .inl a2, .inl a3, .inl a4] 8 qCI [72, 73] M qRl := by
  have hz := zp_62
  have hd0 : 0 < d := by omega
  have hW : qFr [72, 73] M M := qFr.rfl
  show zG n (0, 0) d 62 (0, [.inr (.inr (some 72)), .inr (.inr (some 77)), .inl a2, .inl a3, .inl a4, zN, zN, zN], []) M _
  refine zG_wp (pc := 6) (L := [.inr (.inr (some 72)), .inr (.inr (some 77)), .inl a2, .inl a3, .inl a4, zN, zN, zN]) (st := []) 3 hd0 hz zp_106 (qw_get (by first | exact zdk hd rfl | omega) hC (⟨by decide, rfl, rfl⟩ : qT n 77 1 164) a2 (by first | with_reducible exact ha2 | omega) a3 (by first | with_reducible exact ha3 | omega)) (by rfl) (fun x2 hx2 => ?_)
  refine zG_w (c' := (10, [.inr (.inr (some 72)), .inr (.inr (some 77)), .inl a2, .inl a3, .inl a4, .inl x2, zN, zN], [.inl 0, .inr (.inr (some 72))])) 3 hd0 hz (by rfl) ?_
  refine zG_putf (.inl rfl) hd0 hz rfl (by decide) rfl rfl ?_
  obtain ⟨M3, hM3⟩ : ∃ X : zM, X = zput M 72 4 0 := ⟨_, rfl⟩
  rw [← hM3]
  have hCM3 : qCI M3 := by rw [hM3]; exact hC.put (r := 72) (k := 4) rfl (.inl (by omega))
  have hWM3 : qFr [72, 73] M M3 := by rw [hM3]; exact hW.put (by decide)
  have e4 : M3 72 4 = 0 := by rw [hM3]; exact qput_eq
  show zG n (0, 0) d 62 (13, [.inr (.inr (some 72)), .inr (.inr (some 77)), .inl a2, .inl a3, .inl a4, .inl x2, zN, zN], []) M3 _
  refine zG_w (c' := (15, [.inr (.inr (some 72)), .inr (.inr (some 77)), .inl a2, .inl a3, .inl a4, .inl x2, zN, zN], [.inl 0, .inr (.inr (some 72))])) 2 hd0 hz (by rfl) ?_
  refine zG_putf (.inr ⟨rfl, by omega⟩) hd0 hz rfl (by decide) rfl rfl ?_
  obtain ⟨M5, hM5⟩ : ∃ X : zM, X = zput M3 72 5 0 := ⟨_, rfl⟩
  rw [← hM5]
  have hCM5 : qCI M5 := by rw [hM5]; exact hCM3.putUm (by omega)
  have hWM5 : qFr [72, 73] M M5 := by rw [hM5]; exact hWM3.put (by decide)
  have e6 : M5 72 4 = M3 72 4 := by rw [hM5]; exact qput_nk (by decide)
  have e7 : M5 72 5 = 0 := by rw [hM5]; exact qput_eq
  show zG n (0, 0) d 62 (18, [.inr (.inr (some 72)), .inr (.inr (some 77)), .inl a2, .inl a3, .inl a4, .inl x2, zN, zN], []) M5 _
  refine zG_w (c' := (21, [.inr (.inr (some 72)), .inr (.inr (some 77)), .inl a2, .inl a3, .inl a4, .inl x2, .inl 1, zN], [])) 2 hd0 hz (by rfl) ?_
  have j21 : ∀ (N : Nat) (v8 : Int) (M9 : zM) , (81 - v8 : Int).toNat < N → 1 ≤ v8 ∧ v8 ≤ 81 → qCI M9 → qFr [72, 73] M M9 → zG n (0, 0) d 62 (21, [.inr (.inr (some 72)), .inr (.inr (some 77)), .inl a2, .inl a3, .inl a4, .inl x2, .inl v8, zN], []) M9 (fun v M' => qWf qCI [72, 73] M M' ∧ qRl v) := by
    intro N
    induction N with
    | zero => intro v8 M9 hN hv8 hCM9 hWM9; exact absurd hN (Nat.not_lt_zero _)
    | succ N ih21 =>
      intro v8 M9 hN hv8 hCM9 hWM9
      replace hN : 81 - v8 < (N : Int) + 1 := by omega
      refine zG_w (c' := (25, [.inr (.inr (some 72)), .inr (.inr (some 77)), .inl a2, .inl a3, .inl a4, .inl x2, .inl v8, zN], [.inl x2, .inl v8])) 2 hd0 hz (by rfl) ?_
      have j77 : zG n (0, 0) d 62 (77, [.inr (.inr (some 72)), .inr (.inr (some 77)), .inl a2, .inl a3, .inl a4, .inl x2, .inl v8, zN], []) M9 (fun v M' => qWf qCI [72, 73] M M' ∧ qRl v) := by
        refine zG_wc (c1 := (81, [.inr (.inr (some 72)), .inr (.inr (some 77)), .inl a2, .inl a3, .inl a4, .inl x2, .inl v8, zN], [])) 1 hd0 hz zp_66 (qm_66_72 (by first | exact zdk hd rfl | omega) hCM9  ) (by rfl) (fun vr M10 hr => ?_)
        obtain ⟨⟨hCM10, hFM10⟩, x11, rfl⟩ := hr
        have hWM10 : qFr [72, 73] M M10 := hWM9.tr hFM10 (by decide)
        show zG n (0, 0) d 62 (81, [.inr (.inr (some 72)), .inr (.inr (some 77)), .inl a2, .inl a3, .inl a4, .inl x2, .inl v8, zN], [.inr (.inl (x11))]) M10 _
        exact zG_wr (r := some (.inr (.inl (x11)))) 0 hd0 hz (by rfl) ⟨⟨hCM10, hWM10⟩, _, rfl⟩
      refine zG_wi_gt (pc := 25) (n' := 28) (t := 77) (L := [.inr (.inr (some 72)), .inr (.inr (some 77)), .inl a2, .inl a3, .inl a4, .inl x2, .inl v8, zN]) (st := []) (x := v8) (y := x2) 0 hd0 hz (by rfl) (fun hb12 => ?_) (fun hb12 => ?_)
      · exact j77
      · refine zG_wi_gt (pc := 32) (n' := 35) (t := 77) (L := [.inr (.inr (some 72)), .inr (.inr (some 77)), .inl a2, .inl a3, .inl a4, .inl x2, .inl v8, zN]) (st := []) (x := v8) (y := 80) 2 hd0 hz (by rfl) (fun hb13 => ?_) (fun hb13 => ?_)
        · exact j77
        · obtain ⟨x14, hx14⟩ : ∃ x : Int, x = w32 (a3 + v8) := ⟨_, rfl⟩
          have hx14r : x14 = (a3 + v8 + 2147483648) % 4294967296 - 2147483648 := hx14
          refine zG_wp (pc := 44) (L := [.inr (.inr (some 72)), .inr (.inr (some 77)), .inl a2, .inl a3, .inl a4, .inl x2, .inl v8, zN]) (st := []) 5 hd0 hz zp_106 (qw_get (by first | exact zdk hd rfl | omega) hCM9 (⟨by decide, rfl, rfl⟩ : qT n 77 1 164) a2 (by first | with_reducible exact ha2 | omega) x14 (by omega)) (by subst hx14; rfl) (fun x16 hx16 => ?_)
          refine zG_w (c' := (48, [.inr (.inr (some 72)), .inr (.inr (some 77)), .inl a2, .inl a3, .inl a4, .inl x2, .inl v8, .inl x16], [.inl x16])) 2 hd0 hz (by rfl) ?_
          have j71 : ∀ (M17 : zM) , qCI M17 → qFr [72, 73] M M17 → zG n (0, 0) d 62 (71, [.inr (.inr (some 72)), .inr (.inr (some 77)), .inl a2, .inl a3, .inl a4, .inl x2, .inl v8, .inl x16], []) M17 (fun v M' => qWf qCI [72, 73] M M' ∧ qRl v) := by
            intro M17 hCM17 hWM17
            obtain ⟨x18, hx18⟩ : ∃ x : Int, x = w32 (v8 + 1) := ⟨_, rfl⟩
            have hx18e : x18 = v8 + 1 := by rw [hx18]; exact w32_id (by omega)
            refine zG_w (c' := (21, [.inr (.inr (some 72)), .inr (.inr (some 77)), .inl a2, .inl a3, .inl a4, .inl x2, .inl x18, .inl x16], [])) 2 hd0 hz (by subst hx18; rfl) ?_
            exact zG_weak (ih21 x18 M17 (by omega) (by omega) hCM17 hWM17) ⟨.inr rfl, .inr rfl, .inr rfl, .inr rfl, .inr rfl, .inr rfl, .inr rfl, .inl rfl, trivial⟩
          refine zG_wf_lt (pc := 48) (n' := 51) (t := 61) (L := [.inr (.inr (some 72)), .inr (.inr (some 77)), .inl a2, .inl a3, .inl a4, .inl x2, .inl v8, .inl x16]) (st := []) (x := x16) 0 hd0 hz (by rfl) (fun hb19 => ?_) (fun hb19 => ?_)
          · obtain ⟨x20, hx20⟩ : ∃ x : Int, x = zbxor x16 (-1) := ⟨_, rfl⟩
            have hx20r : qin x20 := by rw [hx20]; exact qb32 _
            refine zG_wv (pc := 71) (L := [.inr (.inr (some 72)), .inr (.inr (some 77)), .inl a2, .inl a3, .inl a4, .inl x2, .inl v8, .inl x16]) (st := []) 5 hd0 hz zp_63 (qm_63_72 (by first | exact zdk hd rfl | omega) hCM9  x20 (by omega) a4 (by first | with_reducible exact ha4 | omega)) (by subst hx20; rfl) (fun M21 hr => ?_)
            obtain ⟨hCM21, hFM21⟩ := hr
            have hWM21 : qFr [72, 73] M M21 := hWM9.tr hFM21 (by decide)
            exact j71 M21 hCM21 hWM21
          · refine zG_wv (pc := 58) (L := [.inr (.inr (some 72)), .inr (.inr (some 77)), .inl a2, .inl a3, .inl a4, .inl x2, .inl v8, .inl x16]) (st := []) 3 hd0 hz zp_65 (qm_65_72 (by first | exact zdk hd rfl | omega) hCM9  x16) (by rfl) (fun M23 hr => ?_)
            obtain ⟨hCM23, hFM23⟩ := hr
            have hWM23 : qFr [72, 73] M M23 := hWM9.tr hFM23 (by decide)
            refine zG_w (c' := (71, [.inr (.inr (some 72)), .inr (.inr (some 77)), .inl a2, .inl a3, .inl a4, .inl x2, .inl v8, .inl x16], [])) 1 hd0 hz (by rfl) ?_
            exact j71 M23 hCM23 hWM23
  exact j21 ((81 - 1 : Int).toNat + 1) 1 M5 (by omega) (by omega) hCM5 hWM5
theorem qm_32_76 {n d : Nat} {M : zM} (hd : 4 ≤ d) (hC : qCI M) (a1 : Int) (ha1 : (-2147483648) ≤ a1 ∧ a1 ≤ 2147483647) (a2 : Int) (ha2 : (-2147483648) ≤ a2 ∧ a2 ≤ 2147483647) : qOkM n d 32 [.inr (.inr (some 76)), .inl a1, .inl a2] 6 qCI [72, 73, 74] M (qRi (fun x => (-2147483648) ≤ x ∧ x ≤ 2147483647)) := by
  have hz := zp_32
  have hd0 : 0 < d := by omega
  have hW : qFr [72, 73, 74] M M := qFr.rfl
  show zG n (0, 0) d 32 (0, [.inr (.inr (some 76)), .inl a1, .inl a2, zN, zN, zN], []) M _
  refine zG_wp (pc := 6) (L := [.inr (.inr (some 76)), .inl a1, .inl a2, zN, zN, zN]) (st := []) 3 hd0 hz zp_29 (qm_29_76 (by first | exact zdk hd rfl | omega) hC  a1 (by first | with_reducible exact ha1 | omega) a2 (by first | with_reducible exact ha2 | omega)) (by rfl) (fun x2 hx2 => ?_)
  refine zG_w (c' := (13, [.inr (.inr (some 76)), .inl a1, .inl a2, .inl x2, .inl 0, .inl 0], [])) 5 hd0 hz (by rfl) ?_
  have j13 : ∀ (N : Nat) (v3 v4 : Int) (M5 : zM) , (14 - v4 : Int).toNat < N → (-2147483648) ≤ v3 ∧ v3 ≤ 2147483647 → 0 ≤ v4 ∧ v4 ≤ 14 → qCI M5 → qFr [72, 73, 74] M M5 → zG n (0, 0) d 32 (13, [.inr (.inr (some 76)), .inl a1, .inl a2, .inl x2, .inl v3, .inl v4], []) M5 (fun v M' => qWf qCI [72, 73, 74] M M' ∧ qRi (fun x => (-2147483648) ≤ x ∧ x ≤ 2147483647) v) := by
    intro N
    induction N with
    | zero => intro v3 v4 M5 hN hv3 hv4 hCM5 hWM5; exact absurd hN (Nat.not_lt_zero _)
    | succ N ih13 =>
      intro v3 v4 M5 hN hv3 hv4 hCM5 hWM5
      replace hN : 14 - v4 < (N : Int) + 1 := by omega
      refine zG_wp (pc := 25) (L := [.inr (.inr (some 76)), .inl a1, .inl a2, .inl x2, .inl v3, .inl v4]) (st := [.inl v4]) 4 hd0 hz zp_101 (qw_size (by first | exact zdk hd rfl | omega) hCM5 (⟨by decide, rfl, rfl⟩ : qT n 10 14 4) ) (by rfl) (fun x7 hx7 => ?_)
      refine zG_wi_ge (pc := 25) (n' := 28) (t := 76) (L := [.inr (.inr (some 76)), .inl a1, .inl a2, .inl x2, .inl v3, .inl v4]) (st := []) (x := v4) (y := x7) 0 hd0 hz (by rfl) (fun hb8 => ?_) (fun hb8 => ?_)
      · exact zG_wr (r := some (.inl v3)) 1 hd0 hz (by rfl) ⟨⟨hCM5, hWM5⟩, _, rfl, by omega⟩
      · refine zG_wv (pc := 37) (L := [.inr (.inr (some 76)), .inl a1, .inl a2, .inl x2, .inl v3, .inl v4]) (st := []) 4 hd0 hz zp_38 (qm_38_76 (by first | exact zdk hd rfl | omega) hCM5  a1 (by first | with_reducible exact ha1 | omega) v4 (by first | with_reducible exact hv4 | omega) v3 (by first | with_reducible exact hv3 | omega)) (by rfl) (fun M9 hr => ?_)
        obtain ⟨hCM9, hFM9⟩ := hr
        have hWM9 : qFr [72, 73, 74] M M9 := hWM5.tr hFM9 (by decide)
        refine zG_wc (c1 := (46, [.inr (.inr (some 76)), .inl a1, .inl a2, .inl x2, .inl v3, .inl v4], [.inr (.inr (some 72))])) 4 hd0 hz zp_31 (qm_31_76 (by first | exact zdk hd rfl | omega) hCM9  x2 (by omega)) (by rfl) (fun vr M11 hr => ?_)
        obtain ⟨hq, hv⟩ := hr
        replace hq := hq.symm; subst hq
        rcases hv with rfl | rfl
        · show zG n (0, 0) d 32 (46, [.inr (.inr (some 76)), .inl a1, .inl a2, .inl x2, .inl v3, .inl v4], [.inr (.inr (some 22)), .inr (.inr (some 72))]) M9 _
          obtain ⟨x13, hx13⟩ : ∃ x : Int, x = (if x2 < 0 then 0 else x2) := ⟨_, rfl⟩
          have hx13r := qite hx13
          refine zG_wc (c1 := (56, [.inr (.inr (some 76)), .inl a1, .inl a2, .inl x2, .inl v3, .inl v4], [])) 5 hd0 hz zp_62 (qm_62_72_22 (by first | exact zdk hd rfl | omega) hCM9  x13 (by omega) 2 (by first | decide | omega) 0 (by first | decide | omega)) (by subst hx13; rfl) (fun vr M14 hr => ?_)
          obtain ⟨⟨hCM14, hFM14⟩, x15, rfl⟩ := hr
          have hWM14 : qFr [72, 73, 74] M M14 := hWM9.tr hFM14 (by decide)
          show zG n (0, 0) d 32 (56, [.inr (.inr (some 76)), .inl a1, .inl a2, .inl x2, .inl v3, .inl v4], [.inr (.inl (x15))]) M14 _
          refine zG_w (c' := (57, [.inr (.inr (some 76)), .inl a1, .inl a2, .inl x2, .inl v3, .inl v4], [.inr (.inl (0)), .inr (.inl (x15))])) 1 hd0 hz (by rfl) ?_
          have j70 : ∀ (v16 : Int) , (-2147483648) ≤ v16 ∧ v16 ≤ 2147483647 → zG n (0, 0) d 32 (70, [.inr (.inr (some 76)), .inl a1, .inl a2, .inl x2, .inl v16, .inl v4], []) M14 (fun v M' => qWf qCI [72, 73, 74] M M' ∧ qRi (fun x => (-2147483648) ≤ x ∧ x ≤ 2147483647) v) := by
            intro v16 hv16
            obtain ⟨x17, hx17⟩ : ∃ x : Int, x = w32 (v4 + 1) := ⟨_, rfl⟩
            have hx17e : x17 = v4 + 1 := by rw [hx17]; exact w32_id (by omega)
            refine zG_w (c' := (13, [.inr (.inr (some 76)), .inl a1, .inl a2, .inl x2, .inl v16, .inl x17], [])) 2 hd0 hz (by subst hx17; rfl) ?_
            exact ih13 v16 x17 M14 (by omega) (by omega) (by omega) hCM14 hWM14
          refine zG_lc_eq hd0 hz rfl rfl (fun hb57 => ?_) (fun hb57 => ?_)
          · exact j70 v3 (by first | with_reducible exact hv3 | omega)
          · obtain ⟨x18, hx18⟩ : ∃ x : Int, x = zbshl 1 v4 := ⟨_, rfl⟩
            have hx18r : qin x18 := by rw [hx18]; exact qb32 _
            obtain ⟨x19, hx19⟩ : ∃ x : Int, x = zbor v3 x18 := ⟨_, rfl⟩
            have hx19r : qin x19 := by rw [hx19]; exact qb32 _
            refine zG_w (c' := (70, [.inr (.inr (some 76)), .inl a1, .inl a2, .inl x2, .inl x19, .inl v4], [])) 6 hd0 hz (by subst hx19; subst hx18; rfl) ?_
            exact j70 x19 (by omega)
        · show zG n (0, 0) d 32 (46, [.inr (.inr (some 76)), .inl a1, .inl a2, .inl x2, .inl v3, .inl v4], [.inr (.inr (some 77)), .inr (.inr (some 72))]) M9 _
          obtain ⟨x20, hx20⟩ : ∃ x : Int, x = (if x2 < 0 then 0 else x2) := ⟨_, rfl⟩
          have hx20r := qite hx20
          refine zG_wc (c1 := (56, [.inr (.inr (some 76)), .inl a1, .inl a2, .inl x2, .inl v3, .inl v4], [])) 5 hd0 hz zp_62 (qm_62_72_77 (by first | exact zdk hd rfl | omega) hCM9  x20 (by omega) 2 (by first | decide | omega) 0 (by first | decide | omega)) (by subst hx20; rfl) (fun vr M21 hr => ?_)
          obtain ⟨⟨hCM21, hFM21⟩, x22, rfl⟩ := hr
          have hWM21 : qFr [72, 73, 74] M M21 := hWM9.tr hFM21 (by decide)
          show zG n (0, 0) d 32 (56, [.inr (.inr (some 76)), .inl a1, .inl a2, .inl x2, .inl v3, .inl v4], [.inr (.inl (x22))]) M21 _
          refine zG_w (c' := (57, [.inr (.inr (some 76)), .inl a1, .inl a2, .inl x2, .inl v3, .inl v4], [.inr (.inl (0)), .inr (.inl (x22))])) 1 hd0 hz (by rfl) ?_
          have j70 : ∀ (v23 : Int) , (-2147483648) ≤ v23 ∧ v23 ≤ 2147483647 → zG n (0, 0) d 32 (70, [.inr (.inr (some 76)), .inl a1, .inl a2, .inl x2, .inl v23, .inl v4], []) M21 (fun v M' => qWf qCI [72, 73, 74] M M' ∧ qRi (fun x => (-2147483648) ≤ x ∧ x ≤ 2147483647) v) := by
            intro v23 hv23
            obtain ⟨x24, hx24⟩ : ∃ x : Int, x = w32 (v4 + 1) := ⟨_, rfl⟩
            have hx24e : x24 = v4 + 1 := by rw [hx24]; exact w32_id (by omega)
            refine zG_w (c' := (13, [.inr (.inr (some 76)), .inl a1, .inl a2, .inl x2, .inl v23, .inl x24], [])) 2 hd0 hz (by subst hx24; rfl) ?_
            exact ih13 v23 x24 M21 (by omega) (by omega) (by omega) hCM21 hWM21
          refine zG_lc_eq hd0 hz rfl rfl (fun hb57 => ?_) (fun hb57 => ?_)
          · exact j70 v3 (by first | with_reducible exact hv3 | omega)
          · obtain ⟨x25, hx25⟩ : ∃ x : Int, x = zbshl 1 v4 := ⟨_, rfl⟩
            have hx25r : qin x25 := by rw [hx25]; exact qb32 _
            obtain ⟨x26, hx26⟩ : ∃ x : Int, x = zbor v3 x25 := ⟨_, rfl⟩
            have hx26r : qin x26 := by rw [hx26]; exact qb32 _
            refine zG_w (c' := (70, [.inr (.inr (some 76)), .inl a1, .inl a2, .inl x2, .inl x26, .inl v4], [])) 6 hd0 hz (by subst hx26; subst hx25; rfl) ?_
            exact j70 x26 (by omega)
  exact j13 ((14 - 0 : Int).toNat + 1) 0 0 M (by omega) (by omega) (by omega) hC hW
theorem qm_142_8 {n d : Nat} {M : zM} (hd : 7 ≤ d) (hC : qCI M) (a1 : Int) (ha1 : (-2147483648) ≤ a1 ∧ a1 ≤ 2147483647) (a2 : Int) (ha2 : (-2147483648) ≤ a2 ∧ a2 ≤ 2147483647) (a3 : Int) (ha3 : (-2147483648) ≤ a3 ∧ a3 ≤ 2147483647) : qOkM n d 142 [.inr (.inr (some 8)), .inl a1, .inl a2, .inl a3] 4 qCI [62, 64, 65, 66, 72, 73, 74] M (qRi (fun x => (-2147483648) ≤ x ∧ x ≤ 2147483647)) := by
  have hz := zp_142
  have hd0 : 0 < d := by omega
  have hW : qFr [62, 64, 65, 66, 72, 73, 74] M M := qFr.rfl
  show zG n (0, 0) d 142 (0, [.inr (.inr (some 8)), .inl a1, .inl a2, .inl a3], []) M _
  refine zG_wp (pc := 5) (L := [.inr (.inr (some 8)), .inl a1, .inl a2, .inl a3]) (st := []) 2 hd0 hz zp_174 (qm_174_8 (by first | exact zdk hd rfl | omega) hC  a1 (by first | with_reducible exact ha1 | omega)) (by rfl) (fun x2 hx2 => ?_)
  have j22 : zG n (0, 0) d 142 (22, [.inr (.inr (some 8)), .inl a1, .inl a2, .inl a3], []) M (fun v M' => qWf qCI [62, 64, 65, 66, 72, 73, 74] M M' ∧ qRi (fun x => (-2147483648) ≤ x ∧ x ≤ 2147483647) v) := by
    exact zG_wr (r := some (.inl (-2))) 1 hd0 hz (by rfl) ⟨⟨hC, hW⟩, _, rfl, by omega⟩
  refine zG_wf_eq (pc := 5) (n' := 8) (t := 22) (L := [.inr (.inr (some 8)), .inl a1, .inl a2, .inl a3]) (st := []) (x := x2) 0 hd0 hz (by rfl) (fun hb3 => ?_) (fun hb3 => ?_)
  · exact j22
  · refine zG_wp (pc := 12) (L := [.inr (.inr (some 8)), .inl a1, .inl a2, .inl a3]) (st := []) 1 hd0 hz zp_170 (qm_170 (by first | exact zdk hd rfl | omega) hC  a2 (by first | with_reducible exact ha2 | omega)) (by rfl) (fun x5 hx5 => ?_)
    refine zG_wf_eq (pc := 12) (n' := 15) (t := 22) (L := [.inr (.inr (some 8)), .inl a1, .inl a2, .inl a3]) (st := []) (x := x5) 0 hd0 hz (by rfl) (fun hb6 => ?_) (fun hb6 => ?_)
    · exact j22
    · refine zG_wp (pc := 19) (L := [.inr (.inr (some 8)), .inl a1, .inl a2, .inl a3]) (st := []) 1 hd0 hz zp_170 (qm_170 (by first | exact zdk hd rfl | omega) hC  a3 (by first | with_reducible exact ha3 | omega)) (by rfl) (fun x8 hx8 => ?_)
      refine zG_wf_ne (pc := 19) (n' := 22) (t := 25) (L := [.inr (.inr (some 8)), .inl a1, .inl a2, .inl a3]) (st := []) (x := x8) 0 hd0 hz (by rfl) (fun hb9 => ?_) (fun hb9 => ?_)
      · refine zG_wv (pc := 34) (L := [.inr (.inr (some 8)), .inl a1, .inl a2, .inl a3]) (st := []) 4 hd0 hz zp_41 (qm_41_60 (by first | exact zdk hd rfl | omega) hC  a3 (by first | with_reducible exact ha3 | omega) (-1) (by first | decide | omega)) (by rfl) (fun M10 hr => ?_)
        obtain ⟨hCM10, hFM10⟩ := hr
        have hWM10 : qFr [62, 64, 65, 66, 72, 73, 74] M M10 := hW.tr hFM10 (by decide)
        refine zG_wn (pc := 43) (L := [.inr (.inr (some 8)), .inl a1, .inl a2, .inl a3]) (st := []) 4 hd0 hz zp_32 (qm_32_76 (by first | exact zdk hd rfl | omega) hCM10  a1 (by first | with_reducible exact ha1 | omega) a2 (by first | with_reducible exact ha2 | omega)) (by rfl) (fun x13 M12 hr hx13 => ?_)
        obtain ⟨hCM12, hFM12⟩ := hr
        have hWM12 : qFr [62, 64, 65, 66, 72, 73, 74] M M12 := hWM10.tr hFM12 (by decide)
        exact zG_wr (r := some (.inl x13)) 0 hd0 hz (by rfl) ⟨⟨hCM12, hWM12⟩, _, rfl, by omega⟩
      · exact j22
theorem qm_59_72 {n d : Nat} {M : zM} (hd : 1 ≤ d) (hC : qCI M) (a1 : Int) (ha1 : (-2147483648) ≤ a1 ∧ a1 ≤ 2147483647) : qOkM n d 59 [.inr (.inr (some 72)), .inl a1] 3 qCI [72, 75] M qRn := by
  have hz := zp_59
  have hd0 : 0 < d := by omega
  have hW : qFr [72, 75] M M := qFr.rfl
  show zG n (0, 0) d 59 (0, [.inr (.inr (some 72)), .inl a1, zN], []) M _
  have r1 := hC.rk
  obtain ⟨x2, hx2⟩ : ∃ x : Int, x = (if 13 < (M 72 3) then 13 else (M 72 3)) := ⟨_, rfl⟩
  have hx2r := qite hx2
  refine zG_w (c' := (15, [.inr (.inr (some 72)), .inl a1, .inl x2], [])) 9 hd0 hz (by subst hx2; rfl) ?_
  have j15 : ∀ (N : Nat) (v3 : Int) (M4 : zM) , (v3 : Int).toNat < N → 0 ≤ v3 ∧ v3 ≤ 13 → qCI M4 → qFr [72, 75] M M4 → zG n (0, 0) d 59 (15, [.inr (.inr (some 72)), .inl a1, .inl v3], []) M4 (fun v M' => qWf qCI [72, 75] M M' ∧ qRn v) := by
    intro N
    induction N with
    | zero => intro v3 M4 hN hv3 hCM4 hWM4; exact absurd hN (Nat.not_lt_zero _)
    | succ N ih15 =>
      intro v3 M4 hN hv3 hCM4 hWM4
      replace hN : v3 < (N : Int) + 1 := by omega
      refine zG_w (c' := (16, [.inr (.inr (some 72)), .inl a1, .inl v3], [.inl v3])) 1 hd0 hz (by rfl) ?_
      have j51 : zG n (0, 0) d 59 (51, [.inr (.inr (some 72)), .inl a1, .inl v3], []) M4 (fun v M' => qWf qCI [72, 75] M M' ∧ qRn v) := by
        refine zG_w (c' := (57, [.inr (.inr (some 72)), .inl a1, .inl v3], [.inl a1, .inl v3, .inr (.inr (some 75))])) 4 hd0 hz (by rfl) ?_
        refine zG_iast hd0 hz rfl rfl (by omega) ?_
        obtain ⟨M5, hM5⟩ : ∃ X : zM, X = zput M4 75 (v3 : Int).toNat a1 := ⟨_, rfl⟩
        rw [← hM5]
        have hCM5 : qCI M5 := by rw [hM5]; exact hCM4.put (r := 75) rfl (.inl (by omega))
        have hWM5 : qFr [72, 75] M M5 := by rw [hM5]; exact hWM4.put (by decide)
        show zG n (0, 0) d 59 (58, [.inr (.inr (some 72)), .inl a1, .inl v3], []) M5 _
        have r6 := hCM5.rk
        obtain ⟨x7, hx7⟩ : ∃ x : Int, x = w32 ((M5 72 3) + 1) := ⟨_, rfl⟩
        have hx7e : x7 = (M5 72 3) + 1 := by rw [hx7]; exact w32_id (by omega)
        obtain ⟨x8, hx8⟩ : ∃ x : Int, x = (if 14 < x7 then 14 else x7) := ⟨_, rfl⟩
        have hx8r := qite hx8
        refine zG_w (c' := (73, [.inr (.inr (some 72)), .inl a1, .inl v3], [.inl x8, .inr (.inr (some 72))])) 9 hd0 hz (by subst hx8; subst hx7; rfl) ?_
        refine zG_putf (.inl rfl) hd0 hz rfl (by decide) rfl rfl ?_
        obtain ⟨M9, hM9⟩ : ∃ X : zM, X = zput M5 72 3 x8 := ⟨_, rfl⟩
        rw [← hM9]
        have hCM9 : qCI M9 := by rw [hM9]; exact hCM5.putRk (by omega)
        have hWM9 : qFr [72, 75] M M9 := by rw [hM9]; exact hWM5.put (by decide)
        have e10 : M9 72 3 = x8 := by rw [hM9]; exact qput_eq
        show zG n (0, 0) d 59 (76, [.inr (.inr (some 72)), .inl a1, .inl v3], []) M9 _
        exact zG_wr (r := none) 0 hd0 hz (by rfl) ⟨⟨hCM9, hWM9⟩, rfl⟩
      refine zG_wf_le (pc := 16) (n' := 19) (t := 51) (L := [.inr (.inr (some 72)), .inl a1, .inl v3]) (st := []) (x := v3) 0 hd0 hz (by rfl) (fun hb11 => ?_) (fun hb11 => ?_)
      · exact j51
      · obtain ⟨x12, hx12⟩ : ∃ x : Int, x = w32 (v3 - 1) := ⟨_, rfl⟩
        have hx12e : x12 = v3 - 1 := by rw [hx12]; exact w32_id (by omega)
        refine zG_w (c' := (26, [.inr (.inr (some 72)), .inl a1, .inl v3], [.inl x12, .inr (.inr (some 75))])) 5 hd0 hz (by subst hx12; rfl) ?_
        refine zG_iald hd0 hz rfl rfl (.inl rfl) (by omega) ?_
        have hx13 := hCM4.rng 75 (x12 : Int).toNat (by decide) (by decide)
        generalize M4 75 (x12 : Int).toNat = x13 at hx13 ⊢
        show zG n (0, 0) d 59 (27, [.inr (.inr (some 72)), .inl a1, .inl v3], [.inl x13]) M4 _
        refine zG_wi_ge (pc := 28) (n' := 31) (t := 51) (L := [.inr (.inr (some 72)), .inl a1, .inl v3]) (st := []) (x := x13) (y := a1) 1 hd0 hz (by rfl) (fun hb14 => ?_) (fun hb14 => ?_)
        · exact j51
        · obtain ⟨x15, hx15⟩ : ∃ x : Int, x = w32 (v3 - 1) := ⟨_, rfl⟩
          have hx15e : x15 = v3 - 1 := by rw [hx15]; exact w32_id (by omega)
          refine zG_w (c' := (43, [.inr (.inr (some 72)), .inl a1, .inl v3], [.inl x15, .inr (.inr (some 75)), .inl v3, .inr (.inr (some 75))])) 8 hd0 hz (by subst hx15; rfl) ?_
          refine zG_iald hd0 hz rfl rfl (.inl rfl) (by omega) ?_
          have hx16 := hCM4.rng 75 (x15 : Int).toNat (by decide) (by decide)
          generalize M4 75 (x15 : Int).toNat = x16 at hx16 ⊢
          show zG n (0, 0) d 59 (44, [.inr (.inr (some 72)), .inl a1, .inl v3], [.inl x16, .inl v3, .inr (.inr (some 75))]) M4 _
          refine zG_iast hd0 hz rfl rfl (by omega) ?_
          obtain ⟨M17, hM17⟩ : ∃ X : zM, X = zput M4 75 (v3 : Int).toNat x16 := ⟨_, rfl⟩
          rw [← hM17]
          have hCM17 : qCI M17 := by rw [hM17]; exact hCM4.put (r := 75) rfl (.inl (by omega))
          have hWM17 : qFr [72, 75] M M17 := by rw [hM17]; exact hWM4.put (by decide)
          show zG n (0, 0) d 59 (45, [.inr (.inr (some 72)), .inl a1, .inl v3], []) M17 _
          obtain ⟨x18, hx18⟩ : ∃ x : Int, x = w32 (v3 + (-1)) := ⟨_, rfl⟩
          have hx18e : x18 = v3 + (-1) := by rw [hx18]; exact w32_id (by omega)
          refine zG_w (c' := (15, [.inr (.inr (some 72)), .inl a1, .inl x18], [])) 2 hd0 hz (by subst hx18; rfl) ?_
          exact ih15 x18 M17 (by omega) (by omega) hCM17 hWM17
  exact j15 ((x2 : Int).toNat + 1) x2 M (by omega) (by omega) hC hW
theorem qm_39_76 {n d : Nat} {M : zM} (hd : 3 ≤ d) (hC : qCI M) (a1 : Int) (ha1 : (-2147483648) ≤ a1 ∧ a1 ≤ 2147483647) (a2 : Int) (ha2 : (-2147483648) ≤ a2 ∧ a2 ≤ 2147483647) : qOkM n d 39 [.inr (.inr (some 76)), .inl a1, .inl a2] 10 qCI [72, 74, 75] M qRn := by
  have hz := zp_39
  have hd0 : 0 < d := by omega
  have hW : qFr [72, 74, 75] M M := qFr.rfl
  show zG n (0, 0) d 39 (0, [.inr (.inr (some 76)), .inl a1, .inl a2, zN, zN, zN, zN, zN, zN, zN], []) M _
  refine zG_wv (pc := 12) (L := [.inr (.inr (some 76)), .inl a1, .inl a2, .inr (.inl (0)), zN, .inr (.inl (0)), zN, zN, zN, zN]) (st := []) 6 hd0 hz zp_56 (qm_56_72 (by first | exact zdk hd rfl | omega) hC  ) (by rfl) (fun M1 hr => ?_)
  obtain ⟨hCM1, hFM1⟩ := hr
  have hWM1 : qFr [72, 74, 75] M M1 := hW.tr hFM1 (by decide)
  refine zG_w (c' := (15, [.inr (.inr (some 76)), .inl a1, .inl a2, .inr (.inl (0)), zN, .inr (.inl (0)), zN, .inl 0, zN, zN], [])) 2 hd0 hz (by rfl) ?_
  have j15 : ∀ (N : Nat) (v3 v4 v5 : Int) (M6 : zM) , (14 - v5 : Int).toNat < N → 0 ≤ v5 ∧ v5 ≤ 14 → qCI M6 → qFr [72, 74, 75] M M6 → zG n (0, 0) d 39 (15, [.inr (.inr (some 76)), .inl a1, .inl a2, .inr (.inl (v3)), zN, .inr (.inl (v4)), zN, .inl v5, zN, zN], []) M6 (fun v M' => qWf qCI [72, 74, 75] M M' ∧ qRn v) := by
    intro N
    induction N with
    | zero => intro v3 v4 v5 M6 hN hv5 hCM6 hWM6; exact absurd hN (Nat.not_lt_zero _)
    | succ N ih15 =>
      intro v3 v4 v5 M6 hN hv5 hCM6 hWM6
      replace hN : 14 - v5 < (N : Int) + 1 := by omega
      refine zG_wp (pc := 27) (L := [.inr (.inr (some 76)), .inl a1, .inl a2, .inr (.inl (v3)), zN, .inr (.inl (v4)), zN, .inl v5, zN, zN]) (st := [.inl v5]) 4 hd0 hz zp_101 (qw_size (by first | exact zdk hd rfl | omega) hCM6 (⟨by decide, rfl, rfl⟩ : qT n 10 14 4) ) (by rfl) (fun x8 hx8 => ?_)
      refine zG_wi_ge (pc := 27) (n' := 30) (t := 104) (L := [.inr (.inr (some 76)), .inl a1, .inl a2, .inr (.inl (v3)), zN, .inr (.inl (v4)), zN, .inl v5, zN, zN]) (st := []) (x := v5) (y := x8) 0 hd0 hz (by rfl) (fun hb9 => ?_) (fun hb9 => ?_)
      · refine zG_wv (pc := 116) (L := [.inr (.inr (some 76)), .inl a1, .inl a2, .inr (.inl (v3)), zN, .inr (.inl (v4)), zN, .inl v5, zN, zN]) (st := []) 4 hd0 hz zp_57 (qm_57_72 (by first | exact zdk hd rfl | omega) hCM6  7 (by first | decide | omega) (-1)) (by rfl) (fun M10 hr => ?_)
        obtain ⟨hCM10, hFM10⟩ := hr
        have hWM10 : qFr [72, 74, 75] M M10 := hWM6.tr hFM10 (by decide)
        refine zG_wv (pc := 126) (L := [.inr (.inr (some 76)), .inl a1, .inl a2, .inr (.inl (v3)), zN, .inr (.inl (v4)), zN, .inl v5, zN, zN]) (st := []) 4 hd0 hz zp_57 (qm_57_72 (by first | exact zdk hd rfl | omega) hCM10  12 (by first | decide | omega) v3) (by rfl) (fun M12 hr => ?_)
        obtain ⟨hCM12, hFM12⟩ := hr
        have hWM12 : qFr [72, 74, 75] M M12 := hWM10.tr hFM12 (by decide)
        refine zG_w (c' := (134, [.inr (.inr (some 76)), .inl a1, .inl a2, .inr (.inl (v3)), zN, .inr (.inl (v4)), zN, .inl v5, zN, zN], [.inr (.inl (0)), .inr (.inl (v3)), .inl 13, .inr (.inr (some 72))])) 5 hd0 hz (by rfl) ?_
        have j150 : ∀ (v14 v15 : Int) , 13 ≤ v14 ∧ v14 ≤ 13 → zG n (0, 0) d 39 (150, [.inr (.inr (some 76)), .inl a1, .inl a2, .inr (.inl (v3)), zN, .inr (.inl (v4)), zN, .inl v5, zN, zN], [.inr (.inl (v15)), .inl v14, .inr (.inr (some 72))]) M12 (fun v M' => qWf qCI [72, 74, 75] M M' ∧ qRn v) := by
          intro v14 v15 hv14
          refine zG_wv (pc := 153) (L := [.inr (.inr (some 76)), .inl a1, .inl a2, .inr (.inl (v3)), zN, .inr (.inl (v4)), zN, .inl v5, zN, zN]) (st := []) 0 hd0 hz zp_57 (qm_57_72 (by first | exact zdk hd rfl | omega) hCM12  v14 (by first | with_reducible exact hv14 | omega) v15) (by rfl) (fun M16 hr => ?_)
          obtain ⟨hCM16, hFM16⟩ := hr
          have hWM16 : qFr [72, 74, 75] M M16 := hWM12.tr hFM16 (by decide)
          refine zG_wp (pc := 163) (L := [.inr (.inr (some 76)), .inl a1, .inl a2, .inr (.inl (v3)), zN, .inr (.inl (v4)), zN, .inl v5, zN, zN]) (st := [.inl 14, .inr (.inr (some 72))]) 4 hd0 hz zp_296 (qm_296 (by first | exact zdk hd rfl | omega) hCM16  a2 (by first | with_reducible exact ha2 | omega)) (by rfl) (fun x19 hx19 => ?_)
          refine zG_wv (pc := 167) (L := [.inr (.inr (some 76)), .inl a1, .inl a2, .inr (.inl (v3)), zN, .inr (.inl (v4)), zN, .inl v5, zN, zN]) (st := []) 1 hd0 hz zp_57 (qm_57_72 (by first | exact zdk hd rfl | omega) hCM16  14 (by first | decide | omega) x19) (by rfl) (fun M20 hr => ?_)
          obtain ⟨hCM20, hFM20⟩ := hr
          have hWM20 : qFr [72, 74, 75] M M20 := hWM16.tr hFM20 (by decide)
          exact zG_wr (r := none) 0 hd0 hz (by rfl) ⟨⟨hCM20, hWM20⟩, rfl⟩
        refine zG_lc_ne hd0 hz rfl rfl (fun hb134 => ?_) (fun hb134 => ?_)
        · obtain ⟨x22, hx22⟩ : ∃ x : Int, x = w64 (v4 * 100) := ⟨_, rfl⟩
          refine zG_w (c' := (149, [.inr (.inr (some 76)), .inl a1, .inl a2, .inr (.inl (v3)), zN, .inr (.inl (v4)), zN, .inl v5, zN, zN], [.inr (.inl (v3)), .inr (.inl (x22)), .inl 13, .inr (.inr (some 72))])) 4 hd0 hz (by subst hx22; rfl) ?_
          refine zG_ldiv hd0 hz rfl (by omega) ?_
          generalize w64 (x22.tdiv v3) = x23
          show zG n (0, 0) d 39 (150, [.inr (.inr (some 76)), .inl a1, .inl a2, .inr (.inl (v3)), zN, .inr (.inl (v4)), zN, .inl v5, zN, zN], [.inr (.inl (x23)), .inl 13, .inr (.inr (some 72))]) M12 _
          exact j150 13 x23 (by omega)
        · refine zG_w (c' := (150, [.inr (.inr (some 76)), .inl a1, .inl a2, .inr (.inl (v3)), zN, .inr (.inl (v4)), zN, .inl v5, zN, zN], [.inr (.inl (0)), .inl 13, .inr (.inr (some 72))])) 2 hd0 hz (by rfl) ?_
          exact j150 13 0 (by first | decide | omega)
      · obtain ⟨x24, hx24⟩ : ∃ x : Int, x = zbshr a2 v5 := ⟨_, rfl⟩
        have hx24r : qin x24 := by rw [hx24]; exact qb32 _
        obtain ⟨x25, hx25⟩ : ∃ x : Int, x = zband x24 1 := ⟨_, rfl⟩
        have hx25r := qband_r x24 1 (by first | decide | omega) (by omega); rw [← hx25] at hx25r
        refine zG_w (c' := (37, [.inr (.inr (some 76)), .inl a1, .inl a2, .inr (.inl (v3)), zN, .inr (.inl (v4)), zN, .inl v5, zN, zN], [.inl 1, .inl x25])) 6 hd0 hz (by subst hx25; subst hx24; rfl) ?_
        have j98 : ∀ (v26 v27 : Int) (M28 : zM) , qCI M28 → qFr [72, 74, 75] M M28 → zG n (0, 0) d 39 (98, [.inr (.inr (some 76)), .inl a1, .inl a2, .inr (.inl (v26)), zN, .inr (.inl (v27)), zN, .inl v5, zN, zN], []) M28 (fun v M' => qWf qCI [72, 74, 75] M M' ∧ qRn v) := by
          intro v26 v27 M28 hCM28 hWM28
          obtain ⟨x29, hx29⟩ : ∃ x : Int, x = w32 (v5 + 1) := ⟨_, rfl⟩
          have hx29e : x29 = v5 + 1 := by rw [hx29]; exact w32_id (by omega)
          refine zG_w (c' := (15, [.inr (.inr (some 76)), .inl a1, .inl a2, .inr (.inl (v26)), zN, .inr (.inl (v27)), zN, .inl x29, zN, zN], [])) 2 hd0 hz (by subst hx29; rfl) ?_
          exact ih15 v26 v27 x29 M28 (by omega) (by omega) hCM28 hWM28
        refine zG_wi_ne (pc := 37) (n' := 40) (t := 98) (L := [.inr (.inr (some 76)), .inl a1, .inl a2, .inr (.inl (v3)), zN, .inr (.inl (v4)), zN, .inl v5, zN, zN]) (st := []) (x := x25) (y := 1) 0 hd0 hz (by rfl) (fun hb30 => ?_) (fun hb30 => ?_)
        · exact j98 v3 v4 M6 hCM6 hWM6
        · refine zG_wp (pc := 53) (L := [.inr (.inr (some 76)), .inl a1, .inl a2, .inr (.inl (v3)), zN, .inr (.inl (v4)), zN, .inl v5, zN, zN]) (st := []) 5 hd0 hz zp_106 (qw_get (by first | exact zdk hd rfl | omega) hCM6 (⟨by decide, rfl, rfl⟩ : qT n 10 14 4) v5 (by first | with_reducible exact hv5 | omega) 0 (by first | decide | omega)) (by rfl) (fun x32 hx32 => ?_)
          refine zG_wp (pc := 66) (L := [.inr (.inr (some 76)), .inl a1, .inl a2, .inr (.inl (v3)), zN, .inr (.inl (v4)), zN, .inl v5, .inl x32, zN]) (st := [.inl 0]) 6 hd0 hz zp_44 (qm_44_60 (by first | exact zdk hd rfl | omega) hCM6  a1 (by first | with_reducible exact ha1 | omega) v5 (by first | with_reducible exact hv5 | omega)) (by rfl) (fun x34 hx34 => ?_)
          obtain ⟨x35, hx35⟩ : ∃ x : Int, x = (if 0 < x34 then x34 else 0) := ⟨_, rfl⟩
          have hx35r := qite hx35
          obtain ⟨x36, hx36⟩ : ∃ x : Int, x = w64 (v3 + x32) := ⟨_, rfl⟩
          obtain ⟨x37, hx37⟩ : ∃ x : Int, x = w64 (x35 * x32) := ⟨_, rfl⟩
          obtain ⟨x38, hx38⟩ : ∃ x : Int, x = w64 (v4 + x37) := ⟨_, rfl⟩
          refine zG_wv (pc := 98) (L := [.inr (.inr (some 76)), .inl a1, .inl a2, .inr (.inl (x36)), zN, .inr (.inl (x38)), zN, .inl v5, .inl x32, .inl x35]) (st := []) 18 hd0 hz zp_59 (qm_59_72 (by first | exact zdk hd rfl | omega) hCM6  x35 (by omega)) (by subst hx38; subst hx37; subst hx36; subst hx35; rfl) (fun M39 hr => ?_)
          obtain ⟨hCM39, hFM39⟩ := hr
          have hWM39 : qFr [72, 74, 75] M M39 := hWM6.tr hFM39 (by decide)
          exact zG_weak (j98 x36 x38 M39 hCM39 hWM39) ⟨.inr rfl, .inr rfl, .inr rfl, .inr rfl, .inr rfl, .inr rfl, .inr rfl, .inr rfl, .inl rfl, .inl rfl, trivial⟩
  exact j15 ((14 - 0 : Int).toNat + 1) 0 0 0 M1 (by omega) (by omega) hCM1 hWM1
theorem qm_34_76 {n d : Nat} {M : zM} (hd : 4 ≤ d) (hC : qCI M) (a1 : Int) (ha1 : (-2147483648) ≤ a1 ∧ a1 ≤ 2147483647) (a2 : Int) (ha2 : (-2147483648) ≤ a2 ∧ a2 ≤ 2147483647) : qOkM n d 34 [.inr (.inr (some 76)), .inl a1, .inl a2] 5 qCI [72, 73] M (qRi (fun x => (-2147483648) ≤ x ∧ x ≤ 2147483647)) := by
  have hz := zp_34
  have hd0 : 0 < d := by omega
  have hW : qFr [72, 73] M M := qFr.rfl
  show zG n (0, 0) d 34 (0, [.inr (.inr (some 76)), .inl a1, .inl a2, zN, zN], []) M _
  refine zG_wc (c1 := (9, [.inr (.inr (some 76)), .inl a1, .inl a2, zN, zN], [.inr (.inr (some 72))])) 4 hd0 hz zp_31 (qm_31_76 (by first | exact zdk hd rfl | omega) hC  a1 (by first | with_reducible exact ha1 | omega)) (by rfl) (fun vr M1 hr => ?_)
  obtain ⟨hq, hv⟩ := hr
  replace hq := hq.symm; subst hq
  rcases hv with rfl | rfl
  · show zG n (0, 0) d 34 (9, [.inr (.inr (some 76)), .inl a1, .inl a2, zN, zN], [.inr (.inr (some 22)), .inr (.inr (some 72))]) M _
    obtain ⟨x3, hx3⟩ : ∃ x : Int, x = (if a1 < 0 then 0 else a1) := ⟨_, rfl⟩
    have hx3r := qite hx3
    refine zG_wc (c1 := (20, [.inr (.inr (some 76)), .inl a1, .inl a2, zN, zN], [])) 5 hd0 hz zp_62 (qm_62_72_22 (by first | exact zdk hd rfl | omega) hC  x3 (by omega) 83 (by first | decide | omega) a2 (by first | with_reducible exact ha2 | omega)) (by subst hx3; rfl) (fun vr M4 hr => ?_)
    obtain ⟨⟨hCM4, hFM4⟩, x5, rfl⟩ := hr
    have hWM4 : qFr [72, 73] M M4 := hW.tr hFM4 (by decide)
    show zG n (0, 0) d 34 (20, [.inr (.inr (some 76)), .inl a1, .inl a2, zN, zN], [.inr (.inl (x5))]) M4 _
    obtain ⟨x6, hx6⟩ : ∃ x : Int, x = (if x5 < 9 then x5 else 9) := ⟨_, rfl⟩
    obtain ⟨x7, hx7⟩ : ∃ x : Int, x = (if x6 < 0 then 0 else x6) := ⟨_, rfl⟩
    obtain ⟨x8, hx8⟩ : ∃ x : Int, x = w32 x7 := ⟨_, rfl⟩
    have hx8r : qin x8 := by rw [hx8]; exact w32_in _
    exact zG_wr (r := some (.inl x8)) 7 hd0 hz (by subst hx8; subst hx7; subst hx6; rfl) ⟨⟨hCM4, hWM4⟩, _, rfl, by omega⟩
  · show zG n (0, 0) d 34 (9, [.inr (.inr (some 76)), .inl a1, .inl a2, zN, zN], [.inr (.inr (some 77)), .inr (.inr (some 72))]) M _
    obtain ⟨x9, hx9⟩ : ∃ x : Int, x = (if a1 < 0 then 0 else a1) := ⟨_, rfl⟩
    have hx9r := qite hx9
    refine zG_wc (c1 := (20, [.inr (.inr (some 76)), .inl a1, .inl a2, zN, zN], [])) 5 hd0 hz zp_62 (qm_62_72_77 (by first | exact zdk hd rfl | omega) hC  x9 (by omega) 83 (by first | decide | omega) a2 (by first | with_reducible exact ha2 | omega)) (by subst hx9; rfl) (fun vr M10 hr => ?_)
    obtain ⟨⟨hCM10, hFM10⟩, x11, rfl⟩ := hr
    have hWM10 : qFr [72, 73] M M10 := hW.tr hFM10 (by decide)
    show zG n (0, 0) d 34 (20, [.inr (.inr (some 76)), .inl a1, .inl a2, zN, zN], [.inr (.inl (x11))]) M10 _
    obtain ⟨x12, hx12⟩ : ∃ x : Int, x = (if x11 < 9 then x11 else 9) := ⟨_, rfl⟩
    obtain ⟨x13, hx13⟩ : ∃ x : Int, x = (if x12 < 0 then 0 else x12) := ⟨_, rfl⟩
    obtain ⟨x14, hx14⟩ : ∃ x : Int, x = w32 x13 := ⟨_, rfl⟩
    have hx14r : qin x14 := by rw [hx14]; exact w32_in _
    exact zG_wr (r := some (.inl x14)) 7 hd0 hz (by subst hx14; subst hx13; subst hx12; rfl) ⟨⟨hCM10, hWM10⟩, _, rfl, by omega⟩
theorem qm_33_76 {n d : Nat} {M : zM} (hd : 5 ≤ d) (hC : qCI M) (a1 : Int) (ha1 : (-2147483648) ≤ a1 ∧ a1 ≤ 2147483647) (a2 : Int) (ha2 : (-2147483648) ≤ a2 ∧ a2 ≤ 2147483647) : qOkM n d 33 [.inr (.inr (some 76)), .inl a1, .inl a2] 3 qCI [72, 73, 74, 75] M (qRi (fun x => (-2147483648) ≤ x ∧ x ≤ 2147483647)) := by
  have hz := zp_33
  have hd0 : 0 < d := by omega
  have hW : qFr [72, 73, 74, 75] M M := qFr.rfl
  show zG n (0, 0) d 33 (0, [.inr (.inr (some 76)), .inl a1, .inl a2], []) M _
  refine zG_wn (pc := 8) (L := [.inr (.inr (some 76)), .inl a1, .inl a2]) (st := [.inl a1, .inr (.inr (some 76))]) 5 hd0 hz zp_32 (qm_32_76 (by first | exact zdk hd rfl | omega) hC  a1 (by first | with_reducible exact ha1 | omega) a2 (by first | with_reducible exact ha2 | omega)) (by rfl) (fun x2 M1 hr hx2 => ?_)
  obtain ⟨hCM1, hFM1⟩ := hr
  have hWM1 : qFr [72, 73, 74, 75] M M1 := hW.tr hFM1 (by decide)
  refine zG_wv (pc := 11) (L := [.inr (.inr (some 76)), .inl a1, .inl a2]) (st := []) 0 hd0 hz zp_39 (qm_39_76 (by first | exact zdk hd rfl | omega) hCM1  a1 (by first | with_reducible exact ha1 | omega) x2 (by omega)) (by rfl) (fun M3 hr => ?_)
  obtain ⟨hCM3, hFM3⟩ := hr
  have hWM3 : qFr [72, 73, 74, 75] M M3 := hWM1.tr hFM3 (by decide)
  refine zG_wp (pc := 18) (L := [.inr (.inr (some 76)), .inl a1, .inl a2]) (st := [.inr (.inr (some 76))]) 4 hd0 hz zp_29 (qm_29_76 (by first | exact zdk hd rfl | omega) hCM3  a1 (by first | with_reducible exact ha1 | omega) a2 (by first | with_reducible exact ha2 | omega)) (by rfl) (fun x6 hx6 => ?_)
  refine zG_wn (pc := 22) (L := [.inr (.inr (some 76)), .inl a1, .inl a2]) (st := []) 1 hd0 hz zp_34 (qm_34_76 (by first | exact zdk hd rfl | omega) hCM3  x6 (by omega) 0 (by first | decide | omega)) (by rfl) (fun x8 M7 hr hx8 => ?_)
  obtain ⟨hCM7, hFM7⟩ := hr
  have hWM7 : qFr [72, 73, 74, 75] M M7 := hWM3.tr hFM7 (by decide)
  exact zG_wr (r := some (.inl x8)) 0 hd0 hz (by rfl) ⟨⟨hCM7, hWM7⟩, _, rfl, by omega⟩
theorem qm_143_8 {n d : Nat} {M : zM} (hd : 7 ≤ d) (hC : qCI M) (a1 : Int) (ha1 : (-2147483648) ≤ a1 ∧ a1 ≤ 2147483647) (a2 : Int) (ha2 : (-2147483648) ≤ a2 ∧ a2 ≤ 2147483647) (a3 : Int) (ha3 : (-2147483648) ≤ a3 ∧ a3 ≤ 2147483647) : qOkM n d 143 [.inr (.inr (some 8)), .inl a1, .inl a2, .inl a3] 4 qCI [62, 64, 65, 66, 72, 73, 74, 75] M (qRi (fun x => (-2147483648) ≤ x ∧ x ≤ 2147483647)) := by
  have hz := zp_143
  have hd0 : 0 < d := by omega
  have hW : qFr [62, 64, 65, 66, 72, 73, 74, 75] M M := qFr.rfl
  show zG n (0, 0) d 143 (0, [.inr (.inr (some 8)), .inl a1, .inl a2, .inl a3], []) M _
  refine zG_wp (pc := 5) (L := [.inr (.inr (some 8)), .inl a1, .inl a2, .inl a3]) (st := []) 2 hd0 hz zp_174 (qm_174_8 (by first | exact zdk hd rfl | omega) hC  a1 (by first | with_reducible exact ha1 | omega)) (by rfl) (fun x2 hx2 => ?_)
  have j22 : zG n (0, 0) d 143 (22, [.inr (.inr (some 8)), .inl a1, .inl a2, .inl a3], []) M (fun v M' => qWf qCI [62, 64, 65, 66, 72, 73, 74, 75] M M' ∧ qRi (fun x => (-2147483648) ≤ x ∧ x ≤ 2147483647) v) := by
    exact zG_wr (r := some (.inl (-2))) 1 hd0 hz (by rfl) ⟨⟨hC, hW⟩, _, rfl, by omega⟩
  refine zG_wf_eq (pc := 5) (n' := 8) (t := 22) (L := [.inr (.inr (some 8)), .inl a1, .inl a2, .inl a3]) (st := []) (x := x2) 0 hd0 hz (by rfl) (fun hb3 => ?_) (fun hb3 => ?_)
  · exact j22
  · refine zG_wp (pc := 12) (L := [.inr (.inr (some 8)), .inl a1, .inl a2, .inl a3]) (st := []) 1 hd0 hz zp_170 (qm_170 (by first | exact zdk hd rfl | omega) hC  a2 (by first | with_reducible exact ha2 | omega)) (by rfl) (fun x5 hx5 => ?_)
    refine zG_wf_eq (pc := 12) (n' := 15) (t := 22) (L := [.inr (.inr (some 8)), .inl a1, .inl a2, .inl a3]) (st := []) (x := x5) 0 hd0 hz (by rfl) (fun hb6 => ?_) (fun hb6 => ?_)
    · exact j22
    · refine zG_wp (pc := 19) (L := [.inr (.inr (some 8)), .inl a1, .inl a2, .inl a3]) (st := []) 1 hd0 hz zp_170 (qm_170 (by first | exact zdk hd rfl | omega) hC  a3 (by first | with_reducible exact ha3 | omega)) (by rfl) (fun x8 hx8 => ?_)
      refine zG_wf_ne (pc := 19) (n' := 22) (t := 25) (L := [.inr (.inr (some 8)), .inl a1, .inl a2, .inl a3]) (st := []) (x := x8) 0 hd0 hz (by rfl) (fun hb9 => ?_) (fun hb9 => ?_)
      · refine zG_wv (pc := 34) (L := [.inr (.inr (some 8)), .inl a1, .inl a2, .inl a3]) (st := []) 4 hd0 hz zp_41 (qm_41_60 (by first | exact zdk hd rfl | omega) hC  a3 (by first | with_reducible exact ha3 | omega) (-1) (by first | decide | omega)) (by rfl) (fun M10 hr => ?_)
        obtain ⟨hCM10, hFM10⟩ := hr
        have hWM10 : qFr [62, 64, 65, 66, 72, 73, 74, 75] M M10 := hW.tr hFM10 (by decide)
        refine zG_wn (pc := 43) (L := [.inr (.inr (some 8)), .inl a1, .inl a2, .inl a3]) (st := []) 4 hd0 hz zp_33 (qm_33_76 (by first | exact zdk hd rfl | omega) hCM10  a1 (by first | with_reducible exact ha1 | omega) a2 (by first | with_reducible exact ha2 | omega)) (by rfl) (fun x13 M12 hr hx13 => ?_)
        obtain ⟨hCM12, hFM12⟩ := hr
        have hWM12 : qFr [62, 64, 65, 66, 72, 73, 74, 75] M M12 := hWM10.tr hFM12 (by decide)
        exact zG_wr (r := some (.inl x13)) 0 hd0 hz (by rfl) ⟨⟨hCM12, hWM12⟩, _, rfl, by omega⟩
      · exact j22
theorem qm_144_8 {n d : Nat} {M : zM} (hd : 7 ≤ d) (hC : qCI M) (a1 : Int) (ha1 : (-2147483648) ≤ a1 ∧ a1 ≤ 2147483647) (a2 : Int) (ha2 : (-2147483648) ≤ a2 ∧ a2 ≤ 2147483647) (a3 : Int) (ha3 : (-2147483648) ≤ a3 ∧ a3 ≤ 2147483647) (a4 : Int) (ha4 : (-2147483648) ≤ a4 ∧ a4 ≤ 2147483647) : qOkM n d 144 [.inr (.inr (some 8)), .inl a1, .inl a2, .inl a3, .inl a4] 5 qCI [62, 64, 65, 66, 72, 73, 74, 75] M qRl := by
  have hz := zp_144
  have hd0 : 0 < d := by omega
  have hW : qFr [62, 64, 65, 66, 72, 73, 74, 75] M M := qFr.rfl
  show zG n (0, 0) d 144 (0, [.inr (.inr (some 8)), .inl a1, .inl a2, .inl a3, .inl a4], []) M _
  refine zG_wp (pc := 5) (L := [.inr (.inr (some 8)), .inl a1, .inl a2, .inl a3, .inl a4]) (st := []) 2 hd0 hz zp_174 (qm_174_8 (by first | exact zdk hd rfl | omega) hC  a1 (by first | with_reducible exact ha1 | omega)) (by rfl) (fun x2 hx2 => ?_)
  have j33 : zG n (0, 0) d 144 (33, [.inr (.inr (some 8)), .inl a1, .inl a2, .inl a3, .inl a4], []) M (fun v M' => qWf qCI [62, 64, 65, 66, 72, 73, 74, 75] M M' ∧ qRl v) := by
    exact zG_wr (r := some (.inr (.inl ((-2))))) 1 hd0 hz (by rfl) ⟨⟨hC, hW⟩, _, rfl⟩
  refine zG_wf_eq (pc := 5) (n' := 8) (t := 33) (L := [.inr (.inr (some 8)), .inl a1, .inl a2, .inl a3, .inl a4]) (st := []) (x := x2) 0 hd0 hz (by rfl) (fun hb3 => ?_) (fun hb3 => ?_)
  · exact j33
  · refine zG_wp (pc := 12) (L := [.inr (.inr (some 8)), .inl a1, .inl a2, .inl a3, .inl a4]) (st := []) 1 hd0 hz zp_170 (qm_170 (by first | exact zdk hd rfl | omega) hC  a2 (by first | with_reducible exact ha2 | omega)) (by rfl) (fun x5 hx5 => ?_)
    refine zG_wf_eq (pc := 12) (n' := 15) (t := 33) (L := [.inr (.inr (some 8)), .inl a1, .inl a2, .inl a3, .inl a4]) (st := []) (x := x5) 0 hd0 hz (by rfl) (fun hb6 => ?_) (fun hb6 => ?_)
    · exact j33
    · refine zG_wp (pc := 19) (L := [.inr (.inr (some 8)), .inl a1, .inl a2, .inl a3, .inl a4]) (st := []) 1 hd0 hz zp_170 (qm_170 (by first | exact zdk hd rfl | omega) hC  a3 (by first | with_reducible exact ha3 | omega)) (by rfl) (fun x8 hx8 => ?_)
      refine zG_wf_eq (pc := 19) (n' := 22) (t := 33) (L := [.inr (.inr (some 8)), .inl a1, .inl a2, .inl a3, .inl a4]) (st := []) (x := x8) 0 hd0 hz (by rfl) (fun hb9 => ?_) (fun hb9 => ?_)
      · exact j33
      · refine zG_wp (pc := 30) (L := [.inr (.inr (some 8)), .inl a1, .inl a2, .inl a3, .inl a4]) (st := []) 3 hd0 hz zp_169 (qm_169 (by first | exact zdk hd rfl | omega) hC  a4 (by first | with_reducible exact ha4 | omega) 0 (by first | decide | omega) 15 (by first | decide | omega)) (by rfl) (fun x11 hx11 => ?_)
        refine zG_wf_ne (pc := 30) (n' := 33) (t := 37) (L := [.inr (.inr (some 8)), .inl a1, .inl a2, .inl a3, .inl a4]) (st := []) (x := x11) 0 hd0 hz (by rfl) (fun hb12 => ?_) (fun hb12 => ?_)
        · refine zG_wv (pc := 46) (L := [.inr (.inr (some 8)), .inl a1, .inl a2, .inl a3, .inl a4]) (st := []) 4 hd0 hz zp_41 (qm_41_60 (by first | exact zdk hd rfl | omega) hC  a3 (by first | with_reducible exact ha3 | omega) (-1) (by first | decide | omega)) (by rfl) (fun M13 hr => ?_)
          obtain ⟨hCM13, hFM13⟩ := hr
          have hWM13 : qFr [62, 64, 65, 66, 72, 73, 74, 75] M M13 := hW.tr hFM13 (by decide)
          refine zG_wn (pc := 60) (L := [.inr (.inr (some 8)), .inl a1, .inl a2, .inl a3, .inl a4]) (st := [.inl a1, .inr (.inr (some 76))]) 7 hd0 hz zp_32 (qm_32_76 (by first | exact zdk hd rfl | omega) hCM13  a1 (by first | with_reducible exact ha1 | omega) a2 (by first | with_reducible exact ha2 | omega)) (by rfl) (fun x16 M15 hr hx16 => ?_)
          obtain ⟨hCM15, hFM15⟩ := hr
          have hWM15 : qFr [62, 64, 65, 66, 72, 73, 74, 75] M M15 := hWM13.tr hFM15 (by decide)
          refine zG_wv (pc := 63) (L := [.inr (.inr (some 8)), .inl a1, .inl a2, .inl a3, .inl a4]) (st := []) 0 hd0 hz zp_39 (qm_39_76 (by first | exact zdk hd rfl | omega) hCM15  a1 (by first | with_reducible exact ha1 | omega) x16 (by omega)) (by rfl) (fun M17 hr => ?_)
          obtain ⟨hCM17, hFM17⟩ := hr
          have hWM17 : qFr [62, 64, 65, 66, 72, 73, 74, 75] M M17 := hWM15.tr hFM17 (by decide)
          refine zG_wf_ne (pc := 65) (n' := 68) (t := 78) (L := [.inr (.inr (some 8)), .inl a1, .inl a2, .inl a3, .inl a4]) (st := []) (x := a4) 1 hd0 hz (by rfl) (fun hb19 => ?_) (fun hb19 => ?_)
          · refine zG_w (c' := (82, [.inr (.inr (some 8)), .inl a1, .inl a2, .inl a3, .inl a4], [.inl 15, .inl a4])) 2 hd0 hz (by rfl) ?_
            have j107 : ∀ (v20 : Int) , zG n (0, 0) d 144 (107, [.inr (.inr (some 8)), .inl a1, .inl a2, .inl a3, .inl a4], [.inr (.inl (v20))]) M17 (fun v M' => qWf qCI [62, 64, 65, 66, 72, 73, 74, 75] M M' ∧ qRl v) := by
              intro v20
              exact zG_wr (r := some (.inr (.inl (v20)))) 0 hd0 hz (by rfl) ⟨⟨hCM17, hWM17⟩, _, rfl⟩
            refine zG_wi_ne (pc := 82) (n' := 85) (t := 97) (L := [.inr (.inr (some 8)), .inl a1, .inl a2, .inl a3, .inl a4]) (st := []) (x := a4) (y := 15) 0 hd0 hz (by rfl) (fun hb21 => ?_) (fun hb21 => ?_)
            · refine zG_wl (pc := 107) (L := [.inr (.inr (some 8)), .inl a1, .inl a2, .inl a3, .inl a4]) (st := []) 4 hd0 hz zp_60 (qm_60_72 (by first | exact zdk hd rfl | omega) hCM17  a4) (by rfl) (fun x23 => ?_)
              exact j107 x23
            · refine zG_wl (pc := 94) (L := [.inr (.inr (some 8)), .inl a1, .inl a2, .inl a3, .inl a4]) (st := []) 3 hd0 hz zp_58 (qm_58_72 (by first | exact zdk hd rfl | omega) hCM17  12 (by first | decide | omega)) (by rfl) (fun x25 => ?_)
              refine zG_w (c' := (107, [.inr (.inr (some 8)), .inl a1, .inl a2, .inl a3, .inl a4], [.inr (.inl (x25))])) 1 hd0 hz (by rfl) ?_
              exact j107 x25
          · refine zG_wl (pc := 77) (L := [.inr (.inr (some 8)), .inl a1, .inl a2, .inl a3, .inl a4]) (st := []) 3 hd0 hz zp_58 (qm_58_72 (by first | exact zdk hd rfl | omega) hCM17  13 (by first | decide | omega)) (by rfl) (fun x27 => ?_)
            exact zG_wr (r := some (.inr (.inl (x27)))) 0 hd0 hz (by rfl) ⟨⟨hCM17, hWM17⟩, _, rfl⟩
        · exact j33
theorem qm_61_72 {n d : Nat} {M : zM} (hd : 1 ≤ d) (hC : qCI M)  : qOkP n d 61 [.inr (.inr (some 72))] 1 M (qRi (fun x => 0 ≤ x ∧ x ≤ 1)) := by
  have hz := zp_61
  have hd0 : 0 < d := by omega
  show zG n (0, 0) d 61 (0, [.inr (.inr (some 72))], []) M _
  have r1 := hC.um
  refine zG_w (c' := (4, [.inr (.inr (some 72))], [.inl (M 72 5)])) 2 hd0 hz (by rfl) ?_
  exact zG_zret hd0 hz rfl (by omega) ⟨rfl, _, rfl, by omega⟩
theorem qm_35_76 {n d : Nat} {M : zM} (hd : 6 ≤ d) (hC : qCI M) (a1 : Int) (ha1 : (-2147483648) ≤ a1 ∧ a1 ≤ 2147483647) (a2 : Int) (ha2 : (-2147483648) ≤ a2 ∧ a2 ≤ 2147483647) : qOkM n d 35 [.inr (.inr (some 76)), .inl a1, .inl a2] 6 qCI [72, 73, 74, 75] M (qRi (fun x => (-1) ≤ x ∧ x ≤ 2000)) := by
  have hz := zp_35
  have hd0 : 0 < d := by omega
  have hW : qFr [72, 73, 74, 75] M M := qFr.rfl
  show zG n (0, 0) d 35 (0, [.inr (.inr (some 76)), .inl a1, .inl a2, zN, zN, zN], []) M _
  refine zG_wn (pc := 6) (L := [.inr (.inr (some 76)), .inl a1, .inl a2, zN, zN, zN]) (st := []) 3 hd0 hz zp_33 (qm_33_76 (by first | exact zdk hd rfl | omega) hC  a1 (by first | with_reducible exact ha1 | omega) a2 (by first | with_reducible exact ha2 | omega)) (by rfl) (fun x2 M1 hr hx2 => ?_)
  obtain ⟨hCM1, hFM1⟩ := hr
  have hWM1 : qFr [72, 73, 74, 75] M M1 := hW.tr hFM1 (by decide)
  refine zG_wp (pc := 13) (L := [.inr (.inr (some 76)), .inl a1, .inl a2, .inl x2, zN, zN]) (st := []) 4 hd0 hz zp_29 (qm_29_76 (by first | exact zdk hd rfl | omega) hCM1  a1 (by first | with_reducible exact ha1 | omega) a2 (by first | with_reducible exact ha2 | omega)) (by rfl) (fun x4 hx4 => ?_)
  refine zG_wp (pc := 22) (L := [.inr (.inr (some 76)), .inl a1, .inl a2, .inl x2, .inl x4, zN]) (st := []) 3 hd0 hz zp_61 (qm_61_72 (by first | exact zdk hd rfl | omega) hCM1  ) (by rfl) (fun x6 hx6 => ?_)
  refine zG_wf_ne (pc := 22) (n' := 25) (t := 27) (L := [.inr (.inr (some 76)), .inl a1, .inl a2, .inl x2, .inl x4, zN]) (st := []) (x := x6) 0 hd0 hz (by rfl) (fun hb7 => ?_) (fun hb7 => ?_)
  · refine zG_w (c' := (30, [.inr (.inr (some 76)), .inl a1, .inl a2, .inl x2, .inl x4, .inl 1], [])) 2 hd0 hz (by rfl) ?_
    have j30 : ∀ (N : Nat) (v8 : Int) (M9 : zM) , (2001 - v8 : Int).toNat < N → 1 ≤ v8 ∧ v8 ≤ 2001 → qCI M9 → qFr [72, 73, 74, 75] M M9 → zG n (0, 0) d 35 (30, [.inr (.inr (some 76)), .inl a1, .inl a2, .inl x2, .inl x4, .inl v8], []) M9 (fun v M' => qWf qCI [72, 73, 74, 75] M M' ∧ qRi (fun x => (-1) ≤ x ∧ x ≤ 2000) v) := by
      intro N
      induction N with
      | zero => intro v8 M9 hN hv8 hCM9 hWM9; exact absurd hN (Nat.not_lt_zero _)
      | succ N ih30 =>
        intro v8 M9 hN hv8 hCM9 hWM9
        replace hN : 2001 - v8 < (N : Int) + 1 := by omega
        refine zG_wi_gt (pc := 35) (n' := 38) (t := 59) (L := [.inr (.inr (some 76)), .inl a1, .inl a2, .inl x2, .inl x4, .inl v8]) (st := []) (x := v8) (y := 2000) 2 hd0 hz (by rfl) (fun hb10 => ?_) (fun hb10 => ?_)
        · exact zG_wr (r := some (.inl (-1))) 1 hd0 hz (by rfl) ⟨⟨hCM9, hWM9⟩, _, rfl, by omega⟩
        · refine zG_wn (pc := 46) (L := [.inr (.inr (some 76)), .inl a1, .inl a2, .inl x2, .inl x4, .inl v8]) (st := []) 3 hd0 hz zp_34 (qm_34_76 (by first | exact zdk hd rfl | omega) hCM9  x4 (by omega) v8 (by first | with_reducible exact hv8 | omega)) (by rfl) (fun x12 M11 hr hx12 => ?_)
          obtain ⟨hCM11, hFM11⟩ := hr
          have hWM11 : qFr [72, 73, 74, 75] M M11 := hWM9.tr hFM11 (by decide)
          refine zG_wi_eq (pc := 47) (n' := 50) (t := 53) (L := [.inr (.inr (some 76)), .inl a1, .inl a2, .inl x2, .inl x4, .inl v8]) (st := []) (x := x12) (y := x2) 1 hd0 hz (by rfl) (fun hb13 => ?_) (fun hb13 => ?_)
          · obtain ⟨x14, hx14⟩ : ∃ x : Int, x = w32 (v8 + 1) := ⟨_, rfl⟩
            have hx14e : x14 = v8 + 1 := by rw [hx14]; exact w32_id (by omega)
            refine zG_w (c' := (30, [.inr (.inr (some 76)), .inl a1, .inl a2, .inl x2, .inl x4, .inl x14], [])) 2 hd0 hz (by subst hx14; rfl) ?_
            exact ih30 x14 M11 (by omega) (by omega) hCM11 hWM11
          · exact zG_wr (r := some (.inl v8)) 1 hd0 hz (by rfl) ⟨⟨hCM11, hWM11⟩, _, rfl, by omega⟩
    exact j30 ((2001 - 1 : Int).toNat + 1) 1 M1 (by omega) (by omega) hCM1 hWM1
  · exact zG_wr (r := some (.inl (-1))) 1 hd0 hz (by rfl) ⟨⟨hCM1, hWM1⟩, _, rfl, by omega⟩
theorem qm_145_8 {n d : Nat} {M : zM} (hd : 7 ≤ d) (hC : qCI M) (a1 : Int) (ha1 : (-2147483648) ≤ a1 ∧ a1 ≤ 2147483647) (a2 : Int) (ha2 : (-2147483648) ≤ a2 ∧ a2 ≤ 2147483647) (a3 : Int) (ha3 : (-2147483648) ≤ a3 ∧ a3 ≤ 2147483647) : qOkM n d 145 [.inr (.inr (some 8)), .inl a1, .inl a2, .inl a3] 4 qCI [62, 64, 65, 66, 72, 73, 74, 75] M (qRi (fun x => (-2) ≤ x ∧ x ≤ 2000)) := by
  have hz := zp_145
  have hd0 : 0 < d := by omega
  have hW : qFr [62, 64, 65, 66, 72, 73, 74, 75] M M := qFr.rfl
  show zG n (0, 0) d 145 (0, [.inr (.inr (some 8)), .inl a1, .inl a2, .inl a3], []) M _
  refine zG_wp (pc := 5) (L := [.inr (.inr (some 8)), .inl a1, .inl a2, .inl a3]) (st := []) 2 hd0 hz zp_174 (qm_174_8 (by first | exact zdk hd rfl | omega) hC  a1 (by first | with_reducible exact ha1 | omega)) (by rfl) (fun x2 hx2 => ?_)
  have j22 : zG n (0, 0) d 145 (22, [.inr (.inr (some 8)), .inl a1, .inl a2, .inl a3], []) M (fun v M' => qWf qCI [62, 64, 65, 66, 72, 73, 74, 75] M M' ∧ qRi (fun x => (-2) ≤ x ∧ x ≤ 2000) v) := by
    exact zG_wr (r := some (.inl (-2))) 1 hd0 hz (by rfl) ⟨⟨hC, hW⟩, _, rfl, by omega⟩
  refine zG_wf_eq (pc := 5) (n' := 8) (t := 22) (L := [.inr (.inr (some 8)), .inl a1, .inl a2, .inl a3]) (st := []) (x := x2) 0 hd0 hz (by rfl) (fun hb3 => ?_) (fun hb3 => ?_)
  · exact j22
  · refine zG_wp (pc := 12) (L := [.inr (.inr (some 8)), .inl a1, .inl a2, .inl a3]) (st := []) 1 hd0 hz zp_170 (qm_170 (by first | exact zdk hd rfl | omega) hC  a2 (by first | with_reducible exact ha2 | omega)) (by rfl) (fun x5 hx5 => ?_)
    refine zG_wf_eq (pc := 12) (n' := 15) (t := 22) (L := [.inr (.inr (some 8)), .inl a1, .inl a2, .inl a3]) (st := []) (x := x5) 0 hd0 hz (by rfl) (fun hb6 => ?_) (fun hb6 => ?_)
    · exact j22
    · refine zG_wp (pc := 19) (L := [.inr (.inr (some 8)), .inl a1, .inl a2, .inl a3]) (st := []) 1 hd0 hz zp_170 (qm_170 (by first | exact zdk hd rfl | omega) hC  a3 (by first | with_reducible exact ha3 | omega)) (by rfl) (fun x8 hx8 => ?_)
      refine zG_wf_ne (pc := 19) (n' := 22) (t := 25) (L := [.inr (.inr (some 8)), .inl a1, .inl a2, .inl a3]) (st := []) (x := x8) 0 hd0 hz (by rfl) (fun hb9 => ?_) (fun hb9 => ?_)
      · refine zG_wv (pc := 34) (L := [.inr (.inr (some 8)), .inl a1, .inl a2, .inl a3]) (st := []) 4 hd0 hz zp_41 (qm_41_60 (by first | exact zdk hd rfl | omega) hC  a3 (by first | with_reducible exact ha3 | omega) (-1) (by first | decide | omega)) (by rfl) (fun M10 hr => ?_)
        obtain ⟨hCM10, hFM10⟩ := hr
        have hWM10 : qFr [62, 64, 65, 66, 72, 73, 74, 75] M M10 := hW.tr hFM10 (by decide)
        refine zG_wn (pc := 43) (L := [.inr (.inr (some 8)), .inl a1, .inl a2, .inl a3]) (st := []) 4 hd0 hz zp_35 (qm_35_76 (by first | exact zdk hd rfl | omega) hCM10  a1 (by first | with_reducible exact ha1 | omega) a2 (by first | with_reducible exact ha2 | omega)) (by rfl) (fun x13 M12 hr hx13 => ?_)
        obtain ⟨hCM12, hFM12⟩ := hr
        have hWM12 : qFr [62, 64, 65, 66, 72, 73, 74, 75] M M12 := hWM10.tr hFM12 (by decide)
        exact zG_wr (r := some (.inl x13)) 0 hd0 hz (by rfl) ⟨⟨hCM12, hWM12⟩, _, rfl, by omega⟩
      · exact j22
theorem qm_36_76 {n d : Nat} {M : zM} (hd : 6 ≤ d) (hC : qCI M) (a1 : Int) (ha1 : (-2147483648) ≤ a1 ∧ a1 ≤ 2147483647) (a2 : Int) (ha2 : (-2147483648) ≤ a2 ∧ a2 ≤ 2147483647) : qOkM n d 36 [.inr (.inr (some 76)), .inl a1, .inl a2] 7 qCI [72, 73, 74, 75] M (qRi (fun x => (-2147483648) ≤ x ∧ x ≤ 2147483647)) := by
  have hz := zp_36
  have hd0 : 0 < d := by omega
  have hW : qFr [72, 73, 74, 75] M M := qFr.rfl
  show zG n (0, 0) d 36 (0, [.inr (.inr (some 76)), .inl a1, .inl a2, zN, zN, zN, zN], []) M _
  refine zG_w (c' := (5, [.inr (.inr (some 76)), .inl a1, .inl a2, .inl (-1), .inl 0, zN, zN], [])) 4 hd0 hz (by rfl) ?_
  have j5 : ∀ (N : Nat) (v1 v2 : Int) , (250 - v2 : Int).toNat < N → (-1) ≤ v1 ∧ v1 ≤ 2147483647 → 0 ≤ v2 ∧ v2 ≤ 250 → zG n (0, 0) d 36 (5, [.inr (.inr (some 76)), .inl a1, .inl a2, .inl v1, .inl v2, zN, zN], []) M (fun v M' => qWf qCI [72, 73, 74, 75] M M' ∧ qRi (fun x => (-2147483648) ≤ x ∧ x ≤ 2147483647) v) := by
    intro N
    induction N with
    | zero => intro v1 v2 hN hv1 hv2; exact absurd hN (Nat.not_lt_zero _)
    | succ N ih5 =>
      intro v1 v2 hN hv1 hv2
      replace hN : 250 - v2 < (N : Int) + 1 := by omega
      refine zG_wp (pc := 17) (L := [.inr (.inr (some 76)), .inl a1, .inl a2, .inl v1, .inl v2, zN, zN]) (st := [.inl v2]) 4 hd0 hz zp_101 (qw_size (by first | exact zdk hd rfl | omega) hC (⟨by decide, rfl, rfl⟩ : qT n 18 250 11) ) (by rfl) (fun x4 hx4 => ?_)
      refine zG_wi_ge (pc := 17) (n' := 20) (t := 109) (L := [.inr (.inr (some 76)), .inl a1, .inl a2, .inl v1, .inl v2, zN, zN]) (st := []) (x := v2) (y := x4) 0 hd0 hz (by rfl) (fun hb5 => ?_) (fun hb5 => ?_)
      · refine zG_w (c' := (111, [.inr (.inr (some 76)), .inl a1, .inl a2, .inl v1, .inl v2, zN, zN], [.inl (-1), .inl v1])) 2 hd0 hz (by rfl) ?_
        have j124 : ∀ (v6 : Int) (M7 : zM) , (-2147483648) ≤ v6 ∧ v6 ≤ 2147483647 → qCI M7 → qFr [72, 73, 74, 75] M M7 → zG n (0, 0) d 36 (124, [.inr (.inr (some 76)), .inl a1, .inl a2, .inl v1, .inl v2, zN, zN], [.inl v6]) M7 (fun v M' => qWf qCI [72, 73, 74, 75] M M' ∧ qRi (fun x => (-2147483648) ≤ x ∧ x ≤ 2147483647) v) := by
          intro v6 M7 hv6 hCM7 hWM7
          exact zG_wr (r := some (.inl v6)) 0 hd0 hz (by rfl) ⟨⟨hCM7, hWM7⟩, _, rfl, by omega⟩
        refine zG_wi_ne (pc := 111) (n' := 114) (t := 118) (L := [.inr (.inr (some 76)), .inl a1, .inl a2, .inl v1, .inl v2, zN, zN]) (st := []) (x := v1) (y := (-1)) 0 hd0 hz (by rfl) (fun hb8 => ?_) (fun hb8 => ?_)
        · refine zG_wn (pc := 124) (L := [.inr (.inr (some 76)), .inl a1, .inl a2, .inl v1, .inl v2, zN, zN]) (st := []) 3 hd0 hz zp_33 (qm_33_76 (by first | exact zdk hd rfl | omega) hC  a1 (by first | with_reducible exact ha1 | omega) v1 (by first | with_reducible exact hv1 | omega)) (by rfl) (fun x10 M9 hr hx10 => ?_)
          obtain ⟨hCM9, hFM9⟩ := hr
          have hWM9 : qFr [72, 73, 74, 75] M M9 := hW.tr hFM9 (by decide)
          exact j124 x10 M9 (by omega) hCM9 hWM9
        · refine zG_w (c' := (124, [.inr (.inr (some 76)), .inl a1, .inl a2, .inl v1, .inl v2, zN, zN], [.inl (-1)])) 2 hd0 hz (by rfl) ?_
          exact j124 (-1) M (by omega) hC hW
      · refine zG_wp (pc := 33) (L := [.inr (.inr (some 76)), .inl a1, .inl a2, .inl v1, .inl v2, zN, zN]) (st := []) 5 hd0 hz zp_106 (qw_get (by first | exact zdk hd rfl | omega) hC (⟨by decide, rfl, rfl⟩ : qT n 18 250 11) v2 (by first | with_reducible exact hv2 | omega) 1 (by first | decide | omega)) (by rfl) (fun x12 hx12 => ?_)
        refine zG_wp (pc := 46) (L := [.inr (.inr (some 76)), .inl a1, .inl a2, .inl v1, .inl v2, .inl x12, zN]) (st := []) 5 hd0 hz zp_19 (qm_19_9 (by first | exact zdk hd rfl | omega) hC  6 (by first | decide | omega) v2 (by first | with_reducible exact hv2 | omega)) (by rfl) (fun x14 hx14 => ?_)
        have j71 : ∀ (v15 : Int) , 0 ≤ v15 ∧ v15 ≤ 1 → zG n (0, 0) d 36 (71, [.inr (.inr (some 76)), .inl a1, .inl a2, .inl v1, .inl v2, .inl x12, zN], [.inl v15]) M (fun v M' => qWf qCI [72, 73, 74, 75] M M' ∧ qRi (fun x => (-2147483648) ≤ x ∧ x ≤ 2147483647) v) := by
          intro v15 hv15
          refine zG_w (c' := (75, [.inr (.inr (some 76)), .inl a1, .inl a2, .inl v1, .inl v2, .inl x12, .inl v15], [.inl v15])) 2 hd0 hz (by rfl) ?_
          have j103 : ∀ (v16 : Int) , (-1) ≤ v16 ∧ v16 ≤ 2147483647 → zG n (0, 0) d 36 (103, [.inr (.inr (some 76)), .inl a1, .inl a2, .inl v16, .inl v2, .inl x12, .inl v15], []) M (fun v M' => qWf qCI [72, 73, 74, 75] M M' ∧ qRi (fun x => (-2147483648) ≤ x ∧ x ≤ 2147483647) v) := by
            intro v16 hv16
            obtain ⟨x17, hx17⟩ : ∃ x : Int, x = w32 (v2 + 1) := ⟨_, rfl⟩
            have hx17e : x17 = v2 + 1 := by rw [hx17]; exact w32_id (by omega)
            refine zG_w (c' := (5, [.inr (.inr (some 76)), .inl a1, .inl a2, .inl v16, .inl x17, .inl x12, .inl v15], [])) 2 hd0 hz (by subst hx17; rfl) ?_
            exact zG_weak (ih5 v16 x17 (by omega) (by omega) (by omega)) ⟨.inr rfl, .inr rfl, .inr rfl, .inr rfl, .inr rfl, .inl rfl, .inl rfl, trivial⟩
          refine zG_wf_eq (pc := 75) (n' := 78) (t := 103) (L := [.inr (.inr (some 76)), .inl a1, .inl a2, .inl v1, .inl v2, .inl x12, .inl v15]) (st := []) (x := v15) 0 hd0 hz (by rfl) (fun hb18 => ?_) (fun hb18 => ?_)
          · exact j103 v1 (by first | with_reducible exact hv1 | omega)
          · refine zG_wp (pc := 87) (L := [.inr (.inr (some 76)), .inl a1, .inl a2, .inl v1, .inl v2, .inl x12, .inl v15]) (st := []) 3 hd0 hz zp_42 (qm_42_60 (by first | exact zdk hd rfl | omega) hC  v2 (by first | with_reducible exact hv2 | omega)) (by rfl) (fun x20 hx20 => ?_)
            refine zG_wf_eq (pc := 87) (n' := 90) (t := 103) (L := [.inr (.inr (some 76)), .inl a1, .inl a2, .inl v1, .inl v2, .inl x12, .inl v15]) (st := []) (x := x20) 0 hd0 hz (by rfl) (fun hb21 => ?_) (fun hb21 => ?_)
            · exact j103 v1 (by first | with_reducible exact hv1 | omega)
            · refine zG_wi_gt (pc := 93) (n' := 96) (t := 103) (L := [.inr (.inr (some 76)), .inl a1, .inl a2, .inl v1, .inl v2, .inl x12, .inl v15]) (st := []) (x := x12) (y := a2) 2 hd0 hz (by rfl) (fun hb22 => ?_) (fun hb22 => ?_)
              · exact j103 v1 (by first | with_reducible exact hv1 | omega)
              · obtain ⟨x23, hx23⟩ : ∃ x : Int, x = (if v1 < x12 then x12 else v1) := ⟨_, rfl⟩
                have hx23r := qite hx23
                refine zG_w (c' := (103, [.inr (.inr (some 76)), .inl a1, .inl a2, .inl x23, .inl v2, .inl x12, .inl v15], [])) 4 hd0 hz (by subst hx23; rfl) ?_
                exact j103 x23 (by omega)
        have j70 : zG n (0, 0) d 36 (70, [.inr (.inr (some 76)), .inl a1, .inl a2, .inl v1, .inl v2, .inl x12, zN], []) M (fun v M' => qWf qCI [72, 73, 74, 75] M M' ∧ qRi (fun x => (-2147483648) ≤ x ∧ x ≤ 2147483647) v) := by
          refine zG_w (c' := (71, [.inr (.inr (some 76)), .inl a1, .inl a2, .inl v1, .inl v2, .inl x12, zN], [.inl 0])) 1 hd0 hz (by rfl) ?_
          exact j71 0 (by first | decide | omega)
        refine zG_wf_eq (pc := 46) (n' := 49) (t := 70) (L := [.inr (.inr (some 76)), .inl a1, .inl a2, .inl v1, .inl v2, .inl x12, zN]) (st := []) (x := x14) 0 hd0 hz (by rfl) (fun hb24 => ?_) (fun hb24 => ?_)
        · exact j70
        · refine zG_wp (pc := 62) (L := [.inr (.inr (some 76)), .inl a1, .inl a2, .inl v1, .inl v2, .inl x12, zN]) (st := []) 5 hd0 hz zp_106 (qw_get (by first | exact zdk hd rfl | omega) hC (⟨by decide, rfl, rfl⟩ : qT n 18 250 11) v2 (by first | with_reducible exact hv2 | omega) 4 (by first | decide | omega)) (by rfl) (fun x26 hx26 => ?_)
          refine zG_wi_ne (pc := 63) (n' := 66) (t := 70) (L := [.inr (.inr (some 76)), .inl a1, .inl a2, .inl v1, .inl v2, .inl x12, zN]) (st := []) (x := x26) (y := a1) 1 hd0 hz (by rfl) (fun hb27 => ?_) (fun hb27 => ?_)
          · exact j70
          · refine zG_w (c' := (71, [.inr (.inr (some 76)), .inl a1, .inl a2, .inl v1, .inl v2, .inl x12, zN], [.inl 1])) 2 hd0 hz (by rfl) ?_
            exact j71 1 (by first | decide | omega)
  exact j5 ((250 - 0 : Int).toNat + 1) (-1) 0 (by first | decide | omega) (by omega) (by omega)
theorem qm_146_8 {n d : Nat} {M : zM} (hd : 7 ≤ d) (hC : qCI M) (a1 : Int) (ha1 : (-2147483648) ≤ a1 ∧ a1 ≤ 2147483647) (a2 : Int) (ha2 : (-2147483648) ≤ a2 ∧ a2 ≤ 2147483647) (a3 : Int) (ha3 : (-2147483648) ≤ a3 ∧ a3 ≤ 2147483647) : qOkM n d 146 [.inr (.inr (some 8)), .inl a1, .inl a2, .inl a3] 4 qCI [62, 64, 65, 66, 72, 73, 74, 75] M (qRi (fun x => (-2147483648) ≤ x ∧ x ≤ 2147483647)) := by
  have hz := zp_146
  have hd0 : 0 < d := by omega
  have hW : qFr [62, 64, 65, 66, 72, 73, 74, 75] M M := qFr.rfl
  show zG n (0, 0) d 146 (0, [.inr (.inr (some 8)), .inl a1, .inl a2, .inl a3], []) M _
  refine zG_wp (pc := 5) (L := [.inr (.inr (some 8)), .inl a1, .inl a2, .inl a3]) (st := []) 2 hd0 hz zp_174 (qm_174_8 (by first | exact zdk hd rfl | omega) hC  a1 (by first | with_reducible exact ha1 | omega)) (by rfl) (fun x2 hx2 => ?_)
  have j22 : zG n (0, 0) d 146 (22, [.inr (.inr (some 8)), .inl a1, .inl a2, .inl a3], []) M (fun v M' => qWf qCI [62, 64, 65, 66, 72, 73, 74, 75] M M' ∧ qRi (fun x => (-2147483648) ≤ x ∧ x ≤ 2147483647) v) := by
    exact zG_wr (r := some (.inl (-2))) 1 hd0 hz (by rfl) ⟨⟨hC, hW⟩, _, rfl, by omega⟩
  refine zG_wf_eq (pc := 5) (n' := 8) (t := 22) (L := [.inr (.inr (some 8)), .inl a1, .inl a2, .inl a3]) (st := []) (x := x2) 0 hd0 hz (by rfl) (fun hb3 => ?_) (fun hb3 => ?_)
  · exact j22
  · refine zG_wp (pc := 12) (L := [.inr (.inr (some 8)), .inl a1, .inl a2, .inl a3]) (st := []) 1 hd0 hz zp_170 (qm_170 (by first | exact zdk hd rfl | omega) hC  a2 (by first | with_reducible exact ha2 | omega)) (by rfl) (fun x5 hx5 => ?_)
    refine zG_wf_eq (pc := 12) (n' := 15) (t := 22) (L := [.inr (.inr (some 8)), .inl a1, .inl a2, .inl a3]) (st := []) (x := x5) 0 hd0 hz (by rfl) (fun hb6 => ?_) (fun hb6 => ?_)
    · exact j22
    · refine zG_wp (pc := 19) (L := [.inr (.inr (some 8)), .inl a1, .inl a2, .inl a3]) (st := []) 1 hd0 hz zp_170 (qm_170 (by first | exact zdk hd rfl | omega) hC  a3 (by first | with_reducible exact ha3 | omega)) (by rfl) (fun x8 hx8 => ?_)
      refine zG_wf_ne (pc := 19) (n' := 22) (t := 25) (L := [.inr (.inr (some 8)), .inl a1, .inl a2, .inl a3]) (st := []) (x := x8) 0 hd0 hz (by rfl) (fun hb9 => ?_) (fun hb9 => ?_)
      · refine zG_wv (pc := 34) (L := [.inr (.inr (some 8)), .inl a1, .inl a2, .inl a3]) (st := []) 4 hd0 hz zp_41 (qm_41_60 (by first | exact zdk hd rfl | omega) hC  a3 (by first | with_reducible exact ha3 | omega) (-1) (by first | decide | omega)) (by rfl) (fun M10 hr => ?_)
        obtain ⟨hCM10, hFM10⟩ := hr
        have hWM10 : qFr [62, 64, 65, 66, 72, 73, 74, 75] M M10 := hW.tr hFM10 (by decide)
        refine zG_wn (pc := 43) (L := [.inr (.inr (some 8)), .inl a1, .inl a2, .inl a3]) (st := []) 4 hd0 hz zp_36 (qm_36_76 (by first | exact zdk hd rfl | omega) hCM10  a1 (by first | with_reducible exact ha1 | omega) a2 (by first | with_reducible exact ha2 | omega)) (by rfl) (fun x13 M12 hr hx13 => ?_)
        obtain ⟨hCM12, hFM12⟩ := hr
        have hWM12 : qFr [62, 64, 65, 66, 72, 73, 74, 75] M M12 := hWM10.tr hFM12 (by decide)
        exact zG_wr (r := some (.inl x13)) 0 hd0 hz (by rfl) ⟨⟨hCM12, hWM12⟩, _, rfl, by omega⟩
      · exact j22
theorem qm_37_76 {n d : Nat} {M : zM} (hd : 7 ≤ d) (hC : qCI M) (a1 : Int) (ha1 : (-2147483648) ≤ a1 ∧ a1 ≤ 2147483647) (a2 : Int) (ha2 : (-2147483648) ≤ a2 ∧ a2 ≤ 2147483647) (a3 : Int) (ha3 : (-2147483648) ≤ a3 ∧ a3 ≤ 2147483647) : qOkM n d 37 [.inr (.inr (some 76)), .inl a1, .inl a2, .inl a3] 7 qCI [62, 64, 65, 66, 72, 73, 74, 75, 80] M (qRi (fun x => (-2147483648) ≤ x ∧ x ≤ 2147483647)) := by
  have hz := zp_37
  have hd0 : 0 < d := by omega
  have hW : qFr [62, 64, 65, 66, 72, 73, 74, 75, 80] M M := qFr.rfl
  show zG n (0, 0) d 37 (0, [.inr (.inr (some 76)), .inl a1, .inl a2, .inl a3, zN, zN, zN], []) M _
  refine zG_wv (pc := 9) (L := [.inr (.inr (some 76)), .inl a1, .inl a2, .inl a3, zN, zN, zN]) (st := []) 4 hd0 hz zp_41 (qm_41_60 (by first | exact zdk hd rfl | omega) hC  a3 (by first | with_reducible exact ha3 | omega) (-1) (by first | decide | omega)) (by rfl) (fun M1 hr => ?_)
  obtain ⟨hCM1, hFM1⟩ := hr
  have hWM1 : qFr [62, 64, 65, 66, 72, 73, 74, 75, 80] M M1 := hW.tr hFM1 (by decide)
  refine zG_w (c' := (12, [.inr (.inr (some 76)), .inl a1, .inl a2, .inl a3, .inl 0, zN, zN], [])) 2 hd0 hz (by rfl) ?_
  have j12 : ∀ (N : Nat) (v3 : Int) (M4 : zM) , (20 - v3 : Int).toNat < N → 0 ≤ v3 ∧ v3 ≤ 20 → qCI M4 → qFr [62, 64, 65, 66, 72, 73, 74, 75, 80] M M4 → zG n (0, 0) d 37 (12, [.inr (.inr (some 76)), .inl a1, .inl a2, .inl a3, .inl v3, zN, zN], []) M4 (fun v M' => qWf qCI [62, 64, 65, 66, 72, 73, 74, 75, 80] M M' ∧ qRi (fun x => (-2147483648) ≤ x ∧ x ≤ 2147483647) v) := by
    intro N
    induction N with
    | zero => intro v3 M4 hN hv3 hCM4 hWM4; exact absurd hN (Nat.not_lt_zero _)
    | succ N ih12 =>
      intro v3 M4 hN hv3 hCM4 hWM4
      replace hN : 20 - v3 < (N : Int) + 1 := by omega
      refine zG_wp (pc := 24) (L := [.inr (.inr (some 76)), .inl a1, .inl a2, .inl a3, .inl v3, zN, zN]) (st := [.inl v3]) 4 hd0 hz zp_101 (qw_size (by first | exact zdk hd rfl | omega) hCM4 (⟨by decide, rfl, rfl⟩ : qT n 12 20 3) ) (by rfl) (fun x6 hx6 => ?_)
      refine zG_wi_ge (pc := 24) (n' := 27) (t := 84) (L := [.inr (.inr (some 76)), .inl a1, .inl a2, .inl a3, .inl v3, zN, zN]) (st := []) (x := v3) (y := x6) 0 hd0 hz (by rfl) (fun hb7 => ?_) (fun hb7 => ?_)
      · refine zG_wv (pc := 93) (L := [.inr (.inr (some 76)), .inl a1, .inl a2, .inl a3, .inl v3, zN, zN]) (st := []) 4 hd0 hz zp_41 (qm_41_60 (by first | exact zdk hd rfl | omega) hCM4  a3 (by first | with_reducible exact ha3 | omega) a1 (by first | with_reducible exact ha1 | omega)) (by rfl) (fun M8 hr => ?_)
        obtain ⟨hCM8, hFM8⟩ := hr
        have hWM8 : qFr [62, 64, 65, 66, 72, 73, 74, 75, 80] M M8 := hWM4.tr hFM8 (by decide)
        refine zG_w (c' := (99, [.inr (.inr (some 76)), .inl a1, .inl a2, .inl a3, .inl 0, .inl 0, zN], [])) 4 hd0 hz (by rfl) ?_
        have j99 : ∀ (N : Nat) (v10 v11 : Int) (M12 : zM) , (20 - v11 : Int).toNat < N → (-2147483648) ≤ v10 ∧ v10 ≤ 2147483647 → 0 ≤ v11 ∧ v11 ≤ 20 → qCI M12 → qFr [62, 64, 65, 66, 72, 73, 74, 75, 80] M M12 → zG n (0, 0) d 37 (99, [.inr (.inr (some 76)), .inl a1, .inl a2, .inl a3, .inl v10, .inl v11, zN], []) M12 (fun v M' => qWf qCI [62, 64, 65, 66, 72, 73, 74, 75, 80] M M' ∧ qRi (fun x => (-2147483648) ≤ x ∧ x ≤ 2147483647) v) := by
          intro N
          induction N with
          | zero => intro v10 v11 M12 hN hv10 hv11 hCM12 hWM12; exact absurd hN (Nat.not_lt_zero _)
          | succ N ih99 =>
            intro v10 v11 M12 hN hv10 hv11 hCM12 hWM12
            replace hN : 20 - v11 < (N : Int) + 1 := by omega
            refine zG_wp (pc := 111) (L := [.inr (.inr (some 76)), .inl a1, .inl a2, .inl a3, .inl v10, .inl v11, zN]) (st := [.inl v11]) 4 hd0 hz zp_101 (qw_size (by first | exact zdk hd rfl | omega) hCM12 (⟨by decide, rfl, rfl⟩ : qT n 12 20 3) ) (by rfl) (fun x14 hx14 => ?_)
            refine zG_wi_ge (pc := 111) (n' := 114) (t := 201) (L := [.inr (.inr (some 76)), .inl a1, .inl a2, .inl a3, .inl v10, .inl v11, zN]) (st := []) (x := v11) (y := x14) 0 hd0 hz (by rfl) (fun hb15 => ?_) (fun hb15 => ?_)
            · exact zG_wr (r := some (.inl v10)) 1 hd0 hz (by rfl) ⟨⟨hCM12, hWM12⟩, _, rfl, by omega⟩
            · refine zG_wp (pc := 124) (L := [.inr (.inr (some 76)), .inl a1, .inl a2, .inl a3, .inl v10, .inl v11, zN]) (st := []) 4 hd0 hz zp_106 (qw_get (by first | exact zdk hd rfl | omega) hCM12 (⟨by decide, rfl, rfl⟩ : qT n 79 20 3) v11 (by first | with_reducible exact hv11 | omega) 0 (by first | decide | omega)) (by rfl) (fun x17 hx17 => ?_)
              refine zG_wn (pc := 131) (L := [.inr (.inr (some 76)), .inl a1, .inl a2, .inl a3, .inl v10, .inl v11, zN]) (st := [.inl x17]) 3 hd0 hz zp_32 (qm_32_76 (by first | exact zdk hd rfl | omega) hCM12  v11 (by first | with_reducible exact hv11 | omega) a2 (by first | with_reducible exact ha2 | omega)) (by rfl) (fun x19 M18 hr hx19 => ?_)
              obtain ⟨hCM18, hFM18⟩ := hr
              have hWM18 : qFr [62, 64, 65, 66, 72, 73, 74, 75, 80] M M18 := hWM12.tr hFM18 (by decide)
              have j179 : ∀ (v20 : Int) (M21 : zM) , 0 ≤ v20 ∧ v20 ≤ 1 → qCI M21 → qFr [62, 64, 65, 66, 72, 73, 74, 75, 80] M M21 → zG n (0, 0) d 37 (179, [.inr (.inr (some 76)), .inl a1, .inl a2, .inl a3, .inl v10, .inl v11, zN], [.inl v20]) M21 (fun v M' => qWf qCI [62, 64, 65, 66, 72, 73, 74, 75, 80] M M' ∧ qRi (fun x => (-2147483648) ≤ x ∧ x ≤ 2147483647) v) := by
                intro v20 M21 hv20 hCM21 hWM21
                refine zG_w (c' := (183, [.inr (.inr (some 76)), .inl a1, .inl a2, .inl a3, .inl v10, .inl v11, .inl v20], [.inl v20])) 2 hd0 hz (by rfl) ?_
                have j195 : ∀ (v22 : Int) , (-2147483648) ≤ v22 ∧ v22 ≤ 2147483647 → zG n (0, 0) d 37 (195, [.inr (.inr (some 76)), .inl a1, .inl a2, .inl a3, .inl v22, .inl v11, .inl v20], []) M21 (fun v M' => qWf qCI [62, 64, 65, 66, 72, 73, 74, 75, 80] M M' ∧ qRi (fun x => (-2147483648) ≤ x ∧ x ≤ 2147483647) v) := by
                  intro v22 hv22
                  obtain ⟨x23, hx23⟩ : ∃ x : Int, x = w32 (v11 + 1) := ⟨_, rfl⟩
                  have hx23e : x23 = v11 + 1 := by rw [hx23]; exact w32_id (by omega)
                  refine zG_w (c' := (99, [.inr (.inr (some 76)), .inl a1, .inl a2, .inl a3, .inl v22, .inl x23, .inl v20], [])) 2 hd0 hz (by subst hx23; rfl) ?_
                  exact zG_weak (ih99 v22 x23 M21 (by omega) (by omega) (by omega) hCM21 hWM21) ⟨.inr rfl, .inr rfl, .inr rfl, .inr rfl, .inr rfl, .inr rfl, .inl rfl, trivial⟩
                refine zG_wf_ne (pc := 183) (n' := 186) (t := 195) (L := [.inr (.inr (some 76)), .inl a1, .inl a2, .inl a3, .inl v10, .inl v11, .inl v20]) (st := []) (x := v20) 0 hd0 hz (by rfl) (fun hb24 => ?_) (fun hb24 => ?_)
                · exact j195 v10 (by first | with_reducible exact hv10 | omega)
                · obtain ⟨x25, hx25⟩ : ∃ x : Int, x = zbshl 1 v11 := ⟨_, rfl⟩
                  have hx25r : qin x25 := by rw [hx25]; exact qb32 _
                  obtain ⟨x26, hx26⟩ : ∃ x : Int, x = zbor v10 x25 := ⟨_, rfl⟩
                  have hx26r : qin x26 := by rw [hx26]; exact qb32 _
                  refine zG_w (c' := (195, [.inr (.inr (some 76)), .inl a1, .inl a2, .inl a3, .inl x26, .inl v11, .inl v20], [])) 6 hd0 hz (by subst hx26; subst hx25; rfl) ?_
                  exact j195 x26 (by omega)
              have j178 : ∀ (M27 : zM) , qCI M27 → qFr [62, 64, 65, 66, 72, 73, 74, 75, 80] M M27 → zG n (0, 0) d 37 (178, [.inr (.inr (some 76)), .inl a1, .inl a2, .inl a3, .inl v10, .inl v11, zN], []) M27 (fun v M' => qWf qCI [62, 64, 65, 66, 72, 73, 74, 75, 80] M M' ∧ qRi (fun x => (-2147483648) ≤ x ∧ x ≤ 2147483647) v) := by
                intro M27 hCM27 hWM27
                refine zG_w (c' := (179, [.inr (.inr (some 76)), .inl a1, .inl a2, .inl a3, .inl v10, .inl v11, zN], [.inl 0])) 1 hd0 hz (by rfl) ?_
                exact j179 0 M27 (by omega) hCM27 hWM27
              refine zG_wi_ne (pc := 131) (n' := 134) (t := 178) (L := [.inr (.inr (some 76)), .inl a1, .inl a2, .inl a3, .inl v10, .inl v11, zN]) (st := []) (x := x17) (y := x19) 0 hd0 hz (by rfl) (fun hb28 => ?_) (fun hb28 => ?_)
              · exact j178 M18 hCM18 hWM18
              · refine zG_wp (pc := 144) (L := [.inr (.inr (some 76)), .inl a1, .inl a2, .inl a3, .inl v10, .inl v11, zN]) (st := []) 4 hd0 hz zp_106 (qw_get (by first | exact zdk hd rfl | omega) hCM18 (⟨by decide, rfl, rfl⟩ : qT n 79 20 3) v11 (by first | with_reducible exact hv11 | omega) 1 (by first | decide | omega)) (by rfl) (fun x30 hx30 => ?_)
                refine zG_wn (pc := 151) (L := [.inr (.inr (some 76)), .inl a1, .inl a2, .inl a3, .inl v10, .inl v11, zN]) (st := [.inl x30]) 3 hd0 hz zp_33 (qm_33_76 (by first | exact zdk hd rfl | omega) hCM18  v11 (by first | with_reducible exact hv11 | omega) a2 (by first | with_reducible exact ha2 | omega)) (by rfl) (fun x32 M31 hr hx32 => ?_)
                obtain ⟨hCM31, hFM31⟩ := hr
                have hWM31 : qFr [62, 64, 65, 66, 72, 73, 74, 75, 80] M M31 := hWM18.tr hFM31 (by decide)
                refine zG_wi_ne (pc := 151) (n' := 154) (t := 178) (L := [.inr (.inr (some 76)), .inl a1, .inl a2, .inl a3, .inl v10, .inl v11, zN]) (st := []) (x := x30) (y := x32) 0 hd0 hz (by rfl) (fun hb33 => ?_) (fun hb33 => ?_)
                · exact j178 M31 hCM31 hWM31
                · refine zG_wp (pc := 164) (L := [.inr (.inr (some 76)), .inl a1, .inl a2, .inl a3, .inl v10, .inl v11, zN]) (st := []) 4 hd0 hz zp_106 (qw_get (by first | exact zdk hd rfl | omega) hCM31 (⟨by decide, rfl, rfl⟩ : qT n 79 20 3) v11 (by first | with_reducible exact hv11 | omega) 2 (by first | decide | omega)) (by rfl) (fun x35 hx35 => ?_)
                  refine zG_wn (pc := 171) (L := [.inr (.inr (some 76)), .inl a1, .inl a2, .inl a3, .inl v10, .inl v11, zN]) (st := [.inl x35]) 3 hd0 hz zp_36 (qm_36_76 (by first | exact zdk hd rfl | omega) hCM31  v11 (by first | with_reducible exact hv11 | omega) a2 (by first | with_reducible exact ha2 | omega)) (by rfl) (fun x37 M36 hr hx37 => ?_)
                  obtain ⟨hCM36, hFM36⟩ := hr
                  have hWM36 : qFr [62, 64, 65, 66, 72, 73, 74, 75, 80] M M36 := hWM31.tr hFM36 (by decide)
                  refine zG_wi_ne (pc := 171) (n' := 174) (t := 178) (L := [.inr (.inr (some 76)), .inl a1, .inl a2, .inl a3, .inl v10, .inl v11, zN]) (st := []) (x := x35) (y := x37) 0 hd0 hz (by rfl) (fun hb38 => ?_) (fun hb38 => ?_)
                  · exact j178 M36 hCM36 hWM36
                  · refine zG_w (c' := (179, [.inr (.inr (some 76)), .inl a1, .inl a2, .inl a3, .inl v10, .inl v11, zN], [.inl 1])) 2 hd0 hz (by rfl) ?_
                    exact j179 1 M36 (by omega) hCM36 hWM36
        exact j99 ((20 - 0 : Int).toNat + 1) 0 0 M8 (by omega) (by omega) (by omega) hCM8 hWM8
      · refine zG_wn (pc := 41) (L := [.inr (.inr (some 76)), .inl a1, .inl a2, .inl a3, .inl v3, zN, zN]) (st := [.inl 0, .inl v3, .inr (.inr (some 79))]) 7 hd0 hz zp_32 (qm_32_76 (by first | exact zdk hd rfl | omega) hCM4  v3 (by first | with_reducible exact hv3 | omega) a2 (by first | with_reducible exact ha2 | omega)) (by rfl) (fun x40 M39 hr hx40 => ?_)
        obtain ⟨hCM39, hFM39⟩ := hr
        have hWM39 : qFr [62, 64, 65, 66, 72, 73, 74, 75, 80] M M39 := hWM4.tr hFM39 (by decide)
        refine zG_wv (pc := 44) (L := [.inr (.inr (some 76)), .inl a1, .inl a2, .inl a3, .inl v3, zN, zN]) (st := []) 0 hd0 hz zp_107 (qw_set (by first | exact zdk hd rfl | omega) hCM39 (⟨by decide, rfl, rfl⟩ : qT n 79 20 3) v3 (by first | with_reducible exact hv3 | omega) 0 (by first | decide | omega) x40 (by omega)) (by rfl) (fun M41 hr => ?_)
        obtain ⟨hCM41, hFM41⟩ := hr
        have hWM41 : qFr [62, 64, 65, 66, 72, 73, 74, 75, 80] M M41 := hWM39.tr hFM41 (by decide)
        refine zG_wn (pc := 58) (L := [.inr (.inr (some 76)), .inl a1, .inl a2, .inl a3, .inl v3, zN, zN]) (st := [.inl 1, .inl v3, .inr (.inr (some 79))]) 7 hd0 hz zp_33 (qm_33_76 (by first | exact zdk hd rfl | omega) hCM41  v3 (by first | with_reducible exact hv3 | omega) a2 (by first | with_reducible exact ha2 | omega)) (by rfl) (fun x44 M43 hr hx44 => ?_)
        obtain ⟨hCM43, hFM43⟩ := hr
        have hWM43 : qFr [62, 64, 65, 66, 72, 73, 74, 75, 80] M M43 := hWM41.tr hFM43 (by decide)
        refine zG_wv (pc := 61) (L := [.inr (.inr (some 76)), .inl a1, .inl a2, .inl a3, .inl v3, zN, zN]) (st := []) 0 hd0 hz zp_107 (qw_set (by first | exact zdk hd rfl | omega) hCM43 (⟨by decide, rfl, rfl⟩ : qT n 79 20 3) v3 (by first | with_reducible exact hv3 | omega) 1 (by first | decide | omega) x44 (by omega)) (by rfl) (fun M45 hr => ?_)
        obtain ⟨hCM45, hFM45⟩ := hr
        have hWM45 : qFr [62, 64, 65, 66, 72, 73, 74, 75, 80] M M45 := hWM43.tr hFM45 (by decide)
        refine zG_wn (pc := 75) (L := [.inr (.inr (some 76)), .inl a1, .inl a2, .inl a3, .inl v3, zN, zN]) (st := [.inl 2, .inl v3, .inr (.inr (some 79))]) 7 hd0 hz zp_36 (qm_36_76 (by first | exact zdk hd rfl | omega) hCM45  v3 (by first | with_reducible exact hv3 | omega) a2 (by first | with_reducible exact ha2 | omega)) (by rfl) (fun x48 M47 hr hx48 => ?_)
        obtain ⟨hCM47, hFM47⟩ := hr
        have hWM47 : qFr [62, 64, 65, 66, 72, 73, 74, 75, 80] M M47 := hWM45.tr hFM47 (by decide)
        refine zG_wv (pc := 78) (L := [.inr (.inr (some 76)), .inl a1, .inl a2, .inl a3, .inl v3, zN, zN]) (st := []) 0 hd0 hz zp_107 (qw_set (by first | exact zdk hd rfl | omega) hCM47 (⟨by decide, rfl, rfl⟩ : qT n 79 20 3) v3 (by first | with_reducible exact hv3 | omega) 2 (by first | decide | omega) x48 (by omega)) (by rfl) (fun M49 hr => ?_)
        obtain ⟨hCM49, hFM49⟩ := hr
        have hWM49 : qFr [62, 64, 65, 66, 72, 73, 74, 75, 80] M M49 := hWM47.tr hFM49 (by decide)
        obtain ⟨x51, hx51⟩ : ∃ x : Int, x = w32 (v3 + 1) := ⟨_, rfl⟩
        have hx51e : x51 = v3 + 1 := by rw [hx51]; exact w32_id (by omega)
        refine zG_w (c' := (12, [.inr (.inr (some 76)), .inl a1, .inl a2, .inl a3, .inl x51, zN, zN], [])) 2 hd0 hz (by subst hx51; rfl) ?_
        exact ih12 x51 M49 (by omega) (by omega) hCM49 hWM49
  exact j12 ((20 - 0 : Int).toNat + 1) 0 M1 (by omega) (by omega) hCM1 hWM1
theorem qm_147_8 {n d : Nat} {M : zM} (hd : 8 ≤ d) (hC : qCI M) (a1 : Int) (ha1 : (-2147483648) ≤ a1 ∧ a1 ≤ 2147483647) (a2 : Int) (ha2 : (-2147483648) ≤ a2 ∧ a2 ≤ 2147483647) (a3 : Int) (ha3 : (-2147483648) ≤ a3 ∧ a3 ≤ 2147483647) : qOkM n d 147 [.inr (.inr (some 8)), .inl a1, .inl a2, .inl a3] 4 qCI [62, 64, 65, 66, 72, 73, 74, 75, 80] M (qRi (fun x => (-2147483648) ≤ x ∧ x ≤ 2147483647)) := by
  have hz := zp_147
  have hd0 : 0 < d := by omega
  have hW : qFr [62, 64, 65, 66, 72, 73, 74, 75, 80] M M := qFr.rfl
  show zG n (0, 0) d 147 (0, [.inr (.inr (some 8)), .inl a1, .inl a2, .inl a3], []) M _
  refine zG_wp (pc := 11) (L := [.inr (.inr (some 8)), .inl a1, .inl a2, .inl a3]) (st := []) 4 hd0 hz zp_102 (qw_has (by first | exact zdk hd rfl | omega) hC (⟨by decide, rfl, rfl⟩ : qT n 16 40 5) a1 (by first | with_reducible exact ha1 | omega)) (by rfl) (fun x2 hx2 => ?_)
  have j28 : zG n (0, 0) d 147 (28, [.inr (.inr (some 8)), .inl a1, .inl a2, .inl a3], []) M (fun v M' => qWf qCI [62, 64, 65, 66, 72, 73, 74, 75, 80] M M' ∧ qRi (fun x => (-2147483648) ≤ x ∧ x ≤ 2147483647) v) := by
    exact zG_wr (r := some (.inl (-2))) 1 hd0 hz (by rfl) ⟨⟨hC, hW⟩, _, rfl, by omega⟩
  refine zG_wf_eq (pc := 11) (n' := 14) (t := 28) (L := [.inr (.inr (some 8)), .inl a1, .inl a2, .inl a3]) (st := []) (x := x2) 0 hd0 hz (by rfl) (fun hb3 => ?_) (fun hb3 => ?_)
  · exact j28
  · refine zG_wp (pc := 18) (L := [.inr (.inr (some 8)), .inl a1, .inl a2, .inl a3]) (st := []) 1 hd0 hz zp_170 (qm_170 (by first | exact zdk hd rfl | omega) hC  a2 (by first | with_reducible exact ha2 | omega)) (by rfl) (fun x5 hx5 => ?_)
    refine zG_wf_eq (pc := 18) (n' := 21) (t := 28) (L := [.inr (.inr (some 8)), .inl a1, .inl a2, .inl a3]) (st := []) (x := x5) 0 hd0 hz (by rfl) (fun hb6 => ?_) (fun hb6 => ?_)
    · exact j28
    · refine zG_wp (pc := 25) (L := [.inr (.inr (some 8)), .inl a1, .inl a2, .inl a3]) (st := []) 1 hd0 hz zp_170 (qm_170 (by first | exact zdk hd rfl | omega) hC  a3 (by first | with_reducible exact ha3 | omega)) (by rfl) (fun x8 hx8 => ?_)
      refine zG_wf_ne (pc := 25) (n' := 28) (t := 31) (L := [.inr (.inr (some 8)), .inl a1, .inl a2, .inl a3]) (st := []) (x := x8) 0 hd0 hz (by rfl) (fun hb9 => ?_) (fun hb9 => ?_)
      · refine zG_wp (pc := 39) (L := [.inr (.inr (some 8)), .inl a1, .inl a2, .inl a3]) (st := []) 3 hd0 hz zp_20 (qm_20_9 (by first | exact zdk hd rfl | omega) hC  a1 (by first | with_reducible exact ha1 | omega)) (by rfl) (fun x11 hx11 => ?_)
        have j57 : ∀ (v12 : Int) (M13 : zM) , (-2147483648) ≤ v12 ∧ v12 ≤ 2147483647 → qCI M13 → qFr [62, 64, 65, 66, 72, 73, 74, 75, 80] M M13 → zG n (0, 0) d 147 (57, [.inr (.inr (some 8)), .inl a1, .inl a2, .inl a3], [.inl v12]) M13 (fun v M' => qWf qCI [62, 64, 65, 66, 72, 73, 74, 75, 80] M M' ∧ qRi (fun x => (-2147483648) ≤ x ∧ x ≤ 2147483647) v) := by
          intro v12 M13 hv12 hCM13 hWM13
          exact zG_wr (r := some (.inl v12)) 0 hd0 hz (by rfl) ⟨⟨hCM13, hWM13⟩, _, rfl, by omega⟩
        refine zG_wf_eq (pc := 39) (n' := 42) (t := 55) (L := [.inr (.inr (some 8)), .inl a1, .inl a2, .inl a3]) (st := []) (x := x11) 0 hd0 hz (by rfl) (fun hb14 => ?_) (fun hb14 => ?_)
        · refine zG_w (c' := (57, [.inr (.inr (some 8)), .inl a1, .inl a2, .inl a3], [.inl (-3)])) 1 hd0 hz (by rfl) ?_
          exact j57 (-3) M (by omega) hC hW
        · refine zG_wn (pc := 52) (L := [.inr (.inr (some 8)), .inl a1, .inl a2, .inl a3]) (st := []) 5 hd0 hz zp_37 (qm_37_76 (by first | exact zdk hd rfl | omega) hC  a1 (by first | with_reducible exact ha1 | omega) a2 (by first | with_reducible exact ha2 | omega) a3 (by first | with_reducible exact ha3 | omega)) (by rfl) (fun x16 M15 hr hx16 => ?_)
          obtain ⟨hCM15, hFM15⟩ := hr
          have hWM15 : qFr [62, 64, 65, 66, 72, 73, 74, 75, 80] M M15 := hW.tr hFM15 (by decide)
          refine zG_w (c' := (57, [.inr (.inr (some 8)), .inl a1, .inl a2, .inl a3], [.inl x16])) 1 hd0 hz (by rfl) ?_
          exact j57 x16 M15 (by omega) hCM15 hWM15
      · exact j28
theorem qm_173 {n d : Nat} {M : zM} (hd : 2 ≤ d) (hC : qCI M) (a0 : Int) (ha0 : (-2147483648) ≤ a0 ∧ a0 ≤ 2147483647) : qOkP n d 173 [.inl a0] 1 M (qRi (fun x => 0 ≤ x ∧ x ≤ 1)) := by
  have hz := zp_173
  have hd0 : 0 < d := by omega
  show zG n (0, 0) d 173 (0, [.inl a0], []) M _
  refine zG_wp (pc := 7) (L := [.inl a0]) (st := []) 3 hd0 hz zp_169 (qm_169 (by first | exact zdk hd rfl | omega) hC  a0 (by first | with_reducible exact ha0 | omega) 0 (by first | decide | omega) 7 (by first | decide | omega)) (by rfl) (fun x2 hx2 => ?_)
  exact zG_zret hd0 hz rfl (by omega) ⟨rfl, _, rfl, by omega⟩
theorem qm_148_8 {n d : Nat} {M : zM} (hd : 3 ≤ d) (hC : qCI M) (a1 : Int) (ha1 : (-2147483648) ≤ a1 ∧ a1 ≤ 2147483647) (a2 : Int) (ha2 : (-2147483648) ≤ a2 ∧ a2 ≤ 2147483647) : qOkM n d 148 [.inr (.inr (some 8)), .inl a1, .inl a2] 4 qCI [21] M (qRi (fun x => (-2147483647) ≤ x ∧ x ≤ 80)) := by
  have hz := zp_148
  have hd0 : 0 < d := by omega
  have hW : qFr [21] M M := qFr.rfl
  show zG n (0, 0) d 148 (0, [.inr (.inr (some 8)), .inl a1, .inl a2, zN], []) M _
  refine zG_wp (pc := 4) (L := [.inr (.inr (some 8)), .inl a1, .inl a2, zN]) (st := []) 1 hd0 hz zp_173 (qm_173 (by first | exact zdk hd rfl | omega) hC  a1 (by first | with_reducible exact ha1 | omega)) (by rfl) (fun x2 hx2 => ?_)
  have j17 : zG n (0, 0) d 148 (17, [.inr (.inr (some 8)), .inl a1, .inl a2, zN], []) M (fun v M' => qWf qCI [21] M M' ∧ qRi (fun x => (-2147483647) ≤ x ∧ x ≤ 80) v) := by
    exact zG_wr (r := some (.inl (-2))) 1 hd0 hz (by rfl) ⟨⟨hC, hW⟩, _, rfl, by omega⟩
  refine zG_wf_eq (pc := 4) (n' := 7) (t := 17) (L := [.inr (.inr (some 8)), .inl a1, .inl a2, zN]) (st := []) (x := x2) 0 hd0 hz (by rfl) (fun hb3 => ?_) (fun hb3 => ?_)
  · exact j17
  · refine zG_wp (pc := 14) (L := [.inr (.inr (some 8)), .inl a1, .inl a2, zN]) (st := []) 3 hd0 hz zp_169 (qm_169 (by first | exact zdk hd rfl | omega) hC  a2 (by first | with_reducible exact ha2 | omega) 0 (by first | decide | omega) 127 (by first | decide | omega)) (by rfl) (fun x5 hx5 => ?_)
    refine zG_wf_ne (pc := 14) (n' := 17) (t := 20) (L := [.inr (.inr (some 8)), .inl a1, .inl a2, zN]) (st := []) (x := x5) 0 hd0 hz (by rfl) (fun hb6 => ?_) (fun hb6 => ?_)
    · refine zG_wp (pc := 32) (L := [.inr (.inr (some 8)), .inl a1, .inl a2, zN]) (st := []) 5 hd0 hz zp_106 (qw_get (by first | exact zdk hd rfl | omega) hC (⟨by decide, rfl, rfl⟩ : qT n 20 8 81) a1 (by first | with_reducible exact ha1 | omega) 0 (by first | decide | omega)) (by rfl) (fun x8 hx8 => ?_)
      refine zG_wi_lt (pc := 36) (n' := 39) (t := 42) (L := [.inr (.inr (some 8)), .inl a1, .inl a2, .inl x8]) (st := []) (x := x8) (y := 80) 3 hd0 hz (by rfl) (fun hb9 => ?_) (fun hb9 => ?_)
      · obtain ⟨x10, hx10⟩ : ∃ x : Int, x = w32 (1 + x8) := ⟨_, rfl⟩
        have hx10e : x10 = 1 + x8 := by rw [hx10]; exact w32_id (by omega)
        refine zG_wv (pc := 57) (L := [.inr (.inr (some 8)), .inl a1, .inl a2, .inl x8]) (st := []) 8 hd0 hz zp_107 (qw_set (by first | exact zdk hd rfl | omega) hC (⟨by decide, rfl, rfl⟩ : qT n 20 8 81) a1 (by first | with_reducible exact ha1 | omega) x10 (by omega) a2 (by first | with_reducible exact ha2 | omega)) (by subst hx10; rfl) (fun M11 hr => ?_)
        obtain ⟨hCM11, hFM11⟩ := hr
        have hWM11 : qFr [21] M M11 := hW.tr hFM11 (by decide)
        obtain ⟨x13, hx13⟩ : ∃ x : Int, x = w32 (x8 + 1) := ⟨_, rfl⟩
        have hx13e : x13 = x8 + 1 := by rw [hx13]; exact w32_id (by omega)
        refine zG_wv (pc := 72) (L := [.inr (.inr (some 8)), .inl a1, .inl a2, .inl x8]) (st := []) 8 hd0 hz zp_107 (qw_set (by first | exact zdk hd rfl | omega) hCM11 (⟨by decide, rfl, rfl⟩ : qT n 20 8 81) a1 (by first | with_reducible exact ha1 | omega) 0 (by first | decide | omega) x13 (by omega)) (by subst hx13; rfl) (fun M14 hr => ?_)
        obtain ⟨hCM14, hFM14⟩ := hr
        have hWM14 : qFr [21] M M14 := hWM11.tr hFM14 (by decide)
        obtain ⟨x16, hx16⟩ : ∃ x : Int, x = w32 (x8 + 1) := ⟨_, rfl⟩
        have hx16e : x16 = x8 + 1 := by rw [hx16]; exact w32_id (by omega)
        exact zG_wr (r := some (.inl x16)) 3 hd0 hz (by subst hx16; rfl) ⟨⟨hCM14, hWM14⟩, _, rfl, by omega⟩
      · exact zG_wr (r := some (.inl (-4))) 1 hd0 hz (by rfl) ⟨⟨hC, hW⟩, _, rfl, by omega⟩
    · exact j17
theorem qm_149_8 {n d : Nat} {M : zM} (hd : 3 ≤ d) (hC : qCI M) (a1 : Int) (ha1 : (-2147483648) ≤ a1 ∧ a1 ≤ 2147483647) : qOkM n d 149 [.inr (.inr (some 8)), .inl a1] 3 qCI [21] M (qRi (fun x => (-2147483648) ≤ x ∧ x ≤ 2147483647)) := by
  have hz := zp_149
  have hd0 : 0 < d := by omega
  have hW : qFr [21] M M := qFr.rfl
  show zG n (0, 0) d 149 (0, [.inr (.inr (some 8)), .inl a1, zN], []) M _
  refine zG_wp (pc := 4) (L := [.inr (.inr (some 8)), .inl a1, zN]) (st := []) 1 hd0 hz zp_173 (qm_173 (by first | exact zdk hd rfl | omega) hC  a1 (by first | with_reducible exact ha1 | omega)) (by rfl) (fun x2 hx2 => ?_)
  refine zG_wf_ne (pc := 4) (n' := 7) (t := 10) (L := [.inr (.inr (some 8)), .inl a1, zN]) (st := []) (x := x2) 0 hd0 hz (by rfl) (fun hb3 => ?_) (fun hb3 => ?_)
  · refine zG_wp (pc := 22) (L := [.inr (.inr (some 8)), .inl a1, zN]) (st := []) 5 hd0 hz zp_106 (qw_get (by first | exact zdk hd rfl | omega) hC (⟨by decide, rfl, rfl⟩ : qT n 20 8 81) a1 (by first | with_reducible exact ha1 | omega) 0 (by first | decide | omega)) (by rfl) (fun x5 hx5 => ?_)
    refine zG_wv (pc := 36) (L := [.inr (.inr (some 8)), .inl a1, .inl x5]) (st := []) 7 hd0 hz zp_107 (qw_set (by first | exact zdk hd rfl | omega) hC (⟨by decide, rfl, rfl⟩ : qT n 20 8 81) a1 (by first | with_reducible exact ha1 | omega) 0 (by first | decide | omega) 0 (by first | decide | omega)) (by rfl) (fun M6 hr => ?_)
    obtain ⟨hCM6, hFM6⟩ := hr
    have hWM6 : qFr [21] M M6 := hW.tr hFM6 (by decide)
    exact zG_wr (r := some (.inl x5)) 1 hd0 hz (by rfl) ⟨⟨hCM6, hWM6⟩, _, rfl, by omega⟩
  · exact zG_wr (r := some (.inl (-2))) 1 hd0 hz (by rfl) ⟨⟨hC, hW⟩, _, rfl, by omega⟩
theorem qm_97_67 {n d : Nat} {M : zM} (hd : 2 ≤ d) (hC : qCI M) (a1 : Int) (ha1 : (-2147483648) ≤ a1 ∧ a1 ≤ 2147483647) : qOkP n d 97 [.inr (.inr (some 67)), .inl a1] 2 M (qRi (fun x => (-2147483648) ≤ x ∧ x ≤ 2147483647)) := by
  have hz := zp_97
  have hd0 : 0 < d := by omega
  show zG n (0, 0) d 97 (0, [.inr (.inr (some 67)), .inl a1], []) M _
  have r1 := hC.rng 67 3 (by decide) (by decide)
  obtain ⟨x2, hx2⟩ : ∃ x : Int, x = w32 (1 + a1) := ⟨_, rfl⟩
  have hx2r : x2 = (1 + a1 + 2147483648) % 4294967296 - 2147483648 := hx2
  refine zG_wp (pc := 14) (L := [.inr (.inr (some 67)), .inl a1]) (st := []) 7 hd0 hz zp_106 (qw_get (by first | exact zdk hd rfl | omega) hC (⟨by decide, rfl, rfl⟩ : qT n 20 8 81) (M 67 3) (by omega) x2 (by omega)) (by subst hx2; rfl) (fun x4 hx4 => ?_)
  exact zG_wr (r := some (.inl x4)) 0 hd0 hz (by rfl) ⟨rfl, _, rfl, by omega⟩
theorem qm_98 {n d : Nat} {M : zM} (hd : 1 ≤ d) (hC : qCI M) (a0 : Int) (ha0 : (-2147483648) ≤ a0 ∧ a0 ≤ 2147483647) : qOkP n d 98 [.inl a0] 1 M (qRi (fun x => 0 ≤ x ∧ x ≤ 1)) := by
  have hz := zp_98
  have hd0 : 0 < d := by omega
  show zG n (0, 0) d 98 (0, [.inl a0], []) M _
  refine zG_w (c' := (3, [.inl a0], [.inl 48, .inl a0])) 2 hd0 hz (by rfl) ?_
  have j17 : ∀ (v1 : Int) , 0 ≤ v1 ∧ v1 ≤ 1 → zG n (0, 0) d 98 (17, [.inl a0], [.inl v1]) M (fun v M' => M' = M ∧ qRi (fun x => 0 ≤ x ∧ x ≤ 1) v) := by
    intro v1 hv1
    exact zG_zret hd0 hz rfl (by omega) ⟨rfl, _, rfl, by omega⟩
  have j16 : zG n (0, 0) d 98 (16, [.inl a0], []) M (fun v M' => M' = M ∧ qRi (fun x => 0 ≤ x ∧ x ≤ 1) v) := by
    refine zG_w (c' := (17, [.inl a0], [.inl 0])) 1 hd0 hz (by rfl) ?_
    exact j17 0 (by first | decide | omega)
  refine zG_wi_lt (pc := 3) (n' := 6) (t := 16) (L := [.inl a0]) (st := []) (x := a0) (y := 48) 0 hd0 hz (by rfl) (fun hb2 => ?_) (fun hb2 => ?_)
  · exact j16
  · refine zG_wi_gt (pc := 9) (n' := 12) (t := 16) (L := [.inl a0]) (st := []) (x := a0) (y := 57) 2 hd0 hz (by rfl) (fun hb3 => ?_) (fun hb3 => ?_)
    · exact j16
    · refine zG_w (c' := (17, [.inl a0], [.inl 1])) 2 hd0 hz (by rfl) ?_
      exact j17 1 (by first | decide | omega)
theorem qm_94_67 {n d : Nat} {M : zM} (hd : 3 ≤ d) (hC : qCI M)  : qOkM n d 94 [.inr (.inr (some 67))] 1 qCI [67] M qRn := by
  have hz := zp_94
  have hd0 : 0 < d := by omega
  have hW : qFr [67] M M := qFr.rfl
  show zG n (0, 0) d 94 (0, [.inr (.inr (some 67))], []) M _
  refine zG_w (c' := (3, [.inr (.inr (some 67))], [.inl 24, .inr (.inr (some 67))])) 2 hd0 hz (by rfl) ?_
  refine zG_putf (.inl rfl) hd0 hz rfl (by decide) rfl rfl ?_
  obtain ⟨M1, hM1⟩ : ∃ X : zM, X = zput M 67 7 24 := ⟨_, rfl⟩
  rw [← hM1]
  have hCM1 : qCI M1 := by rw [hM1]; exact hC.put (r := 67) (k := 7) rfl (.inl (by omega))
  have hWM1 : qFr [67] M M1 := by rw [hM1]; exact hW.put (by decide)
  have e2 : M1 67 7 = 24 := by rw [hM1]; exact qput_eq
  show zG n (0, 0) d 94 (6, [.inr (.inr (some 67))], []) M1 _
  refine zG_w (c' := (8, [.inr (.inr (some 67))], [.inl 0, .inr (.inr (some 67))])) 2 hd0 hz (by rfl) ?_
  refine zG_putf (.inl rfl) hd0 hz rfl (by decide) rfl rfl ?_
  obtain ⟨M3, hM3⟩ : ∃ X : zM, X = zput M1 67 8 0 := ⟨_, rfl⟩
  rw [← hM3]
  have hCM3 : qCI M3 := by rw [hM3]; exact hCM1.put (r := 67) (k := 8) rfl (.inl (by omega))
  have hWM3 : qFr [67] M M3 := by rw [hM3]; exact hWM1.put (by decide)
  have e4 : M3 67 7 = M1 67 7 := by rw [hM3]; exact qput_nk (by decide)
  have e5 : M3 67 8 = 0 := by rw [hM3]; exact qput_eq
  show zG n (0, 0) d 94 (11, [.inr (.inr (some 67))], []) M3 _
  have j11 : ∀ (N : Nat) (M6 : zM) , (M6 67 4 - M6 67 6 : Int).toNat < N → qCI M6 → qFr [67] M M6 → zG n (0, 0) d 94 (11, [.inr (.inr (some 67))], []) M6 (fun v M' => qWf qCI [67] M M' ∧ qRn v) := by
    intro N
    induction N with
    | zero => intro M6 hN hCM6 hWM6; exact absurd hN (Nat.not_lt_zero _)
    | succ N ih11 =>
      intro M6 hN hCM6 hWM6
      replace hN : M6 67 4 - M6 67 6 < (N : Int) + 1 := by omega
      have r7 := hCM6.rng 67 6 (by decide) (by decide)
      have r8 := hCM6.rng 67 4 (by decide) (by decide)
      refine zG_w (c' := (19, [.inr (.inr (some 67))], [.inl (M6 67 4), .inl (M6 67 6)])) 4 hd0 hz (by rfl) ?_
      have j72 : zG n (0, 0) d 94 (72, [.inr (.inr (some 67))], []) M6 (fun v M' => qWf qCI [67] M M' ∧ qRn v) := by
        exact zG_wr (r := none) 0 hd0 hz (by rfl) ⟨⟨hCM6, hWM6⟩, rfl⟩
      refine zG_wi_ge (pc := 19) (n' := 22) (t := 72) (L := [.inr (.inr (some 67))]) (st := []) (x := (M6 67 6)) (y := (M6 67 4)) 0 hd0 hz (by rfl) (fun hb9 => ?_) (fun hb9 => ?_)
      · exact j72
      · refine zG_wp (pc := 30) (L := [.inr (.inr (some 67))]) (st := []) 3 hd0 hz zp_97 (qm_97_67 (by first | exact zdk hd rfl | omega) hCM6  (M6 67 6) (by omega)) (by rfl) (fun x11 hx11 => ?_)
        refine zG_wp (pc := 33) (L := [.inr (.inr (some 67))]) (st := []) 0 hd0 hz zp_98 (qm_98 (by first | exact zdk hd rfl | omega) hCM6  x11 (by omega)) (by rfl) (fun x13 hx13 => ?_)
        refine zG_wf_eq (pc := 33) (n' := 36) (t := 72) (L := [.inr (.inr (some 67))]) (st := []) (x := x13) 0 hd0 hz (by rfl) (fun hb14 => ?_) (fun hb14 => ?_)
        · exact j72
        · have r15 := hCM6.rng 67 8 (by decide) (by decide)
          obtain ⟨x16, hx16⟩ : ∃ x : Int, x = w32 (10 * (M6 67 8)) := ⟨_, rfl⟩
          have hx16r : qin x16 := by rw [hx16]; exact w32_in _
          refine zG_wp (pc := 52) (L := [.inr (.inr (some 67))]) (st := [.inl x16, .inr (.inr (some 67))]) 8 hd0 hz zp_97 (qm_97_67 (by first | exact zdk hd rfl | omega) hCM6  (M6 67 6) (by omega)) (by subst hx16; rfl) (fun x18 hx18 => ?_)
          obtain ⟨x19, hx19⟩ : ∃ x : Int, x = w32 (x16 + x18) := ⟨_, rfl⟩
          have hx19r : x19 = (x16 + x18 + 2147483648) % 4294967296 - 2147483648 := hx19
          obtain ⟨x20, hx20⟩ : ∃ x : Int, x = w32 (x19 - 48) := ⟨_, rfl⟩
          have hx20r : x20 = (x19 - 48 + 2147483648) % 4294967296 - 2147483648 := hx20
          refine zG_w (c' := (56, [.inr (.inr (some 67))], [.inl x20, .inr (.inr (some 67))])) 3 hd0 hz (by subst hx20; subst hx19; rfl) ?_
          refine zG_putf (.inl rfl) hd0 hz rfl (by decide) rfl rfl ?_
          obtain ⟨M21, hM21⟩ : ∃ X : zM, X = zput M6 67 8 x20 := ⟨_, rfl⟩
          rw [← hM21]
          have hCM21 : qCI M21 := by rw [hM21]; exact hCM6.put (r := 67) (k := 8) rfl (.inl (by omega))
          have hWM21 : qFr [67] M M21 := by rw [hM21]; exact hWM6.put (by decide)
          have e22 : M21 67 6 = M6 67 6 := by rw [hM21]; exact qput_nk (by decide)
          have e23 : M21 67 4 = M6 67 4 := by rw [hM21]; exact qput_nk (by decide)
          have e24 : M21 67 8 = x20 := by rw [hM21]; exact qput_eq
          show zG n (0, 0) d 94 (59, [.inr (.inr (some 67))], []) M21 _
          obtain ⟨x25, hx25⟩ : ∃ x : Int, x = w32 ((M21 67 6) + 1) := ⟨_, rfl⟩
          have hx25r : x25 = ((M21 67 6) + 1 + 2147483648) % 4294967296 - 2147483648 := hx25
          refine zG_w (c' := (66, [.inr (.inr (some 67))], [.inl x25, .inr (.inr (some 67))])) 5 hd0 hz (by subst hx25; rfl) ?_
          refine zG_putf (.inl rfl) hd0 hz rfl (by decide) rfl rfl ?_
          obtain ⟨M26, hM26⟩ : ∃ X : zM, X = zput M21 67 6 x25 := ⟨_, rfl⟩
          rw [← hM26]
          have hCM26 : qCI M26 := by rw [hM26]; exact hCM21.put (r := 67) (k := 6) rfl (.inl (by omega))
          have hWM26 : qFr [67] M M26 := by rw [hM26]; exact hWM21.put (by decide)
          have e27 : M26 67 4 = M21 67 4 := by rw [hM26]; exact qput_nk (by decide)
          have e28 : M26 67 8 = M21 67 8 := by rw [hM26]; exact qput_nk (by decide)
          have e29 : M26 67 6 = x25 := by rw [hM26]; exact qput_eq
          show zG n (0, 0) d 94 (69, [.inr (.inr (some 67))], []) M26 _
          refine zG_w (c' := (11, [.inr (.inr (some 67))], [])) 1 hd0 hz (by rfl) ?_
          exact ih11 M26 (by omega) hCM26 hWM26
  exact j11 ((M3 67 4 - M3 67 6 : Int).toNat + 1) M3 (by omega) hCM3 hWM3
theorem qm_99 {n d : Nat} {M : zM} (hd : 1 ≤ d) (hC : qCI M) (a0 : Int) (ha0 : (-2147483648) ≤ a0 ∧ a0 ≤ 2147483647) : qOkP n d 99 [.inl a0] 1 M (qRi (fun x => 0 ≤ x ∧ x ≤ 1)) := by
  have hz := zp_99
  have hd0 : 0 < d := by omega
  show zG n (0, 0) d 99 (0, [.inl a0], []) M _
  refine zG_w (c' := (3, [.inl a0], [.inl 97, .inl a0])) 2 hd0 hz (by rfl) ?_
  have j17 : ∀ (v1 : Int) , 0 ≤ v1 ∧ v1 ≤ 1 → zG n (0, 0) d 99 (17, [.inl a0], [.inl v1]) M (fun v M' => M' = M ∧ qRi (fun x => 0 ≤ x ∧ x ≤ 1) v) := by
    intro v1 hv1
    exact zG_zret hd0 hz rfl (by omega) ⟨rfl, _, rfl, by omega⟩
  have j16 : zG n (0, 0) d 99 (16, [.inl a0], []) M (fun v M' => M' = M ∧ qRi (fun x => 0 ≤ x ∧ x ≤ 1) v) := by
    refine zG_w (c' := (17, [.inl a0], [.inl 0])) 1 hd0 hz (by rfl) ?_
    exact j17 0 (by first | decide | omega)
  refine zG_wi_lt (pc := 3) (n' := 6) (t := 16) (L := [.inl a0]) (st := []) (x := a0) (y := 97) 0 hd0 hz (by rfl) (fun hb2 => ?_) (fun hb2 => ?_)
  · exact j16
  · refine zG_wi_gt (pc := 9) (n' := 12) (t := 16) (L := [.inl a0]) (st := []) (x := a0) (y := 122) 2 hd0 hz (by rfl) (fun hb3 => ?_) (fun hb3 => ?_)
    · exact j16
    · refine zG_w (c' := (17, [.inl a0], [.inl 1])) 2 hd0 hz (by rfl) ?_
      exact j17 1 (by first | decide | omega)
theorem qm_303_4 {n d : Nat} {M : zM} (hd : 1 ≤ d) (hC : qCI M)  : qOkP n d 303 [.inr (.inr (some 4))] 1 M (qRi (fun x => 0 ≤ x ∧ x ≤ 0)) := by
  have hz := zp_303
  have hd0 : 0 < d := by omega
  show zG n (0, 0) d 303 (0, [.inr (.inr (some 4))], []) M _
  refine zG_w (c' := (6, [.inr (.inr (some 4))], [])) 2 hd0 hz (by rfl) ?_
  have j14 : ∀ (v1 : Int) , 0 ≤ v1 ∧ v1 ≤ 0 → zG n (0, 0) d 303 (14, [.inr (.inr (some 4))], [.inl v1]) M (fun v M' => M' = M ∧ qRi (fun x => 0 ≤ x ∧ x ≤ 0) v) := by
    intro v1 hv1
    exact zG_ret hd0 hz rfl (if_pos (by omega)) ⟨rfl, _, rfl, by omega⟩
  have r2 := hC.st.1
  refine zG_w (c' := (14, [.inr (.inr (some 4))], [.inl (M 4 1)])) 3 hd0 hz (by rfl) ?_
  exact j14 (M 4 1) (by omega)
theorem qm_302_4 {n d : Nat} {M : zM} (hd : 2 ≤ d) (hC : qCI M)  : qOkP n d 302 [.inr (.inr (some 4))] 1 M (qRi (fun x => 0 ≤ x ∧ x ≤ 82)) := by
  have hz := zp_302
  have hd0 : 0 < d := by omega
  show zG n (0, 0) d 302 (0, [.inr (.inr (some 4))], []) M _
  refine zG_wp (pc := 9) (L := [.inr (.inr (some 4))]) (st := [.inl 82]) 4 hd0 hz zp_303 (qm_303_4 (by first | exact zdk hd rfl | omega) hC  ) (by rfl) (fun x2 hx2 => ?_)
  obtain ⟨x3, hx3⟩ : ∃ x : Int, x = zbshr 82 x2 := ⟨_, rfl⟩
  have hx3r := qbshr_n 82 x2 (by omega); rw [← hx3] at hx3r
  exact zG_wr (r := some (.inl x3)) 1 hd0 hz (by subst hx3; rfl) ⟨rfl, _, rfl, by omega⟩
theorem qm_304_4 {n d : Nat} {M : zM} (hd : 1 ≤ d) (hC : qCI M)  : qOkP n d 304 [.inr (.inr (some 4))] 1 M (qRi (fun x => 1 ≤ x ∧ x ≤ 1)) := by
  have hz := zp_304
  have hd0 : 0 < d := by omega
  show zG n (0, 0) d 304 (0, [.inr (.inr (some 4))], []) M _
  refine zG_w (c' := (6, [.inr (.inr (some 4))], [])) 2 hd0 hz (by rfl) ?_
  have j18 : ∀ (v1 : Int) , 1 ≤ v1 ∧ v1 ≤ 1 → zG n (0, 0) d 304 (18, [.inr (.inr (some 4))], [.inl v1]) M (fun v M' => M' = M ∧ qRi (fun x => 1 ≤ x ∧ x ≤ 1) v) := by
    intro v1 hv1
    exact zG_zret hd0 hz rfl (by omega) ⟨rfl, _, rfl, by omega⟩
  have r2 := hC.st.1
  refine zG_wf_ne (pc := 10) (n' := 13) (t := 17) (L := [.inr (.inr (some 4))]) (st := []) (x := (M 4 1)) 2 hd0 hz (by rfl) (fun hb3 => ?_) (fun hb3 => ?_)
  · exfalso; omega
  · refine zG_w (c' := (18, [.inr (.inr (some 4))], [.inl 1])) 2 hd0 hz (by rfl) ?_
    exact j18 1 (by first | decide | omega)
theorem qm_310 {n d : Nat} {M : zM} (hd : 1 ≤ d) (hC : qCI M) (a0 : Int) (ha0 : 0 ≤ a0 ∧ a0 ≤ 81) (a1 : Int) (ha1 : 82 ≤ a1 ∧ a1 ≤ 82) : qOkP n d 310 [.inl a0, .inl a1, zN] 3 M (qRi (fun x => 0 ≤ x ∧ x ≤ 81)) := by
  have hz := zp_310
  have hd0 : 0 < d := by omega
  show zG n (0, 0) d 310 (0, [.inl a0, .inl a1, zN], []) M _
  refine zG_wf_lt (pc := 1) (n' := 4) (t := 9) (L := [.inl a0, .inl a1, zN]) (st := []) (x := a0) 1 hd0 hz (by rfl) (fun hb1 => ?_) (fun hb1 => ?_)
  · exfalso; omega
  · refine zG_wi_lt (pc := 6) (n' := 9) (t := 16) (L := [.inl a0, .inl a1, zN]) (st := []) (x := a0) (y := a1) 2 hd0 hz (by rfl) (fun hb2 => ?_) (fun hb2 => ?_)
    · exact zG_wr (r := some (.inl a0)) 1 hd0 hz (by rfl) ⟨rfl, _, rfl, by omega⟩
    · exfalso; omega
theorem qm_305 {n d : Nat} {M : zM} (hd : 2 ≤ d) (hC : qCI M) (a0 : Int) (ha0 : 0 ≤ a0 ∧ a0 ≤ 81) (a1 : Int) (ha1 : 82 ≤ a1 ∧ a1 ≤ 82) : qOkP n d 305 [.inl a0, .inl a1] 2 M qRn := by
  have hz := zp_305
  have hd0 : 0 < d := by omega
  show zG n (0, 0) d 305 (0, [.inl a0, .inl a1], []) M _
  refine zG_wp (pc := 8) (L := [.inl a0, .inl a1]) (st := []) 3 hd0 hz zp_310 (qm_310 (by first | exact zdk hd rfl | omega) hC  a0 (by first | with_reducible exact ha0 | omega) a1 (by first | with_reducible exact ha1 | omega)) (by rfl) (fun x2 hx2 => ?_)
  exact zG_wr (r := none) 1 hd0 hz (by rfl) ⟨rfl, rfl⟩
theorem qm_306_5 {n d : Nat} {M : zM} (hd : 3 ≤ d) (hC : qCI M) (a1 : Int) (ha1 : 0 ≤ a1 ∧ a1 ≤ 81) : qOkP n d 306 [.inr (.inr (some 5)), .inl a1] 2 M (qRi (fun x => 0 ≤ x ∧ x ≤ 65535)) := by
  have hz := zp_306
  have hd0 : 0 < d := by omega
  show zG n (0, 0) d 306 (0, [.inr (.inr (some 5)), .inl a1], []) M _
  refine zG_wc (c1 := (6, [.inr (.inr (some 5)), .inl a1], [])) 3 hd0 hz zp_305 (qm_305 (by first | exact zdk hd rfl | omega) hC  a1 (by first | with_reducible exact ha1 | omega) 82 (by first | decide | omega)) (by rfl) (fun vr M1 hr => ?_)
  obtain ⟨hq, rfl⟩ := hr
  replace hq := hq.symm; subst hq
  show zG n (0, 0) d 306 (6, [.inr (.inr (some 5)), .inl a1], []) M _
  refine zG_w (c' := (8, [.inr (.inr (some 5)), .inl a1], [.inl a1, .inr (.inr (some 5))])) 2 hd0 hz (by rfl) ?_
  refine zG_bald hd0 hz rfl rfl (.inr rfl) (by omega) ?_
  have hx3 := hC.rng 5 (a1 : Int).toNat (by decide) (by decide)
  generalize M 5 (a1 : Int).toNat = x3 at hx3 ⊢
  show zG n (0, 0) d 306 (9, [.inr (.inr (some 5)), .inl a1], [.inl x3]) M _
  obtain ⟨x4, hx4⟩ : ∃ x : Int, x = zband x3 255 := ⟨_, rfl⟩
  have hx4r := qband_r x3 255 (by first | decide | omega) (by omega); rw [← hx4] at hx4r
  obtain ⟨x5, hx5⟩ : ∃ x : Int, x = x4 % 65536 := ⟨_, rfl⟩
  refine zG_w (c' := (14, [.inr (.inr (some 5)), .inl a1], [.inl x5])) 3 hd0 hz (by subst hx5; subst hx4; rfl) ?_
  exact zG_ret hd0 hz rfl (if_pos (by omega)) ⟨rfl, _, rfl, by omega⟩
theorem qm_299_4 {n d : Nat} {M : zM} (hd : 4 ≤ d) (hC : qCI M) (a1 : Int) (ha1 : 0 ≤ a1 ∧ a1 ≤ 81) : qOkP n d 299 [.inr (.inr (some 4)), .inl a1] 2 M (qRi (fun x => 0 ≤ x ∧ x ≤ 65535)) := by
  have hz := zp_299
  have hd0 : 0 < d := by omega
  show zG n (0, 0) d 299 (0, [.inr (.inr (some 4)), .inl a1], []) M _
  refine zG_wp (pc := 4) (L := [.inr (.inr (some 4)), .inl a1]) (st := []) 1 hd0 hz zp_304 (qm_304_4 (by first | exact zdk hd rfl | omega) hC  ) (by rfl) (fun x2 hx2 => ?_)
  refine zG_wf_eq (pc := 4) (n' := 7) (t := 16) (L := [.inr (.inr (some 4)), .inl a1]) (st := []) (x := x2) 0 hd0 hz (by rfl) (fun hb3 => ?_) (fun hb3 => ?_)
  · exfalso; omega
  · refine zG_wp (pc := 15) (L := [.inr (.inr (some 4)), .inl a1]) (st := []) 3 hd0 hz zp_306 (qm_306_5 (by first | exact zdk hd rfl | omega) hC  a1 (by first | with_reducible exact ha1 | omega)) (by rfl) (fun x5 hx5 => ?_)
    exact zG_ret hd0 hz rfl (if_pos (by omega)) ⟨rfl, _, rfl, by omega⟩
theorem qm_96_67 {n d : Nat} {M : zM} (hd : 5 ≤ d) (hC : qCI M)  : qOkP n d 96 [.inr (.inr (some 67))] 6 M (qRi (fun x => (-2147483648) ≤ x ∧ x ≤ 2147483647)) := by
  have hz := zp_96
  have hd0 : 0 < d := by omega
  show zG n (0, 0) d 96 (0, [.inr (.inr (some 67)), zN, zN, zN, zN, zN], []) M _
  have r1 := hC.rng 67 5 (by decide) (by decide)
  refine zG_w (c' := (12, [.inr (.inr (some 67)), .inl 0, .inl (M 67 5), .inl 1, .inl 0, zN], [])) 9 hd0 hz (by rfl) ?_
  have j12 : ∀ (N : Nat) (v2 v3 v4 v5 : Int) , (82 - v5 : Int).toNat < N → (-2147483648) ≤ v2 ∧ v2 ≤ 2147483647 → (-2147483648) ≤ v3 ∧ v3 ≤ 2147483647 → 0 ≤ v4 ∧ v4 ≤ 1 → 0 ≤ v5 ∧ v5 ≤ 82 → zG n (0, 0) d 96 (12, [.inr (.inr (some 67)), .inl v2, .inl v3, .inl v4, .inl v5, zN], []) M (fun v M' => M' = M ∧ qRi (fun x => (-2147483648) ≤ x ∧ x ≤ 2147483647) v) := by
    intro N
    induction N with
    | zero => intro v2 v3 v4 v5 hN hv2 hv3 hv4 hv5; exact absurd hN (Nat.not_lt_zero _)
    | succ N ih12 =>
      intro v2 v3 v4 v5 hN hv2 hv3 hv4 hv5
      replace hN : 82 - v5 < (N : Int) + 1 := by omega
      refine zG_wp (pc := 19) (L := [.inr (.inr (some 67)), .inl v2, .inl v3, .inl v4, .inl v5, zN]) (st := [.inl v5]) 2 hd0 hz zp_302 (qm_302_4 (by first | exact zdk hd rfl | omega) hC  ) (by rfl) (fun x7 hx7 => ?_)
      refine zG_wi_ge (pc := 19) (n' := 22) (t := 102) (L := [.inr (.inr (some 67)), .inl v2, .inl v3, .inl v4, .inl v5, zN]) (st := []) (x := v5) (y := x7) 0 hd0 hz (by rfl) (fun hb8 => ?_) (fun hb8 => ?_)
      · exact zG_wr (r := some (.inl (-1))) 1 hd0 hz (by rfl) ⟨rfl, _, rfl, by omega⟩
      · refine zG_wp (pc := 29) (L := [.inr (.inr (some 67)), .inl v2, .inl v3, .inl v4, .inl v5, zN]) (st := []) 2 hd0 hz zp_299 (qm_299_4 (by first | exact zdk hd rfl | omega) hC  v5 (by first | with_reducible exact hv5 | omega)) (by rfl) (fun x10 hx10 => ?_)
        refine zG_w (c' := (35, [.inr (.inr (some 67)), .inl v2, .inl v3, .inl v4, .inl v5, .inl x10], [.inl 32, .inl x10])) 3 hd0 hz (by rfl) ?_
        have j96 : ∀ (v11 v12 v13 : Int) , (-2147483648) ≤ v11 ∧ v11 ≤ 2147483647 → (-2147483648) ≤ v12 ∧ v12 ≤ 2147483647 → 0 ≤ v13 ∧ v13 ≤ 1 → zG n (0, 0) d 96 (96, [.inr (.inr (some 67)), .inl v11, .inl v12, .inl v13, .inl v5, .inl x10], []) M (fun v M' => M' = M ∧ qRi (fun x => (-2147483648) ≤ x ∧ x ≤ 2147483647) v) := by
          intro v11 v12 v13 hv11 hv12 hv13
          obtain ⟨x14, hx14⟩ : ∃ x : Int, x = w32 (v5 + 1) := ⟨_, rfl⟩
          have hx14e : x14 = v5 + 1 := by rw [hx14]; exact w32_id (by omega)
          refine zG_w (c' := (12, [.inr (.inr (some 67)), .inl v11, .inl v12, .inl v13, .inl x14, .inl x10], [])) 2 hd0 hz (by subst hx14; rfl) ?_
          exact zG_weak (ih12 v11 v12 v13 x14 (by omega) (by omega) (by omega) (by omega) (by omega)) ⟨.inr rfl, .inr rfl, .inr rfl, .inr rfl, .inr rfl, .inl rfl, trivial⟩
        refine zG_wi_ne (pc := 35) (n' := 38) (t := 65) (L := [.inr (.inr (some 67)), .inl v2, .inl v3, .inl v4, .inl v5, .inl x10]) (st := []) (x := x10) (y := 32) 0 hd0 hz (by rfl) (fun hb15 => ?_) (fun hb15 => ?_)
        · refine zG_w (c' := (66, [.inr (.inr (some 67)), .inl v2, .inl v3, .inl v4, .inl v5, .inl x10], [.inl v4])) 1 hd0 hz (by rfl) ?_
          have j92 : ∀ (v16 : Int) , 0 ≤ v16 ∧ v16 ≤ 1 → zG n (0, 0) d 96 (92, [.inr (.inr (some 67)), .inl v2, .inl v3, .inl v4, .inl v5, .inl x10], [.inl v16]) M (fun v M' => M' = M ∧ qRi (fun x => (-2147483648) ≤ x ∧ x ≤ 2147483647) v) := by
            intro v16 hv16
            obtain ⟨x17, hx17⟩ : ∃ x : Int, x = w32 (v3 + 1) := ⟨_, rfl⟩
            have hx17r : x17 = (v3 + 1 + 2147483648) % 4294967296 - 2147483648 := hx17
            refine zG_w (c' := (96, [.inr (.inr (some 67)), .inl v2, .inl x17, .inl v16, .inl v5, .inl x10], [])) 2 hd0 hz (by subst hx17; rfl) ?_
            exact j96 v2 x17 v16 (by first | with_reducible exact hv16 | omega) (by omega) (by omega)
          have j91 : zG n (0, 0) d 96 (91, [.inr (.inr (some 67)), .inl v2, .inl v3, .inl v4, .inl v5, .inl x10], []) M (fun v M' => M' = M ∧ qRi (fun x => (-2147483648) ≤ x ∧ x ≤ 2147483647) v) := by
            refine zG_w (c' := (92, [.inr (.inr (some 67)), .inl v2, .inl v3, .inl v4, .inl v5, .inl x10], [.inl 0])) 1 hd0 hz (by rfl) ?_
            exact j92 0 (by first | decide | omega)
          refine zG_wf_eq (pc := 66) (n' := 69) (t := 91) (L := [.inr (.inr (some 67)), .inl v2, .inl v3, .inl v4, .inl v5, .inl x10]) (st := []) (x := v4) 0 hd0 hz (by rfl) (fun hb18 => ?_) (fun hb18 => ?_)
          · exact j91
          · have r19 := hC.rng 67 6 (by decide) (by decide)
            refine zG_wi_ge (pc := 74) (n' := 77) (t := 91) (L := [.inr (.inr (some 67)), .inl v2, .inl v3, .inl v4, .inl v5, .inl x10]) (st := []) (x := v3) (y := (M 67 6)) 3 hd0 hz (by rfl) (fun hb20 => ?_) (fun hb20 => ?_)
            · exact j91
            · refine zG_wp (pc := 82) (L := [.inr (.inr (some 67)), .inl v2, .inl v3, .inl v4, .inl v5, .inl x10]) (st := []) 2 hd0 hz zp_97 (qm_97_67 (by first | exact zdk hd rfl | omega) hC  v3 (by first | with_reducible exact hv3 | omega)) (by rfl) (fun x22 hx22 => ?_)
              refine zG_wi_ne (pc := 84) (n' := 87) (t := 91) (L := [.inr (.inr (some 67)), .inl v2, .inl v3, .inl v4, .inl v5, .inl x10]) (st := []) (x := x22) (y := x10) 1 hd0 hz (by rfl) (fun hb23 => ?_) (fun hb23 => ?_)
              · exact j91
              · refine zG_w (c' := (92, [.inr (.inr (some 67)), .inl v2, .inl v3, .inl v4, .inl v5, .inl x10], [.inl 1])) 2 hd0 hz (by rfl) ?_
                exact j92 1 (by first | decide | omega)
        · refine zG_w (c' := (39, [.inr (.inr (some 67)), .inl v2, .inl v3, .inl v4, .inl v5, .inl x10], [.inl v4])) 1 hd0 hz (by rfl) ?_
          have j52 : zG n (0, 0) d 96 (52, [.inr (.inr (some 67)), .inl v2, .inl v3, .inl v4, .inl v5, .inl x10], []) M (fun v M' => M' = M ∧ qRi (fun x => (-2147483648) ≤ x ∧ x ≤ 2147483647) v) := by
            obtain ⟨x24, hx24⟩ : ∃ x : Int, x = w32 (v2 + 1) := ⟨_, rfl⟩
            have hx24r : x24 = (v2 + 1 + 2147483648) % 4294967296 - 2147483648 := hx24
            refine zG_w (c' := (96, [.inr (.inr (some 67)), .inl x24, .inl (M 67 5), .inl 1, .inl v5, .inl x10], [])) 7 hd0 hz (by subst hx24; rfl) ?_
            exact j96 x24 (M 67 5) 1 (by first | decide | omega) (by omega) (by omega)
          refine zG_wf_eq (pc := 39) (n' := 42) (t := 52) (L := [.inr (.inr (some 67)), .inl v2, .inl v3, .inl v4, .inl v5, .inl x10]) (st := []) (x := v4) 0 hd0 hz (by rfl) (fun hb25 => ?_) (fun hb25 => ?_)
          · exact j52
          · have r26 := hC.rng 67 6 (by decide) (by decide)
            refine zG_wi_ne (pc := 47) (n' := 50) (t := 52) (L := [.inr (.inr (some 67)), .inl v2, .inl v3, .inl v4, .inl v5, .inl x10]) (st := []) (x := v3) (y := (M 67 6)) 3 hd0 hz (by rfl) (fun hb27 => ?_) (fun hb27 => ?_)
            · exact j52
            · exact zG_wr (r := some (.inl v2)) 1 hd0 hz (by rfl) ⟨rfl, _, rfl, by omega⟩
  exact j12 ((82 - 0 : Int).toNat + 1) 0 (M 67 5) 1 0 (by first | decide | omega) (by omega) (by omega) (by omega) (by omega)
theorem qm_92_67 {n d : Nat} {M : zM} (hd : 1 ≤ d) (hC : qCI M) (a1 : Int) (ha1 : (-2147483648) ≤ a1 ∧ a1 ≤ 2147483647) : qOkM n d 92 [.inr (.inr (some 67)), .inl a1] 2 qCI [67] M qRn := by
  have hz := zp_92
  have hd0 : 0 < d := by omega
  have hW : qFr [67] M M := qFr.rfl
  show zG n (0, 0) d 92 (0, [.inr (.inr (some 67)), .inl a1], []) M _
  have r1 := hC.rng 67 10 (by decide) (by decide)
  refine zG_w (c' := (5, [.inr (.inr (some 67)), .inl a1], [.inl (-1), .inl (M 67 10)])) 3 hd0 hz (by rfl) ?_
  have j21 : ∀ (M2 : zM) , qCI M2 → qFr [67] M M2 → zG n (0, 0) d 92 (21, [.inr (.inr (some 67)), .inl a1], []) M2 (fun v M' => qWf qCI [67] M M' ∧ qRn v) := by
    intro M2 hCM2 hWM2
    exact zG_wr (r := none) 0 hd0 hz (by rfl) ⟨⟨hCM2, hWM2⟩, rfl⟩
  refine zG_wi_ne (pc := 5) (n' := 8) (t := 21) (L := [.inr (.inr (some 67)), .inl a1]) (st := []) (x := (M 67 10)) (y := (-1)) 0 hd0 hz (by rfl) (fun hb3 => ?_) (fun hb3 => ?_)
  · exact j21 M hC hW
  · have r4 := hC.rng 67 5 (by decide) (by decide)
    obtain ⟨x5, hx5⟩ : ∃ x : Int, x = w32 (10 * (M 67 5)) := ⟨_, rfl⟩
    have hx5r : qin x5 := by rw [hx5]; exact w32_in _
    obtain ⟨x6, hx6⟩ : ∃ x : Int, x = w32 (x5 + a1) := ⟨_, rfl⟩
    have hx6r : x6 = (x5 + a1 + 2147483648) % 4294967296 - 2147483648 := hx6
    refine zG_w (c' := (18, [.inr (.inr (some 67)), .inl a1], [.inl x6, .inr (.inr (some 67))])) 7 hd0 hz (by subst hx6; subst hx5; rfl) ?_
    refine zG_putf (.inl rfl) hd0 hz rfl (by decide) rfl rfl ?_
    obtain ⟨M7, hM7⟩ : ∃ X : zM, X = zput M 67 10 x6 := ⟨_, rfl⟩
    rw [← hM7]
    have hCM7 : qCI M7 := by rw [hM7]; exact hC.put (r := 67) (k := 10) rfl (.inl (by omega))
    have hWM7 : qFr [67] M M7 := by rw [hM7]; exact hW.put (by decide)
    have e8 : M7 67 5 = M 67 5 := by rw [hM7]; exact qput_nk (by decide)
    have e9 : M7 67 10 = x6 := by rw [hM7]; exact qput_eq
    show zG n (0, 0) d 92 (21, [.inr (.inr (some 67)), .inl a1], []) M7 _
    exact j21 M7 hCM7 hWM7
theorem qm_95_67 {n d : Nat} {M : zM} (hd : 6 ≤ d) (hC : qCI M)  : qOkM n d 95 [.inr (.inr (some 67))] 1 qCI [67] M qRn := by
  have hz := zp_95
  have hd0 : 0 < d := by omega
  have hW : qFr [67] M M := qFr.rfl
  show zG n (0, 0) d 95 (0, [.inr (.inr (some 67))], []) M _
  have j0 : ∀ (N : Nat) (M1 : zM) , (M1 67 4 - M1 67 6 : Int).toNat < N → qCI M1 → qFr [67] M M1 → zG n (0, 0) d 95 (0, [.inr (.inr (some 67))], []) M1 (fun v M' => qWf qCI [67] M M' ∧ qRn v) := by
    intro N
    induction N with
    | zero => intro M1 hN hCM1 hWM1; exact absurd hN (Nat.not_lt_zero _)
    | succ N ih0 =>
      intro M1 hN hCM1 hWM1
      replace hN : M1 67 4 - M1 67 6 < (N : Int) + 1 := by omega
      have r2 := hCM1.rng 67 6 (by decide) (by decide)
      have r3 := hCM1.rng 67 4 (by decide) (by decide)
      refine zG_w (c' := (8, [.inr (.inr (some 67))], [.inl (M1 67 4), .inl (M1 67 6)])) 4 hd0 hz (by rfl) ?_
      have j38 : zG n (0, 0) d 95 (38, [.inr (.inr (some 67))], []) M1 (fun v M' => qWf qCI [67] M M' ∧ qRn v) := by
        refine zG_wp (pc := 43) (L := [.inr (.inr (some 67))]) (st := [.inr (.inr (some 67))]) 2 hd0 hz zp_96 (qm_96_67 (by first | exact zdk hd rfl | omega) hCM1  ) (by rfl) (fun x5 hx5 => ?_)
        refine zG_putf (.inl rfl) hd0 hz rfl (by decide) rfl rfl ?_
        obtain ⟨M6, hM6⟩ : ∃ X : zM, X = zput M1 67 7 x5 := ⟨_, rfl⟩
        rw [← hM6]
        have hCM6 : qCI M6 := by rw [hM6]; exact hCM1.put (r := 67) (k := 7) rfl (.inl (by omega))
        have hWM6 : qFr [67] M M6 := by rw [hM6]; exact hWM1.put (by decide)
        have e7 : M6 67 6 = M1 67 6 := by rw [hM6]; exact qput_nk (by decide)
        have e8 : M6 67 4 = M1 67 4 := by rw [hM6]; exact qput_nk (by decide)
        have e9 : M6 67 7 = x5 := by rw [hM6]; exact qput_eq
        show zG n (0, 0) d 95 (46, [.inr (.inr (some 67))], []) M6 _
        refine zG_w (c' := (51, [.inr (.inr (some 67))], [.inl (-1), .inl (M6 67 7)])) 3 hd0 hz (by rfl) ?_
        have j59 : ∀ (M10 : zM) , qCI M10 → qFr [67] M M10 → zG n (0, 0) d 95 (59, [.inr (.inr (some 67))], []) M10 (fun v M' => qWf qCI [67] M M' ∧ qRn v) := by
          intro M10 hCM10 hWM10
          exact zG_wr (r := none) 0 hd0 hz (by rfl) ⟨⟨hCM10, hWM10⟩, rfl⟩
        refine zG_wi_ne (pc := 51) (n' := 54) (t := 59) (L := [.inr (.inr (some 67))]) (st := []) (x := (M6 67 7)) (y := (-1)) 0 hd0 hz (by rfl) (fun hb11 => ?_) (fun hb11 => ?_)
        · exact j59 M6 hCM6 hWM6
        · refine zG_wv (pc := 59) (L := [.inr (.inr (some 67))]) (st := []) 2 hd0 hz zp_92 (qm_92_67 (by first | exact zdk hd rfl | omega) hCM6  4 (by first | decide | omega)) (by rfl) (fun M12 hr => ?_)
          obtain ⟨hCM12, hFM12⟩ := hr
          have hWM12 : qFr [67] M M12 := hWM6.tr hFM12 (by decide)
          exact j59 M12 hCM12 hWM12
      refine zG_wi_ge (pc := 8) (n' := 11) (t := 38) (L := [.inr (.inr (some 67))]) (st := []) (x := (M1 67 6)) (y := (M1 67 4)) 0 hd0 hz (by rfl) (fun hb14 => ?_) (fun hb14 => ?_)
      · exact j38
      · refine zG_wp (pc := 19) (L := [.inr (.inr (some 67))]) (st := []) 3 hd0 hz zp_97 (qm_97_67 (by first | exact zdk hd rfl | omega) hCM1  (M1 67 6) (by omega)) (by rfl) (fun x16 hx16 => ?_)
        refine zG_wp (pc := 22) (L := [.inr (.inr (some 67))]) (st := []) 0 hd0 hz zp_99 (qm_99 (by first | exact zdk hd rfl | omega) hCM1  x16 (by omega)) (by rfl) (fun x18 hx18 => ?_)
        refine zG_wf_eq (pc := 22) (n' := 25) (t := 38) (L := [.inr (.inr (some 67))]) (st := []) (x := x18) 0 hd0 hz (by rfl) (fun hb19 => ?_) (fun hb19 => ?_)
        · exact j38
        · obtain ⟨x20, hx20⟩ : ∃ x : Int, x = w32 ((M1 67 6) + 1) := ⟨_, rfl⟩
          have hx20r : x20 = ((M1 67 6) + 1 + 2147483648) % 4294967296 - 2147483648 := hx20
          refine zG_w (c' := (32, [.inr (.inr (some 67))], [.inl x20, .inr (.inr (some 67))])) 5 hd0 hz (by subst hx20; rfl) ?_
          refine zG_putf (.inl rfl) hd0 hz rfl (by decide) rfl rfl ?_
          obtain ⟨M21, hM21⟩ : ∃ X : zM, X = zput M1 67 6 x20 := ⟨_, rfl⟩
          rw [← hM21]
          have hCM21 : qCI M21 := by rw [hM21]; exact hCM1.put (r := 67) (k := 6) rfl (.inl (by omega))
          have hWM21 : qFr [67] M M21 := by rw [hM21]; exact hWM1.put (by decide)
          have e22 : M21 67 4 = M1 67 4 := by rw [hM21]; exact qput_nk (by decide)
          have e23 : M21 67 6 = x20 := by rw [hM21]; exact qput_eq
          show zG n (0, 0) d 95 (35, [.inr (.inr (some 67))], []) M21 _
          refine zG_w (c' := (0, [.inr (.inr (some 67))], [])) 1 hd0 hz (by rfl) ?_
          exact ih0 M21 (by omega) hCM21 hWM21
  exact j0 ((M 67 4 - M 67 6 : Int).toNat + 1) M (by omega) hC hW
theorem qm_304_6 {n d : Nat} {M : zM} (hd : 1 ≤ d) (hC : qCI M)  : qOkP n d 304 [.inr (.inr (some 6))] 1 M (qRi (fun x => 1 ≤ x ∧ x ≤ 1)) := by
  have hz := zp_304
  have hd0 : 0 < d := by omega
  show zG n (0, 0) d 304 (0, [.inr (.inr (some 6))], []) M _
  refine zG_w (c' := (6, [.inr (.inr (some 6))], [])) 2 hd0 hz (by rfl) ?_
  have j18 : ∀ (v1 : Int) , 1 ≤ v1 ∧ v1 ≤ 1 → zG n (0, 0) d 304 (18, [.inr (.inr (some 6))], [.inl v1]) M (fun v M' => M' = M ∧ qRi (fun x => 1 ≤ x ∧ x ≤ 1) v) := by
    intro v1 hv1
    exact zG_zret hd0 hz rfl (by omega) ⟨rfl, _, rfl, by omega⟩
  have r2 := hC.st.2
  refine zG_wf_ne (pc := 10) (n' := 13) (t := 17) (L := [.inr (.inr (some 6))]) (st := []) (x := (M 6 1)) 2 hd0 hz (by rfl) (fun hb3 => ?_) (fun hb3 => ?_)
  · exfalso; omega
  · refine zG_w (c' := (18, [.inr (.inr (some 6))], [.inl 1])) 2 hd0 hz (by rfl) ?_
    exact j18 1 (by first | decide | omega)
theorem qm_303_6 {n d : Nat} {M : zM} (hd : 1 ≤ d) (hC : qCI M)  : qOkP n d 303 [.inr (.inr (some 6))] 1 M (qRi (fun x => 0 ≤ x ∧ x ≤ 0)) := by
  have hz := zp_303
  have hd0 : 0 < d := by omega
  show zG n (0, 0) d 303 (0, [.inr (.inr (some 6))], []) M _
  refine zG_w (c' := (6, [.inr (.inr (some 6))], [])) 2 hd0 hz (by rfl) ?_
  have j14 : ∀ (v1 : Int) , 0 ≤ v1 ∧ v1 ≤ 0 → zG n (0, 0) d 303 (14, [.inr (.inr (some 6))], [.inl v1]) M (fun v M' => M' = M ∧ qRi (fun x => 0 ≤ x ∧ x ≤ 0) v) := by
    intro v1 hv1
    exact zG_ret hd0 hz rfl (if_pos (by omega)) ⟨rfl, _, rfl, by omega⟩
  have r2 := hC.st.2
  refine zG_w (c' := (14, [.inr (.inr (some 6))], [.inl (M 6 1)])) 3 hd0 hz (by rfl) ?_
  exact j14 (M 6 1) (by omega)
theorem qm_302_6 {n d : Nat} {M : zM} (hd : 2 ≤ d) (hC : qCI M)  : qOkP n d 302 [.inr (.inr (some 6))] 1 M (qRi (fun x => 0 ≤ x ∧ x ≤ 9)) := by
  have hz := zp_302
  have hd0 : 0 < d := by omega
  show zG n (0, 0) d 302 (0, [.inr (.inr (some 6))], []) M _
  refine zG_wp (pc := 9) (L := [.inr (.inr (some 6))]) (st := [.inl 9]) 4 hd0 hz zp_303 (qm_303_6 (by first | exact zdk hd rfl | omega) hC  ) (by rfl) (fun x2 hx2 => ?_)
  obtain ⟨x3, hx3⟩ : ∃ x : Int, x = zbshr 9 x2 := ⟨_, rfl⟩
  have hx3r := qbshr_n 9 x2 (by omega); rw [← hx3] at hx3r
  exact zG_wr (r := some (.inl x3)) 1 hd0 hz (by subst hx3; rfl) ⟨rfl, _, rfl, by omega⟩
theorem qm_307 {n d : Nat} {M : zM} (hd : 1 ≤ d) (hC : qCI M) (a0 : Int) (ha0 : (-2147483648) ≤ a0 ∧ a0 ≤ 2147483647) : qOkP n d 307 [.inl a0] 1 M (qRi (fun x => 0 ≤ x ∧ x ≤ 1)) := by
  have hz := zp_307
  have hd0 : 0 < d := by omega
  show zG n (0, 0) d 307 (0, [.inl a0], []) M _
  refine zG_w (c' := (1, [.inl a0], [.inl a0])) 1 hd0 hz (by rfl) ?_
  have j16 : ∀ (v1 : Int) , 0 ≤ v1 ∧ v1 ≤ 1 → zG n (0, 0) d 307 (16, [.inl a0], [.inl v1]) M (fun v M' => M' = M ∧ qRi (fun x => 0 ≤ x ∧ x ≤ 1) v) := by
    intro v1 hv1
    exact zG_zret hd0 hz rfl (by omega) ⟨rfl, _, rfl, by omega⟩
  have j15 : zG n (0, 0) d 307 (15, [.inl a0], []) M (fun v M' => M' = M ∧ qRi (fun x => 0 ≤ x ∧ x ≤ 1) v) := by
    refine zG_w (c' := (16, [.inl a0], [.inl 0])) 1 hd0 hz (by rfl) ?_
    exact j16 0 (by first | decide | omega)
  refine zG_wf_lt (pc := 1) (n' := 4) (t := 15) (L := [.inl a0]) (st := []) (x := a0) 0 hd0 hz (by rfl) (fun hb2 => ?_) (fun hb2 => ?_)
  · exact j15
  · refine zG_wi_gt (pc := 8) (n' := 11) (t := 15) (L := [.inl a0]) (st := []) (x := a0) (y := 255) 2 hd0 hz (by rfl) (fun hb3 => ?_) (fun hb3 => ?_)
    · exact j15
    · refine zG_w (c' := (16, [.inl a0], [.inl 1])) 2 hd0 hz (by rfl) ?_
      exact j16 1 (by first | decide | omega)
theorem qm_309_7 {n d : Nat} {M : zM} (hd : 1 ≤ d) (hC : qCI M) (a1 : Int) (ha1 : (-2147483648) ≤ a1 ∧ a1 ≤ 2147483647) (a2 : Int) (ha2 : 0 ≤ a2 ∧ a2 ≤ 2147483647) (a3 : Int) (ha3 : (-2147483648) ≤ a3 ∧ a3 ≤ 9) : qOkP n d 309 [.inr (.inr (some 7)), .inl a1, .inl a2, .inl a3] 6 M (qRi (fun x => (-1) ≤ x ∧ x ≤ 8)) := by
  have hz := zp_309
  have hd0 : 0 < d := by omega
  show zG n (0, 0) d 309 (0, [.inr (.inr (some 7)), .inl a1, .inl a2, .inl a3, zN, zN], []) M _
  obtain ⟨x1, hx1⟩ : ∃ x : Int, x = (a1 + 128) % 256 - 128 := ⟨_, rfl⟩
  refine zG_w (c' := (7, [.inr (.inr (some 7)), .inl a1, .inl a2, .inl a3, .inl x1, .inl a2], [])) 5 hd0 hz (by subst hx1; rfl) ?_
  have j7 : ∀ (N : Nat) (v2 : Int) , (a3 - v2 : Int).toNat < N → 0 ≤ v2 ∧ v2 ≤ 2147483647 → zG n (0, 0) d 309 (7, [.inr (.inr (some 7)), .inl a1, .inl a2, .inl a3, .inl x1, .inl v2], []) M (fun v M' => M' = M ∧ qRi (fun x => (-1) ≤ x ∧ x ≤ 8) v) := by
    intro N
    induction N with
    | zero => intro v2 hN hv2; exact absurd hN (Nat.not_lt_zero _)
    | succ N ih7 =>
      intro v2 hN hv2
      replace hN : a3 - v2 < (N : Int) + 1 := by omega
      refine zG_wi_ge (pc := 10) (n' := 13) (t := 31) (L := [.inr (.inr (some 7)), .inl a1, .inl a2, .inl a3, .inl x1, .inl v2]) (st := []) (x := v2) (y := a3) 2 hd0 hz (by rfl) (fun hb3 => ?_) (fun hb3 => ?_)
      · exact zG_wr (r := some (.inl (-1))) 1 hd0 hz (by rfl) ⟨rfl, _, rfl, by omega⟩
      · refine zG_w (c' := (16, [.inr (.inr (some 7)), .inl a1, .inl a2, .inl a3, .inl x1, .inl v2], [.inl v2, .inr (.inr (some 7))])) 2 hd0 hz (by rfl) ?_
        refine zG_bald hd0 hz rfl rfl (.inr rfl) (by omega) ?_
        have hx4 := hC.rng 7 (v2 : Int).toNat (by decide) (by decide)
        generalize M 7 (v2 : Int).toNat = x4 at hx4 ⊢
        show zG n (0, 0) d 309 (17, [.inr (.inr (some 7)), .inl a1, .inl a2, .inl a3, .inl x1, .inl v2], [.inl x4]) M _
        refine zG_wi_ne (pc := 19) (n' := 22) (t := 25) (L := [.inr (.inr (some 7)), .inl a1, .inl a2, .inl a3, .inl x1, .inl v2]) (st := []) (x := x4) (y := x1) 1 hd0 hz (by rfl) (fun hb5 => ?_) (fun hb5 => ?_)
        · obtain ⟨x6, hx6⟩ : ∃ x : Int, x = w32 (v2 + 1) := ⟨_, rfl⟩
          have hx6e : x6 = v2 + 1 := by rw [hx6]; exact w32_id (by omega)
          refine zG_w (c' := (7, [.inr (.inr (some 7)), .inl a1, .inl a2, .inl a3, .inl x1, .inl x6], [])) 2 hd0 hz (by subst hx6; rfl) ?_
          exact ih7 x6 (by omega) (by omega)
        · exact zG_wr (r := some (.inl v2)) 1 hd0 hz (by rfl) ⟨rfl, _, rfl, by omega⟩
  exact j7 ((a3 - a2 : Int).toNat + 1) a2 (by first | with_reducible exact ha2 | omega) (by omega)
theorem qm_308_7 {n d : Nat} {M : zM} (hd : 2 ≤ d) (hC : qCI M) (a1 : Int) (ha1 : (-2147483648) ≤ a1 ∧ a1 ≤ 2147483647) (a2 : Int) (ha2 : (-2147483648) ≤ a2 ∧ a2 ≤ 2147483647) (a3 : Int) (ha3 : (-2147483648) ≤ a3 ∧ a3 ≤ 2147483647) : qOkP n d 308 [.inr (.inr (some 7)), .inl a1, .inl a2, .inl a3] 4 M (qRi (fun x => (-1) ≤ x ∧ x ≤ 8)) := by
  have hz := zp_308
  have hd0 : 0 < d := by omega
  show zG n (0, 0) d 308 (0, [.inr (.inr (some 7)), .inl a1, .inl a2, .inl a3], []) M _
  refine zG_wp (pc := 4) (L := [.inr (.inr (some 7)), .inl a1, .inl a2, .inl a3]) (st := []) 1 hd0 hz zp_307 (qm_307 (by first | exact zdk hd rfl | omega) hC  a1 (by first | with_reducible exact ha1 | omega)) (by rfl) (fun x2 hx2 => ?_)
  refine zG_wf_ne (pc := 4) (n' := 7) (t := 9) (L := [.inr (.inr (some 7)), .inl a1, .inl a2, .inl a3]) (st := []) (x := x2) 0 hd0 hz (by rfl) (fun hb3 => ?_) (fun hb3 => ?_)
  · obtain ⟨x4, hx4⟩ : ∃ x : Int, x = (if a2 < 0 then 0 else a2) := ⟨_, rfl⟩
    have hx4r := qite hx4
    obtain ⟨x5, hx5⟩ : ∃ x : Int, x = (if 9 < a3 then 9 else a3) := ⟨_, rfl⟩
    have hx5r := qite hx5
    refine zG_wi_lt (pc := 24) (n' := 27) (t := 29) (L := [.inr (.inr (some 7)), .inl a1, .inl x4, .inl x5]) (st := []) (x := x4) (y := x5) 11 hd0 hz (by subst hx5; subst hx4; rfl) (fun hb6 => ?_) (fun hb6 => ?_)
    · refine zG_wp (pc := 36) (L := [.inr (.inr (some 7)), .inl a1, .inl x4, .inl x5]) (st := []) 4 hd0 hz zp_309 (qm_309_7 (by first | exact zdk hd rfl | omega) hC  a1 (by first | with_reducible exact ha1 | omega) x4 (by omega) x5 (by omega)) (by rfl) (fun x8 hx8 => ?_)
      exact zG_wr (r := some (.inl x8)) 0 hd0 hz (by rfl) ⟨rfl, _, rfl, by omega⟩
    · exact zG_wr (r := some (.inl (-1))) 1 hd0 hz (by rfl) ⟨rfl, _, rfl, by omega⟩
  · exact zG_wr (r := some (.inl (-1))) 1 hd0 hz (by rfl) ⟨rfl, _, rfl, by omega⟩
theorem qm_301_6 {n d : Nat} {M : zM} (hd : 3 ≤ d) (hC : qCI M) (a1 : Int) (ha1 : (-2147483648) ≤ a1 ∧ a1 ≤ 2147483647) (a2 : Int) (ha2 : (-2147483648) ≤ a2 ∧ a2 ≤ 2147483647) : qOkP n d 301 [.inr (.inr (some 6)), .inl a1, .inl a2] 3 M (qRi (fun x => (-1) ≤ x ∧ x ≤ 8)) := by
  have hz := zp_301
  have hd0 : 0 < d := by omega
  show zG n (0, 0) d 301 (0, [.inr (.inr (some 6)), .inl a1, .inl a2], []) M _
  refine zG_wp (pc := 4) (L := [.inr (.inr (some 6)), .inl a1, .inl a2]) (st := []) 1 hd0 hz zp_304 (qm_304_6 (by first | exact zdk hd rfl | omega) hC  ) (by rfl) (fun x2 hx2 => ?_)
  refine zG_wf_eq (pc := 4) (n' := 7) (t := 23) (L := [.inr (.inr (some 6)), .inl a1, .inl a2]) (st := []) (x := x2) 0 hd0 hz (by rfl) (fun hb3 => ?_) (fun hb3 => ?_)
  · exfalso; omega
  · refine zG_wp (pc := 17) (L := [.inr (.inr (some 6)), .inl a1, .inl a2]) (st := [.inl a2, .inl a1, .inr (.inr (some 7))]) 5 hd0 hz zp_302 (qm_302_6 (by first | exact zdk hd rfl | omega) hC  ) (by rfl) (fun x5 hx5 => ?_)
    refine zG_wp (pc := 20) (L := [.inr (.inr (some 6)), .inl a1, .inl a2]) (st := []) 0 hd0 hz zp_308 (qm_308_7 (by first | exact zdk hd rfl | omega) hC  a1 (by first | with_reducible exact ha1 | omega) a2 (by first | with_reducible exact ha2 | omega) x5 (by omega)) (by rfl) (fun x7 hx7 => ?_)
    exact zG_wr (r := some (.inl x7)) 1 hd0 hz (by rfl) ⟨rfl, _, rfl, by omega⟩
theorem qm_300_6 {n d : Nat} {M : zM} (hd : 4 ≤ d) (hC : qCI M) (a1 : Int) (ha1 : (-2147483648) ≤ a1 ∧ a1 ≤ 2147483647) : qOkP n d 300 [.inr (.inr (some 6)), .inl a1] 2 M (qRi (fun x => (-1) ≤ x ∧ x ≤ 8)) := by
  have hz := zp_300
  have hd0 : 0 < d := by omega
  show zG n (0, 0) d 300 (0, [.inr (.inr (some 6)), .inl a1], []) M _
  refine zG_wp (pc := 6) (L := [.inr (.inr (some 6)), .inl a1]) (st := []) 3 hd0 hz zp_301 (qm_301_6 (by first | exact zdk hd rfl | omega) hC  a1 (by first | with_reducible exact ha1 | omega) 0 (by first | decide | omega)) (by rfl) (fun x2 hx2 => ?_)
  exact zG_wr (r := some (.inl x2)) 0 hd0 hz (by rfl) ⟨rfl, _, rfl, by omega⟩
theorem qm_91_67 {n d : Nat} {M : zM} (hd : 2 ≤ d) (hC : qCI M) (a1 : Int) (ha1 : 0 ≤ a1 ∧ a1 ≤ 1) : qOkM n d 91 [.inr (.inr (some 67)), .inl a1] 2 qCI [67] M qRn := by
  have hz := zp_91
  have hd0 : 0 < d := by omega
  have hW : qFr [67] M M := qFr.rfl
  show zG n (0, 0) d 91 (0, [.inr (.inr (some 67)), .inl a1], []) M _
  refine zG_w (c' := (1, [.inr (.inr (some 67)), .inl a1], [.inl a1])) 1 hd0 hz (by rfl) ?_
  have j9 : ∀ (M1 : zM) , qCI M1 → qFr [67] M M1 → zG n (0, 0) d 91 (9, [.inr (.inr (some 67)), .inl a1], []) M1 (fun v M' => qWf qCI [67] M M' ∧ qRn v) := by
    intro M1 hCM1 hWM1
    exact zG_wr (r := none) 0 hd0 hz (by rfl) ⟨⟨hCM1, hWM1⟩, rfl⟩
  refine zG_wf_ne (pc := 1) (n' := 4) (t := 9) (L := [.inr (.inr (some 67)), .inl a1]) (st := []) (x := a1) 0 hd0 hz (by rfl) (fun hb2 => ?_) (fun hb2 => ?_)
  · exact j9 M hC hW
  · refine zG_wv (pc := 9) (L := [.inr (.inr (some 67)), .inl a1]) (st := []) 2 hd0 hz zp_92 (qm_92_67 (by first | exact zdk hd rfl | omega) hC  1 (by first | decide | omega)) (by rfl) (fun M3 hr => ?_)
    obtain ⟨hCM3, hFM3⟩ := hr
    have hWM3 : qFr [67] M M3 := hW.tr hFM3 (by decide)
    exact j9 M3 hCM3 hWM3
theorem qm_93_67 {n d : Nat} {M : zM} (hd : 7 ≤ d) (hC : qCI M)  : qOkM n d 93 [.inr (.inr (some 67))] 2 qCI [67] M qRn := by
  have hz := zp_93
  have hd0 : 0 < d := by omega
  have hW : qFr [67] M M := qFr.rfl
  show zG n (0, 0) d 93 (0, [.inr (.inr (some 67)), zN], []) M _
  have r1 := hC.rng 67 6 (by decide) (by decide)
  refine zG_w (c' := (5, [.inr (.inr (some 67)), zN], [.inl (M 67 6), .inr (.inr (some 67))])) 3 hd0 hz (by rfl) ?_
  refine zG_putf (.inl rfl) hd0 hz rfl (by decide) rfl rfl ?_
  obtain ⟨M2, hM2⟩ : ∃ X : zM, X = zput M 67 5 (M 67 6) := ⟨_, rfl⟩
  rw [← hM2]
  have hCM2 : qCI M2 := by rw [hM2]; exact hC.put (r := 67) (k := 5) rfl (.inl (by omega))
  have hWM2 : qFr [67] M M2 := by rw [hM2]; exact hW.put (by decide)
  have e3 : M2 67 6 = M 67 6 := by rw [hM2]; exact qput_nk (by decide)
  have e4 : M2 67 5 = (M 67 6) := by rw [hM2]; exact qput_eq
  show zG n (0, 0) d 93 (8, [.inr (.inr (some 67)), zN], []) M2 _
  have j8 : ∀ (N : Nat) (M5 : zM) , (M5 67 4 - M5 67 5 : Int).toNat < N → qCI M5 → qFr [67] M M5 → zG n (0, 0) d 93 (8, [.inr (.inr (some 67)), zN], []) M5 (fun v M' => qWf qCI [67] M M' ∧ qRn v) := by
    intro N
    induction N with
    | zero => intro M5 hN hCM5 hWM5; exact absurd hN (Nat.not_lt_zero _)
    | succ N ih8 =>
      intro M5 hN hCM5 hWM5
      replace hN : M5 67 4 - M5 67 5 < (N : Int) + 1 := by omega
      have r6 := hCM5.rng 67 5 (by decide) (by decide)
      have r7 := hCM5.rng 67 4 (by decide) (by decide)
      refine zG_w (c' := (16, [.inr (.inr (some 67)), zN], [.inl (M5 67 4), .inl (M5 67 5)])) 4 hd0 hz (by rfl) ?_
      have j45 : zG n (0, 0) d 93 (45, [.inr (.inr (some 67)), zN], []) M5 (fun v M' => qWf qCI [67] M M' ∧ qRn v) := by
        refine zG_w (c' := (50, [.inr (.inr (some 67)), zN], [.inl (M5 67 5), .inr (.inr (some 67))])) 3 hd0 hz (by rfl) ?_
        refine zG_putf (.inl rfl) hd0 hz rfl (by decide) rfl rfl ?_
        obtain ⟨M8, hM8⟩ : ∃ X : zM, X = zput M5 67 6 (M5 67 5) := ⟨_, rfl⟩
        rw [← hM8]
        have hCM8 : qCI M8 := by rw [hM8]; exact hCM5.put (r := 67) (k := 6) rfl (.inl (by omega))
        have hWM8 : qFr [67] M M8 := by rw [hM8]; exact hWM5.put (by decide)
        have e9 : M8 67 5 = M5 67 5 := by rw [hM8]; exact qput_nk (by decide)
        have e10 : M8 67 4 = M5 67 4 := by rw [hM8]; exact qput_nk (by decide)
        have e11 : M8 67 6 = (M5 67 5) := by rw [hM8]; exact qput_eq
        show zG n (0, 0) d 93 (53, [.inr (.inr (some 67)), zN], []) M8 _
        refine zG_w (c' := (61, [.inr (.inr (some 67)), zN], [.inl (M8 67 4), .inl (M8 67 5)])) 4 hd0 hz (by rfl) ?_
        have j161 : ∀ (M12 : zM) , qCI M12 → qFr [67] M M12 → zG n (0, 0) d 93 (161, [.inr (.inr (some 67)), zN], []) M12 (fun v M' => qWf qCI [67] M M' ∧ qRn v) := by
          intro M12 hCM12 hWM12
          exact zG_wr (r := none) 0 hd0 hz (by rfl) ⟨⟨hCM12, hWM12⟩, rfl⟩
        refine zG_wi_lt (pc := 61) (n' := 64) (t := 73) (L := [.inr (.inr (some 67)), zN]) (st := []) (x := (M8 67 5)) (y := (M8 67 4)) 0 hd0 hz (by rfl) (fun hb13 => ?_) (fun hb13 => ?_)
        · refine zG_wp (pc := 81) (L := [.inr (.inr (some 67)), zN]) (st := []) 3 hd0 hz zp_97 (qm_97_67 (by first | exact zdk hd rfl | omega) hCM8  (M8 67 5) (by omega)) (by rfl) (fun x15 hx15 => ?_)
          refine zG_wp (pc := 84) (L := [.inr (.inr (some 67)), zN]) (st := []) 0 hd0 hz zp_98 (qm_98 (by first | exact zdk hd rfl | omega) hCM8  x15 (by omega)) (by rfl) (fun x17 hx17 => ?_)
          refine zG_wf_eq (pc := 84) (n' := 87) (t := 94) (L := [.inr (.inr (some 67)), zN]) (st := []) (x := x17) 0 hd0 hz (by rfl) (fun hb18 => ?_) (fun hb18 => ?_)
          · refine zG_wp (pc := 102) (L := [.inr (.inr (some 67)), zN]) (st := []) 3 hd0 hz zp_97 (qm_97_67 (by first | exact zdk hd rfl | omega) hCM8  (M8 67 5) (by omega)) (by rfl) (fun x20 hx20 => ?_)
            refine zG_wp (pc := 105) (L := [.inr (.inr (some 67)), zN]) (st := []) 0 hd0 hz zp_99 (qm_99 (by first | exact zdk hd rfl | omega) hCM8  x20 (by omega)) (by rfl) (fun x22 hx22 => ?_)
            refine zG_wf_eq (pc := 105) (n' := 108) (t := 115) (L := [.inr (.inr (some 67)), zN]) (st := []) (x := x22) 0 hd0 hz (by rfl) (fun hb23 => ?_) (fun hb23 => ?_)
            · obtain ⟨x24, hx24⟩ : ∃ x : Int, x = w32 ((M8 67 5) + 1) := ⟨_, rfl⟩
              have hx24r : x24 = ((M8 67 5) + 1 + 2147483648) % 4294967296 - 2147483648 := hx24
              refine zG_w (c' := (122, [.inr (.inr (some 67)), zN], [.inl x24, .inr (.inr (some 67))])) 5 hd0 hz (by subst hx24; rfl) ?_
              refine zG_putf (.inl rfl) hd0 hz rfl (by decide) rfl rfl ?_
              obtain ⟨M25, hM25⟩ : ∃ X : zM, X = zput M8 67 6 x24 := ⟨_, rfl⟩
              rw [← hM25]
              have hCM25 : qCI M25 := by rw [hM25]; exact hCM8.put (r := 67) (k := 6) rfl (.inl (by omega))
              have hWM25 : qFr [67] M M25 := by rw [hM25]; exact hWM8.put (by decide)
              have e26 : M25 67 5 = M8 67 5 := by rw [hM25]; exact qput_nk (by decide)
              have e27 : M25 67 4 = M8 67 4 := by rw [hM25]; exact qput_nk (by decide)
              have e28 : M25 67 6 = x24 := by rw [hM25]; exact qput_eq
              show zG n (0, 0) d 93 (125, [.inr (.inr (some 67)), zN], []) M25 _
              refine zG_wp (pc := 135) (L := [.inr (.inr (some 67)), zN]) (st := [.inr (.inr (some 6))]) 4 hd0 hz zp_97 (qm_97_67 (by first | exact zdk hd rfl | omega) hCM25  (M25 67 5) (by omega)) (by rfl) (fun x30 hx30 => ?_)
              obtain ⟨x31, hx31⟩ : ∃ x : Int, x = x30 % 65536 := ⟨_, rfl⟩
              refine zG_wp (pc := 139) (L := [.inr (.inr (some 67)), zN]) (st := []) 1 hd0 hz zp_300 (qm_300_6 (by first | exact zdk hd rfl | omega) hCM25  x31 (by omega)) (by subst hx31; rfl) (fun x33 hx33 => ?_)
              obtain ⟨x34, hx34⟩ : ∃ x : Int, x = w32 (15 + x33) := ⟨_, rfl⟩
              have hx34e : x34 = 15 + x33 := by rw [hx34]; exact w32_id (by omega)
              refine zG_w (c' := (145, [.inr (.inr (some 67)), .inl x33], [.inl x34, .inr (.inr (some 67))])) 5 hd0 hz (by subst hx34; rfl) ?_
              refine zG_putf (.inl rfl) hd0 hz rfl (by decide) rfl rfl ?_
              obtain ⟨M35, hM35⟩ : ∃ X : zM, X = zput M25 67 7 x34 := ⟨_, rfl⟩
              rw [← hM35]
              have hCM35 : qCI M35 := by rw [hM35]; exact hCM25.put (r := 67) (k := 7) rfl (.inl (by omega))
              have hWM35 : qFr [67] M M35 := by rw [hM35]; exact hWM25.put (by decide)
              have e36 : M35 67 5 = M25 67 5 := by rw [hM35]; exact qput_nk (by decide)
              have e37 : M35 67 4 = M25 67 4 := by rw [hM35]; exact qput_nk (by decide)
              have e38 : M35 67 6 = M25 67 6 := by rw [hM35]; exact qput_nk (by decide)
              have e39 : M35 67 7 = x34 := by rw [hM35]; exact qput_eq
              show zG n (0, 0) d 93 (148, [.inr (.inr (some 67)), .inl x33], []) M35 _
              refine zG_w (c' := (150, [.inr (.inr (some 67)), .inl x33], [.inl x33, .inr (.inr (some 67))])) 2 hd0 hz (by rfl) ?_
              have j158 : ∀ (v40 : Int) , 0 ≤ v40 ∧ v40 ≤ 1 → zG n (0, 0) d 93 (158, [.inr (.inr (some 67)), .inl x33], [.inl v40, .inr (.inr (some 67))]) M35 (fun v M' => qWf qCI [67] M M' ∧ qRn v) := by
                intro v40 hv40
                refine zG_wv (pc := 161) (L := [.inr (.inr (some 67)), .inl x33]) (st := []) 0 hd0 hz zp_91 (qm_91_67 (by first | exact zdk hd rfl | omega) hCM35  v40 (by first | with_reducible exact hv40 | omega)) (by rfl) (fun M41 hr => ?_)
                obtain ⟨hCM41, hFM41⟩ := hr
                have hWM41 : qFr [67] M M41 := hWM35.tr hFM41 (by decide)
                exact zG_weak (j161 M41 hCM41 hWM41) ⟨.inr rfl, .inl rfl, trivial⟩
              refine zG_wf_lt (pc := 150) (n' := 153) (t := 157) (L := [.inr (.inr (some 67)), .inl x33]) (st := [.inr (.inr (some 67))]) (x := x33) 0 hd0 hz (by rfl) (fun hb43 => ?_) (fun hb43 => ?_)
              · refine zG_w (c' := (158, [.inr (.inr (some 67)), .inl x33], [.inl 0, .inr (.inr (some 67))])) 1 hd0 hz (by rfl) ?_
                exact j158 0 (by first | decide | omega)
              · refine zG_w (c' := (158, [.inr (.inr (some 67)), .inl x33], [.inl 1, .inr (.inr (some 67))])) 2 hd0 hz (by rfl) ?_
                exact j158 1 (by first | decide | omega)
            · refine zG_wv (pc := 112) (L := [.inr (.inr (some 67)), zN]) (st := []) 1 hd0 hz zp_95 (qm_95_67 (by first | exact zdk hd rfl | omega) hCM8  ) (by rfl) (fun M44 hr => ?_)
              obtain ⟨hCM44, hFM44⟩ := hr
              have hWM44 : qFr [67] M M44 := hWM8.tr hFM44 (by decide)
              refine zG_w (c' := (161, [.inr (.inr (some 67)), zN], [])) 1 hd0 hz (by rfl) ?_
              exact j161 M44 hCM44 hWM44
          · refine zG_wv (pc := 91) (L := [.inr (.inr (some 67)), zN]) (st := []) 1 hd0 hz zp_94 (qm_94_67 (by first | exact zdk hd rfl | omega) hCM8  ) (by rfl) (fun M46 hr => ?_)
            obtain ⟨hCM46, hFM46⟩ := hr
            have hWM46 : qFr [67] M M46 := hWM8.tr hFM46 (by decide)
            refine zG_w (c' := (161, [.inr (.inr (some 67)), zN], [])) 1 hd0 hz (by rfl) ?_
            exact j161 M46 hCM46 hWM46
        · refine zG_w (c' := (67, [.inr (.inr (some 67)), zN], [.inl 25, .inr (.inr (some 67))])) 2 hd0 hz (by rfl) ?_
          refine zG_putf (.inl rfl) hd0 hz rfl (by decide) rfl rfl ?_
          obtain ⟨M48, hM48⟩ : ∃ X : zM, X = zput M8 67 7 25 := ⟨_, rfl⟩
          rw [← hM48]
          have hCM48 : qCI M48 := by rw [hM48]; exact hCM8.put (r := 67) (k := 7) rfl (.inl (by omega))
          have hWM48 : qFr [67] M M48 := by rw [hM48]; exact hWM8.put (by decide)
          have e49 : M48 67 5 = M8 67 5 := by rw [hM48]; exact qput_nk (by decide)
          have e50 : M48 67 4 = M8 67 4 := by rw [hM48]; exact qput_nk (by decide)
          have e51 : M48 67 6 = M8 67 6 := by rw [hM48]; exact qput_nk (by decide)
          have e52 : M48 67 7 = 25 := by rw [hM48]; exact qput_eq
          show zG n (0, 0) d 93 (70, [.inr (.inr (some 67)), zN], []) M48 _
          refine zG_w (c' := (161, [.inr (.inr (some 67)), zN], [])) 1 hd0 hz (by rfl) ?_
          exact j161 M48 hCM48 hWM48
      refine zG_wi_ge (pc := 16) (n' := 19) (t := 45) (L := [.inr (.inr (some 67)), zN]) (st := []) (x := (M5 67 5)) (y := (M5 67 4)) 0 hd0 hz (by rfl) (fun hb53 => ?_) (fun hb53 => ?_)
      · exact j45
      · refine zG_wp (pc := 27) (L := [.inr (.inr (some 67)), zN]) (st := []) 3 hd0 hz zp_97 (qm_97_67 (by first | exact zdk hd rfl | omega) hCM5  (M5 67 5) (by omega)) (by rfl) (fun x55 hx55 => ?_)
        refine zG_wi_ne (pc := 29) (n' := 32) (t := 45) (L := [.inr (.inr (some 67)), zN]) (st := []) (x := x55) (y := 32) 1 hd0 hz (by rfl) (fun hb56 => ?_) (fun hb56 => ?_)
        · exact j45
        · obtain ⟨x57, hx57⟩ : ∃ x : Int, x = w32 ((M5 67 5) + 1) := ⟨_, rfl⟩
          have hx57r : x57 = ((M5 67 5) + 1 + 2147483648) % 4294967296 - 2147483648 := hx57
          refine zG_w (c' := (39, [.inr (.inr (some 67)), zN], [.inl x57, .inr (.inr (some 67))])) 5 hd0 hz (by subst hx57; rfl) ?_
          refine zG_putf (.inl rfl) hd0 hz rfl (by decide) rfl rfl ?_
          obtain ⟨M58, hM58⟩ : ∃ X : zM, X = zput M5 67 5 x57 := ⟨_, rfl⟩
          rw [← hM58]
          have hCM58 : qCI M58 := by rw [hM58]; exact hCM5.put (r := 67) (k := 5) rfl (.inl (by omega))
          have hWM58 : qFr [67] M M58 := by rw [hM58]; exact hWM5.put (by decide)
          have e59 : M58 67 4 = M5 67 4 := by rw [hM58]; exact qput_nk (by decide)
          have e60 : M58 67 5 = x57 := by rw [hM58]; exact qput_eq
          show zG n (0, 0) d 93 (42, [.inr (.inr (some 67)), zN], []) M58 _
          refine zG_w (c' := (8, [.inr (.inr (some 67)), zN], [])) 1 hd0 hz (by rfl) ?_
          exact ih8 M58 (by omega) hCM58 hWM58
  exact j8 ((M2 67 4 - M2 67 5 : Int).toNat + 1) M2 (by omega) hCM2 hWM2
theorem qm_87_67 {n d : Nat} {M : zM} (hd : 2 ≤ d) (hC : qCI M) (a1 : Int) (ha1 : (-2147483648) ≤ a1 ∧ a1 ≤ 2147483647) : qOkM n d 87 [.inr (.inr (some 67)), .inl a1] 2 qCI [70, 71] M qRn := by
  have hz := zp_87
  have hd0 : 0 < d := by omega
  have hW : qFr [70, 71] M M := qFr.rfl
  show zG n (0, 0) d 87 (0, [.inr (.inr (some 67)), .inl a1], []) M _
  refine zG_wn (pc := 11) (L := [.inr (.inr (some 67)), .inl a1]) (st := [.inr (.inr (some 70))]) 4 hd0 hz zp_103 (qw_open (by first | exact zdk hd rfl | omega) hC (⟨by decide, rfl, rfl⟩ : qT n 70 80 1) ) (by rfl) (fun x2 M1 hr hx2 => ?_)
  obtain ⟨hCM1, hFM1⟩ := hr
  have hWM1 : qFr [70, 71] M M1 := hW.tr hFM1 (by decide)
  refine zG_wv (pc := 16) (L := [.inr (.inr (some 67)), .inl a1]) (st := []) 2 hd0 hz zp_107 (qw_set (by first | exact zdk hd rfl | omega) hCM1 (⟨by decide, rfl, rfl⟩ : qT n 70 80 1) x2 (by omega) 0 (by first | decide | omega) a1 (by first | with_reducible exact ha1 | omega)) (by rfl) (fun M3 hr => ?_)
  obtain ⟨hCM3, hFM3⟩ := hr
  have hWM3 : qFr [70, 71] M M3 := hWM1.tr hFM3 (by decide)
  exact zG_wr (r := none) 0 hd0 hz (by rfl) ⟨⟨hCM3, hWM3⟩, rfl⟩
theorem qm_80_67 {n d : Nat} {M : zM} (hd : 3 ≤ d) (hC : qCI M)  : qOkM n d 80 [.inr (.inr (some 67))] 1 qCI [67, 70, 71] M qRn := by
  have hz := zp_80
  have hd0 : 0 < d := by omega
  have hW : qFr [67, 70, 71] M M := qFr.rfl
  show zG n (0, 0) d 80 (0, [.inr (.inr (some 67))], []) M _
  have r1 := hC.rng 67 9 (by decide) (by decide)
  refine zG_wi_lt (pc := 6) (n' := 9) (t := 15) (L := [.inr (.inr (some 67))]) (st := []) (x := (M 67 9)) (y := 8) 3 hd0 hz (by rfl) (fun hb2 => ?_) (fun hb2 => ?_)
  · obtain ⟨x3, hx3⟩ : ∃ x : Int, x = w32 ((M 67 9) + 1) := ⟨_, rfl⟩
    have hx3r : x3 = ((M 67 9) + 1 + 2147483648) % 4294967296 - 2147483648 := hx3
    refine zG_w (c' := (22, [.inr (.inr (some 67))], [.inl x3, .inr (.inr (some 67))])) 5 hd0 hz (by subst hx3; rfl) ?_
    refine zG_putf (.inl rfl) hd0 hz rfl (by decide) rfl rfl ?_
    obtain ⟨M4, hM4⟩ : ∃ X : zM, X = zput M 67 9 x3 := ⟨_, rfl⟩
    rw [← hM4]
    have hCM4 : qCI M4 := by rw [hM4]; exact hC.put (r := 67) (k := 9) rfl (.inl (by omega))
    have hWM4 : qFr [67, 70, 71] M M4 := by rw [hM4]; exact hW.put (by decide)
    have e5 : M4 67 9 = x3 := by rw [hM4]; exact qput_eq
    show zG n (0, 0) d 80 (25, [.inr (.inr (some 67))], []) M4 _
    refine zG_wv (pc := 31) (L := [.inr (.inr (some 67))]) (st := []) 2 hd0 hz zp_87 (qm_87_67 (by first | exact zdk hd rfl | omega) hCM4  22 (by first | decide | omega)) (by rfl) (fun M6 hr => ?_)
    obtain ⟨hCM6, hFM6⟩ := hr
    have hWM6 : qFr [67, 70, 71] M M6 := hWM4.tr hFM6 (by decide)
    have e8 : M6 67 9 = M4 67 9 := hFM6 67 9 (by decide)
    exact zG_wr (r := none) 0 hd0 hz (by rfl) ⟨⟨hCM6, hWM6⟩, rfl⟩
  · refine zG_wv (pc := 14) (L := [.inr (.inr (some 67))]) (st := []) 2 hd0 hz zp_92 (qm_92_67 (by first | exact zdk hd rfl | omega) hC  3 (by first | decide | omega)) (by rfl) (fun M9 hr => ?_)
    obtain ⟨hCM9, hFM9⟩ := hr
    have hWM9 : qFr [67, 70, 71] M M9 := hW.tr hFM9 (by decide)
    exact zG_wr (r := none) 0 hd0 hz (by rfl) ⟨⟨hCM9, hWM9⟩, rfl⟩
theorem qm_89_67 {n d : Nat} {M : zM} (hd : 2 ≤ d) (hC : qCI M) (a1 : Int) (ha1 : (-2147483648) ≤ a1 ∧ a1 ≤ 2147483647) : qOkM n d 89 [.inr (.inr (some 67)), .inl a1] 3 qCI [69] M qRn := by
  have hz := zp_89
  have hd0 : 0 < d := by omega
  have hW : qFr [69] M M := qFr.rfl
  show zG n (0, 0) d 89 (0, [.inr (.inr (some 67)), .inl a1, zN], []) M _
  refine zG_wp (pc := 9) (L := [.inr (.inr (some 67)), .inl a1, zN]) (st := []) 4 hd0 hz zp_106 (qw_get (by first | exact zdk hd rfl | omega) hC (⟨by decide, rfl, rfl⟩ : qT n 68 1 81) 0 (by first | decide | omega) 0 (by first | decide | omega)) (by rfl) (fun x2 hx2 => ?_)
  obtain ⟨x3, hx3⟩ : ∃ x : Int, x = w32 (1 + x2) := ⟨_, rfl⟩
  have hx3r : x3 = (1 + x2 + 2147483648) % 4294967296 - 2147483648 := hx3
  refine zG_wv (pc := 22) (L := [.inr (.inr (some 67)), .inl a1, .inl x2]) (st := []) 8 hd0 hz zp_107 (qw_set (by first | exact zdk hd rfl | omega) hC (⟨by decide, rfl, rfl⟩ : qT n 68 1 81) 0 (by first | decide | omega) x3 (by omega) a1 (by first | with_reducible exact ha1 | omega)) (by subst hx3; rfl) (fun M4 hr => ?_)
  obtain ⟨hCM4, hFM4⟩ := hr
  have hWM4 : qFr [69] M M4 := hW.tr hFM4 (by decide)
  obtain ⟨x6, hx6⟩ : ∃ x : Int, x = w32 (x2 + 1) := ⟨_, rfl⟩
  have hx6r : x6 = (x2 + 1 + 2147483648) % 4294967296 - 2147483648 := hx6
  refine zG_wv (pc := 34) (L := [.inr (.inr (some 67)), .inl a1, .inl x2]) (st := []) 7 hd0 hz zp_107 (qw_set (by first | exact zdk hd rfl | omega) hCM4 (⟨by decide, rfl, rfl⟩ : qT n 68 1 81) 0 (by first | decide | omega) 0 (by first | decide | omega) x6 (by omega)) (by subst hx6; rfl) (fun M7 hr => ?_)
  obtain ⟨hCM7, hFM7⟩ := hr
  have hWM7 : qFr [69] M M7 := hWM4.tr hFM7 (by decide)
  exact zG_wr (r := none) 0 hd0 hz (by rfl) ⟨⟨hCM7, hWM7⟩, rfl⟩
theorem qm_79_67 {n d : Nat} {M : zM} (hd : 3 ≤ d) (hC : qCI M)  : qOkM n d 79 [.inr (.inr (some 67))] 1 qCI [67, 69] M qRn := by
  have hz := zp_79
  have hd0 : 0 < d := by omega
  have hW : qFr [67, 69] M M := qFr.rfl
  show zG n (0, 0) d 79 (0, [.inr (.inr (some 67))], []) M _
  have r1 := hC.rng 67 6 (by decide) (by decide)
  have r2 := hC.rng 67 5 (by decide) (by decide)
  obtain ⟨x3, hx3⟩ : ∃ x : Int, x = w32 ((M 67 6) - (M 67 5)) := ⟨_, rfl⟩
  have hx3r : x3 = ((M 67 6) - (M 67 5) + 2147483648) % 4294967296 - 2147483648 := hx3
  refine zG_wi_le (pc := 11) (n' := 14) (t := 20) (L := [.inr (.inr (some 67))]) (st := []) (x := x3) (y := 6) 6 hd0 hz (by subst hx3; rfl) (fun hb4 => ?_) (fun hb4 => ?_)
  · have r5 := hC.rng 67 8 (by decide) (by decide)
    refine zG_wv (pc := 28) (L := [.inr (.inr (some 67))]) (st := []) 3 hd0 hz zp_89 (qm_89_67 (by first | exact zdk hd rfl | omega) hC  (M 67 8) (by omega)) (by rfl) (fun M6 hr => ?_)
    obtain ⟨hCM6, hFM6⟩ := hr
    have hWM6 : qFr [67, 69] M M6 := hW.tr hFM6 (by decide)
    have e8 : M6 67 6 = M 67 6 := hFM6 67 6 (by decide)
    have e9 : M6 67 5 = M 67 5 := hFM6 67 5 (by decide)
    have e10 : M6 67 8 = M 67 8 := hFM6 67 8 (by decide)
    refine zG_w (c' := (30, [.inr (.inr (some 67))], [.inl 0, .inr (.inr (some 67))])) 2 hd0 hz (by rfl) ?_
    refine zG_putf (.inr ⟨rfl, by omega⟩) hd0 hz rfl (by decide) rfl rfl ?_
    obtain ⟨M11, hM11⟩ : ∃ X : zM, X = zput M6 67 11 0 := ⟨_, rfl⟩
    rw [← hM11]
    have hCM11 : qCI M11 := by rw [hM11]; exact hCM6.put (r := 67) (k := 11) rfl (.inl (by omega))
    have hWM11 : qFr [67, 69] M M11 := by rw [hM11]; exact hWM6.put (by decide)
    have e12 : M11 67 6 = M6 67 6 := by rw [hM11]; exact qput_nk (by decide)
    have e13 : M11 67 5 = M6 67 5 := by rw [hM11]; exact qput_nk (by decide)
    have e14 : M11 67 8 = M6 67 8 := by rw [hM11]; exact qput_nk (by decide)
    have e15 : M11 67 11 = 0 := by rw [hM11]; exact qput_eq
    show zG n (0, 0) d 79 (33, [.inr (.inr (some 67))], []) M11 _
    exact zG_wr (r := none) 0 hd0 hz (by rfl) ⟨⟨hCM11, hWM11⟩, rfl⟩
  · refine zG_wv (pc := 19) (L := [.inr (.inr (some 67))]) (st := []) 2 hd0 hz zp_92 (qm_92_67 (by first | exact zdk hd rfl | omega) hC  2 (by first | decide | omega)) (by rfl) (fun M16 hr => ?_)
    obtain ⟨hCM16, hFM16⟩ := hr
    have hWM16 : qFr [67, 69] M M16 := hW.tr hFM16 (by decide)
    exact zG_wr (r := none) 0 hd0 hz (by rfl) ⟨⟨hCM16, hWM16⟩, rfl⟩
theorem qm_77_67 {n d : Nat} {M : zM} (hd : 4 ≤ d) (hC : qCI M)  : qOkM n d 77 [.inr (.inr (some 67))] 1 qCI [67, 69, 70, 71] M qRn := by
  have hz := zp_77
  have hd0 : 0 < d := by omega
  have hW : qFr [67, 69, 70, 71] M M := qFr.rfl
  show zG n (0, 0) d 77 (0, [.inr (.inr (some 67))], []) M _
  have r1 := hC.rng 67 7 (by decide) (by decide)
  refine zG_w (c' := (4, [.inr (.inr (some 67))], [.inl (M 67 7)])) 2 hd0 hz (by rfl) ?_
  have j157 : ∀ (M2 : zM) , qCI M2 → qFr [67, 69, 70, 71] M M2 → zG n (0, 0) d 77 (157, [.inr (.inr (some 67))], []) M2 (fun v M' => qWf qCI [67, 69, 70, 71] M M' ∧ qRn v) := by
    intro M2 hCM2 hWM2
    exact zG_wr (r := none) 0 hd0 hz (by rfl) ⟨⟨hCM2, hWM2⟩, rfl⟩
  have j100 : zG n (0, 0) d 77 (100, [.inr (.inr (some 67))], []) M (fun v M' => qWf qCI [67, 69, 70, 71] M M' ∧ qRn v) := by
    refine zG_wv (pc := 104) (L := [.inr (.inr (some 67))]) (st := []) 1 hd0 hz zp_79 (qm_79_67 (by first | exact zdk hd rfl | omega) hC  ) (by rfl) (fun M3 hr => ?_)
    obtain ⟨hCM3, hFM3⟩ := hr
    have hWM3 : qFr [67, 69, 70, 71] M M3 := hW.tr hFM3 (by decide)
    refine zG_w (c' := (157, [.inr (.inr (some 67))], [])) 1 hd0 hz (by rfl) ?_
    exact j157 M3 hCM3 hWM3
  have j107 : zG n (0, 0) d 77 (107, [.inr (.inr (some 67))], []) M (fun v M' => qWf qCI [67, 69, 70, 71] M M' ∧ qRn v) := by
    obtain ⟨x5, hx5⟩ : ∃ x : Int, x = zbxor (M 67 7) (-1) := ⟨_, rfl⟩
    have hx5r : qin x5 := by rw [hx5]; exact qb32 _
    refine zG_wv (pc := 117) (L := [.inr (.inr (some 67))]) (st := []) 5 hd0 hz zp_89 (qm_89_67 (by first | exact zdk hd rfl | omega) hC  x5 (by omega)) (by subst hx5; rfl) (fun M6 hr => ?_)
    obtain ⟨hCM6, hFM6⟩ := hr
    have hWM6 : qFr [67, 69, 70, 71] M M6 := hW.tr hFM6 (by decide)
    have e8 : M6 67 7 = M 67 7 := hFM6 67 7 (by decide)
    refine zG_w (c' := (119, [.inr (.inr (some 67))], [.inl 0, .inr (.inr (some 67))])) 2 hd0 hz (by rfl) ?_
    refine zG_putf (.inr ⟨rfl, by omega⟩) hd0 hz rfl (by decide) rfl rfl ?_
    obtain ⟨M9, hM9⟩ : ∃ X : zM, X = zput M6 67 11 0 := ⟨_, rfl⟩
    rw [← hM9]
    have hCM9 : qCI M9 := by rw [hM9]; exact hCM6.put (r := 67) (k := 11) rfl (.inl (by omega))
    have hWM9 : qFr [67, 69, 70, 71] M M9 := by rw [hM9]; exact hWM6.put (by decide)
    have e10 : M9 67 7 = M6 67 7 := by rw [hM9]; exact qput_nk (by decide)
    have e11 : M9 67 11 = 0 := by rw [hM9]; exact qput_eq
    show zG n (0, 0) d 77 (122, [.inr (.inr (some 67))], []) M9 _
    refine zG_w (c' := (157, [.inr (.inr (some 67))], [])) 1 hd0 hz (by rfl) ?_
    exact j157 M9 hCM9 hWM9
  have j125 : zG n (0, 0) d 77 (125, [.inr (.inr (some 67))], []) M (fun v M' => qWf qCI [67, 69, 70, 71] M M' ∧ qRn v) := by
    refine zG_wv (pc := 133) (L := [.inr (.inr (some 67))]) (st := []) 3 hd0 hz zp_87 (qm_87_67 (by first | exact zdk hd rfl | omega) hC  (M 67 7) (by omega)) (by rfl) (fun M12 hr => ?_)
    obtain ⟨hCM12, hFM12⟩ := hr
    have hWM12 : qFr [67, 69, 70, 71] M M12 := hW.tr hFM12 (by decide)
    have e14 : M12 67 7 = M 67 7 := hFM12 67 7 (by decide)
    refine zG_w (c' := (157, [.inr (.inr (some 67))], [])) 1 hd0 hz (by rfl) ?_
    exact j157 M12 hCM12 hWM12
  have j136 : zG n (0, 0) d 77 (136, [.inr (.inr (some 67))], []) M (fun v M' => qWf qCI [67, 69, 70, 71] M M' ∧ qRn v) := by
    refine zG_wv (pc := 142) (L := [.inr (.inr (some 67))]) (st := []) 2 hd0 hz zp_87 (qm_87_67 (by first | exact zdk hd rfl | omega) hC  26 (by first | decide | omega)) (by rfl) (fun M15 hr => ?_)
    obtain ⟨hCM15, hFM15⟩ := hr
    have hWM15 : qFr [67, 69, 70, 71] M M15 := hW.tr hFM15 (by decide)
    have e17 : M15 67 7 = M 67 7 := hFM15 67 7 (by decide)
    refine zG_w (c' := (157, [.inr (.inr (some 67))], [])) 1 hd0 hz (by rfl) ?_
    exact j157 M15 hCM15 hWM15
  have j145 : zG n (0, 0) d 77 (145, [.inr (.inr (some 67))], []) M (fun v M' => qWf qCI [67, 69, 70, 71] M M' ∧ qRn v) := by
    refine zG_wv (pc := 149) (L := [.inr (.inr (some 67))]) (st := []) 1 hd0 hz zp_80 (qm_80_67 (by first | exact zdk hd rfl | omega) hC  ) (by rfl) (fun M18 hr => ?_)
    obtain ⟨hCM18, hFM18⟩ := hr
    have hWM18 : qFr [67, 69, 70, 71] M M18 := hW.tr hFM18 (by decide)
    refine zG_w (c' := (157, [.inr (.inr (some 67))], [])) 1 hd0 hz (by rfl) ?_
    exact j157 M18 hCM18 hWM18
  have j152 : zG n (0, 0) d 77 (152, [.inr (.inr (some 67))], []) M (fun v M' => qWf qCI [67, 69, 70, 71] M M' ∧ qRn v) := by
    refine zG_wv (pc := 157) (L := [.inr (.inr (some 67))]) (st := []) 2 hd0 hz zp_92 (qm_92_67 (by first | exact zdk hd rfl | omega) hC  1 (by first | decide | omega)) (by rfl) (fun M20 hr => ?_)
    obtain ⟨hCM20, hFM20⟩ := hr
    have hWM20 : qFr [67, 69, 70, 71] M M20 := hW.tr hFM20 (by decide)
    exact j157 M20 hCM20 hWM20
  refine zG_sw hd0 hz rfl ?_
  refine zts_all (P := fun t => zG n (0, 0) d 77 (t, [.inr (.inr (some 67))], []) M _) ?_ ?_
  · exact j152
  · intro t ht
    simp only [List.mem_cons, List.not_mem_nil, or_false] at ht
    rcases ht with rfl | rfl | rfl | rfl | rfl | rfl | rfl | rfl | rfl | rfl | rfl | rfl | rfl | rfl | rfl | rfl | rfl | rfl | rfl | rfl
    · exact j125
    · exact j125
    · exact j107
    · exact j107
    · exact j107
    · exact j107
    · exact j107
    · exact j107
    · exact j107
    · exact j107
    · exact j152
    · exact j152
    · exact j152
    · exact j152
    · exact j136
    · exact j152
    · exact j152
    · exact j145
    · exact j152
    · exact j100
theorem qm_88_67 {n d : Nat} {M : zM} (hd : 2 ≤ d) (hC : qCI M)  : qOkP n d 88 [.inr (.inr (some 67))] 1 M (qRi (fun x => (-2147483648) ≤ x ∧ x ≤ 2147483647)) := by
  have hz := zp_88
  have hd0 : 0 < d := by omega
  show zG n (0, 0) d 88 (0, [.inr (.inr (some 67))], []) M _
  refine zG_wp (pc := 11) (L := [.inr (.inr (some 67))]) (st := [.inr (.inr (some 70))]) 4 hd0 hz zp_101 (qw_size (by first | exact zdk hd rfl | omega) hC (⟨by decide, rfl, rfl⟩ : qT n 70 80 1) ) (by rfl) (fun x2 hx2 => ?_)
  obtain ⟨x3, hx3⟩ : ∃ x : Int, x = w32 (x2 - 1) := ⟨_, rfl⟩
  have hx3e : x3 = x2 - 1 := by rw [hx3]; exact w32_id (by omega)
  refine zG_wp (pc := 17) (L := [.inr (.inr (some 67))]) (st := []) 3 hd0 hz zp_106 (qw_get (by first | exact zdk hd rfl | omega) hC (⟨by decide, rfl, rfl⟩ : qT n 70 80 1) x3 (by omega) 0 (by first | decide | omega)) (by subst hx3; rfl) (fun x5 hx5 => ?_)
  exact zG_wr (r := some (.inl x5)) 0 hd0 hz (by rfl) ⟨rfl, _, rfl, by omega⟩
theorem qm_90 {n d : Nat} {M : zM} (hd : 1 ≤ d) (hC : qCI M) (a0 : Int) (ha0 : (-2147483648) ≤ a0 ∧ a0 ≤ 2147483647) : qOkP n d 90 [.inl a0] 1 M (qRi (fun x => (-2147483648) ≤ x ∧ x ≤ 2147483647)) := by
  have hz := zp_90
  have hd0 : 0 < d := by omega
  show zG n (0, 0) d 90 (0, [.inl a0], []) M _
  refine zG_w (c' := (1, [.inl a0], [.inl a0])) 1 hd0 hz (by rfl) ?_
  have j21 : ∀ (v1 : Int) , (-2147483648) ≤ v1 ∧ v1 ≤ 2147483647 → zG n (0, 0) d 90 (21, [.inl a0], [.inl v1]) M (fun v M' => M' = M ∧ qRi (fun x => (-2147483648) ≤ x ∧ x ≤ 2147483647) v) := by
    intro v1 hv1
    exact zG_wr (r := some (.inl v1)) 0 hd0 hz (by rfl) ⟨rfl, _, rfl, by omega⟩
  have j20 : zG n (0, 0) d 90 (20, [.inl a0], []) M (fun v M' => M' = M ∧ qRi (fun x => (-2147483648) ≤ x ∧ x ≤ 2147483647) v) := by
    refine zG_w (c' := (21, [.inl a0], [.inl 0])) 1 hd0 hz (by rfl) ?_
    exact j21 0 (by first | decide | omega)
  refine zG_wf_lt (pc := 1) (n' := 4) (t := 20) (L := [.inl a0]) (st := []) (x := a0) 0 hd0 hz (by rfl) (fun hb2 => ?_) (fun hb2 => ?_)
  · exact j20
  · refine zG_wi_ge (pc := 9) (n' := 12) (t := 20) (L := [.inl a0]) (st := []) (x := a0) (y := 27) 3 hd0 hz (by rfl) (fun hb3 => ?_) (fun hb3 => ?_)
    · exact j20
    · refine zG_w (c' := (16, [.inl a0], [.inl a0, .inr (.inr (some 1))])) 2 hd0 hz (by rfl) ?_
      refine zG_iald hd0 hz rfl rfl (.inr rfl) (by omega) ?_
      have hx4 := hC.rng 1 (a0 : Int).toNat (by decide) (by decide)
      generalize M 1 (a0 : Int).toNat = x4 at hx4 ⊢
      show zG n (0, 0) d 90 (17, [.inl a0], [.inl x4]) M _
      refine zG_w (c' := (21, [.inl a0], [.inl x4])) 1 hd0 hz (by rfl) ?_
      exact j21 x4 (by omega)
theorem qm_84_67 {n d : Nat} {M : zM} (hd : 3 ≤ d) (hC : qCI M) (a1 : Int) (ha1 : (-2147483648) ≤ a1 ∧ a1 ≤ 2147483647) : qOkM n d 84 [.inr (.inr (some 67)), .inl a1] 3 qCI [69, 70] M qRn := by
  have hz := zp_84
  have hd0 : 0 < d := by omega
  have hW : qFr [69, 70] M M := qFr.rfl
  show zG n (0, 0) d 84 (0, [.inr (.inr (some 67)), .inl a1, zN], []) M _
  refine zG_wp (pc := 7) (L := [.inr (.inr (some 67)), .inl a1, zN]) (st := []) 2 hd0 hz zp_101 (qw_size (by first | exact zdk hd rfl | omega) hC (⟨by decide, rfl, rfl⟩ : qT n 70 80 1) ) (by rfl) (fun x2 hx2 => ?_)
  refine zG_w (c' := (8, [.inr (.inr (some 67)), .inl a1, .inl x2], [])) 1 hd0 hz (by rfl) ?_
  have j8 : ∀ (N : Nat) (v3 : Int) (M4 : zM) , (v3 : Int).toNat < N → 0 ≤ v3 ∧ v3 ≤ 80 → qCI M4 → qFr [69, 70] M M4 → zG n (0, 0) d 84 (8, [.inr (.inr (some 67)), .inl a1, .inl v3], []) M4 (fun v M' => qWf qCI [69, 70] M M' ∧ qRn v) := by
    intro N
    induction N with
    | zero => intro v3 M4 hN hv3 hCM4 hWM4; exact absurd hN (Nat.not_lt_zero _)
    | succ N ih8 =>
      intro v3 M4 hN hv3 hCM4 hWM4
      replace hN : v3 < (N : Int) + 1 := by omega
      refine zG_w (c' := (9, [.inr (.inr (some 67)), .inl a1, .inl v3], [.inl v3])) 1 hd0 hz (by rfl) ?_
      have j46 : zG n (0, 0) d 84 (46, [.inr (.inr (some 67)), .inl a1, .inl v3], []) M4 (fun v M' => qWf qCI [69, 70] M M' ∧ qRn v) := by
        exact zG_wr (r := none) 0 hd0 hz (by rfl) ⟨⟨hCM4, hWM4⟩, rfl⟩
      refine zG_wf_le (pc := 9) (n' := 12) (t := 46) (L := [.inr (.inr (some 67)), .inl a1, .inl v3]) (st := []) (x := v3) 0 hd0 hz (by rfl) (fun hb5 => ?_) (fun hb5 => ?_)
      · exact j46
      · refine zG_wp (pc := 16) (L := [.inr (.inr (some 67)), .inl a1, .inl v3]) (st := []) 1 hd0 hz zp_88 (qm_88_67 (by first | exact zdk hd rfl | omega) hCM4  ) (by rfl) (fun x7 hx7 => ?_)
        refine zG_wp (pc := 19) (L := [.inr (.inr (some 67)), .inl a1, .inl v3]) (st := []) 0 hd0 hz zp_90 (qm_90 (by first | exact zdk hd rfl | omega) hCM4  x7 (by omega)) (by rfl) (fun x9 hx9 => ?_)
        refine zG_wi_lt (pc := 20) (n' := 23) (t := 46) (L := [.inr (.inr (some 67)), .inl a1, .inl v3]) (st := []) (x := x9) (y := a1) 1 hd0 hz (by rfl) (fun hb10 => ?_) (fun hb10 => ?_)
        · exact j46
        · refine zG_wp (pc := 28) (L := [.inr (.inr (some 67)), .inl a1, .inl v3]) (st := [.inr (.inr (some 67))]) 2 hd0 hz zp_88 (qm_88_67 (by first | exact zdk hd rfl | omega) hCM4  ) (by rfl) (fun x12 hx12 => ?_)
          obtain ⟨x13, hx13⟩ : ∃ x : Int, x = zbxor x12 (-1) := ⟨_, rfl⟩
          have hx13r : qin x13 := by rw [hx13]; exact qb32 _
          refine zG_wv (pc := 33) (L := [.inr (.inr (some 67)), .inl a1, .inl v3]) (st := []) 2 hd0 hz zp_89 (qm_89_67 (by first | exact zdk hd rfl | omega) hCM4  x13 (by omega)) (by subst hx13; rfl) (fun M14 hr => ?_)
          obtain ⟨hCM14, hFM14⟩ := hr
          have hWM14 : qFr [69, 70] M M14 := hWM4.tr hFM14 (by decide)
          refine zG_wv (pc := 40) (L := [.inr (.inr (some 67)), .inl a1, .inl v3]) (st := []) 2 hd0 hz zp_105 (qw_dropLast (by first | exact zdk hd rfl | omega) hCM14 (⟨by decide, rfl, rfl⟩ : qT n 70 80 1) ) (by rfl) (fun M16 hr => ?_)
          obtain ⟨hCM16, hFM16⟩ := hr
          have hWM16 : qFr [69, 70] M M16 := hWM14.tr hFM16 (by decide)
          obtain ⟨x18, hx18⟩ : ∃ x : Int, x = w32 (v3 + (-1)) := ⟨_, rfl⟩
          have hx18e : x18 = v3 + (-1) := by rw [hx18]; exact w32_id (by omega)
          refine zG_w (c' := (8, [.inr (.inr (some 67)), .inl a1, .inl x18], [])) 2 hd0 hz (by subst hx18; rfl) ?_
          exact ih8 x18 M16 (by omega) (by omega) hCM16 hWM16
  exact j8 ((x2 : Int).toNat + 1) x2 M (by omega) (by omega) hC hW
theorem qm_83_67 {n d : Nat} {M : zM} (hd : 4 ≤ d) (hC : qCI M)  : qOkM n d 83 [.inr (.inr (some 67))] 1 qCI [67, 69, 70] M qRn := by
  have hz := zp_83
  have hd0 : 0 < d := by omega
  have hW : qFr [67, 69, 70] M M := qFr.rfl
  show zG n (0, 0) d 83 (0, [.inr (.inr (some 67))], []) M _
  refine zG_wv (pc := 5) (L := [.inr (.inr (some 67))]) (st := []) 2 hd0 hz zp_84 (qm_84_67 (by first | exact zdk hd rfl | omega) hC  3 (by first | decide | omega)) (by rfl) (fun M1 hr => ?_)
  obtain ⟨hCM1, hFM1⟩ := hr
  have hWM1 : qFr [67, 69, 70] M M1 := hW.tr hFM1 (by decide)
  refine zG_wp (pc := 10) (L := [.inr (.inr (some 67))]) (st := [.inr (.inr (some 67))]) 2 hd0 hz zp_88 (qm_88_67 (by first | exact zdk hd rfl | omega) hCM1  ) (by rfl) (fun x4 hx4 => ?_)
  refine zG_w (c' := (11, [.inr (.inr (some 67))], [.inl 1, .inl x4, .inr (.inr (some 67))])) 1 hd0 hz (by rfl) ?_
  have j19 : ∀ (v5 : Int) , 0 ≤ v5 ∧ v5 ≤ 1 → zG n (0, 0) d 83 (19, [.inr (.inr (some 67))], [.inl v5, .inr (.inr (some 67))]) M1 (fun v M' => qWf qCI [67, 69, 70] M M' ∧ qRn v) := by
    intro v5 hv5
    refine zG_wv (pc := 22) (L := [.inr (.inr (some 67))]) (st := []) 0 hd0 hz zp_91 (qm_91_67 (by first | exact zdk hd rfl | omega) hCM1  v5 (by first | with_reducible exact hv5 | omega)) (by rfl) (fun M6 hr => ?_)
    obtain ⟨hCM6, hFM6⟩ := hr
    have hWM6 : qFr [67, 69, 70] M M6 := hWM1.tr hFM6 (by decide)
    refine zG_wv (pc := 27) (L := [.inr (.inr (some 67))]) (st := []) 2 hd0 hz zp_84 (qm_84_67 (by first | exact zdk hd rfl | omega) hCM6  1 (by first | decide | omega)) (by rfl) (fun M8 hr => ?_)
    obtain ⟨hCM8, hFM8⟩ := hr
    have hWM8 : qFr [67, 69, 70] M M8 := hWM6.tr hFM8 (by decide)
    exact zG_wr (r := none) 0 hd0 hz (by rfl) ⟨⟨hCM8, hWM8⟩, rfl⟩
  refine zG_wi_eq (pc := 11) (n' := 14) (t := 18) (L := [.inr (.inr (some 67))]) (st := [.inr (.inr (some 67))]) (x := x4) (y := 1) 0 hd0 hz (by rfl) (fun hb10 => ?_) (fun hb10 => ?_)
  · refine zG_w (c' := (19, [.inr (.inr (some 67))], [.inl 0, .inr (.inr (some 67))])) 1 hd0 hz (by rfl) ?_
    exact j19 0 (by first | decide | omega)
  · refine zG_w (c' := (19, [.inr (.inr (some 67))], [.inl 1, .inr (.inr (some 67))])) 2 hd0 hz (by rfl) ?_
    exact j19 1 (by first | decide | omega)
theorem qm_81_67 {n d : Nat} {M : zM} (hd : 3 ≤ d) (hC : qCI M)  : qOkM n d 81 [.inr (.inr (some 67))] 1 qCI [67, 70] M qRn := by
  have hz := zp_81
  have hd0 : 0 < d := by omega
  have hW : qFr [67, 70] M M := qFr.rfl
  show zG n (0, 0) d 81 (0, [.inr (.inr (some 67))], []) M _
  refine zG_wp (pc := 5) (L := [.inr (.inr (some 67))]) (st := [.inr (.inr (some 67))]) 2 hd0 hz zp_88 (qm_88_67 (by first | exact zdk hd rfl | omega) hC  ) (by rfl) (fun x2 hx2 => ?_)
  refine zG_w (c' := (7, [.inr (.inr (some 67))], [.inl 22, .inl x2, .inr (.inr (some 67))])) 1 hd0 hz (by rfl) ?_
  have j15 : ∀ (v3 : Int) , 0 ≤ v3 ∧ v3 ≤ 1 → zG n (0, 0) d 81 (15, [.inr (.inr (some 67))], [.inl v3, .inr (.inr (some 67))]) M (fun v M' => qWf qCI [67, 70] M M' ∧ qRn v) := by
    intro v3 hv3
    refine zG_wv (pc := 18) (L := [.inr (.inr (some 67))]) (st := []) 0 hd0 hz zp_91 (qm_91_67 (by first | exact zdk hd rfl | omega) hC  v3 (by first | with_reducible exact hv3 | omega)) (by rfl) (fun M4 hr => ?_)
    obtain ⟨hCM4, hFM4⟩ := hr
    have hWM4 : qFr [67, 70] M M4 := hW.tr hFM4 (by decide)
    have r6 := hCM4.rng 67 10 (by decide) (by decide)
    refine zG_w (c' := (23, [.inr (.inr (some 67))], [.inl (-1), .inl (M4 67 10)])) 3 hd0 hz (by rfl) ?_
    have j43 : ∀ (M7 : zM) , qCI M7 → qFr [67, 70] M M7 → zG n (0, 0) d 81 (43, [.inr (.inr (some 67))], []) M7 (fun v M' => qWf qCI [67, 70] M M' ∧ qRn v) := by
      intro M7 hCM7 hWM7
      exact zG_wr (r := none) 0 hd0 hz (by rfl) ⟨⟨hCM7, hWM7⟩, rfl⟩
    refine zG_wi_ne (pc := 23) (n' := 26) (t := 43) (L := [.inr (.inr (some 67))]) (st := []) (x := (M4 67 10)) (y := (-1)) 0 hd0 hz (by rfl) (fun hb8 => ?_) (fun hb8 => ?_)
    · exact j43 M4 hCM4 hWM4
    · have r9 := hCM4.rng 67 9 (by decide) (by decide)
      obtain ⟨x10, hx10⟩ : ∃ x : Int, x = w32 ((M4 67 9) - 1) := ⟨_, rfl⟩
      have hx10r : x10 = ((M4 67 9) - 1 + 2147483648) % 4294967296 - 2147483648 := hx10
      refine zG_w (c' := (33, [.inr (.inr (some 67))], [.inl x10, .inr (.inr (some 67))])) 5 hd0 hz (by subst hx10; rfl) ?_
      refine zG_putf (.inl rfl) hd0 hz rfl (by decide) rfl rfl ?_
      obtain ⟨M11, hM11⟩ : ∃ X : zM, X = zput M4 67 9 x10 := ⟨_, rfl⟩
      rw [← hM11]
      have hCM11 : qCI M11 := by rw [hM11]; exact hCM4.put (r := 67) (k := 9) rfl (.inl (by omega))
      have hWM11 : qFr [67, 70] M M11 := by rw [hM11]; exact hWM4.put (by decide)
      have e12 : M11 67 10 = M4 67 10 := by rw [hM11]; exact qput_nk (by decide)
      have e13 : M11 67 9 = x10 := by rw [hM11]; exact qput_eq
      show zG n (0, 0) d 81 (36, [.inr (.inr (some 67))], []) M11 _
      refine zG_wv (pc := 43) (L := [.inr (.inr (some 67))]) (st := []) 2 hd0 hz zp_105 (qw_dropLast (by first | exact zdk hd rfl | omega) hCM11 (⟨by decide, rfl, rfl⟩ : qT n 70 80 1) ) (by rfl) (fun M14 hr => ?_)
      obtain ⟨hCM14, hFM14⟩ := hr
      have hWM14 : qFr [67, 70] M M14 := hWM11.tr hFM14 (by decide)
      have e16 : M14 67 10 = M11 67 10 := hFM14 67 10 (by decide)
      have e17 : M14 67 9 = M11 67 9 := hFM14 67 9 (by decide)
      exact j43 M14 hCM14 hWM14
  refine zG_wi_ne (pc := 7) (n' := 10) (t := 14) (L := [.inr (.inr (some 67))]) (st := [.inr (.inr (some 67))]) (x := x2) (y := 22) 0 hd0 hz (by rfl) (fun hb18 => ?_) (fun hb18 => ?_)
  · refine zG_w (c' := (15, [.inr (.inr (some 67))], [.inl 0, .inr (.inr (some 67))])) 1 hd0 hz (by rfl) ?_
    exact j15 0 (by first | decide | omega)
  · refine zG_w (c' := (15, [.inr (.inr (some 67))], [.inl 1, .inr (.inr (some 67))])) 2 hd0 hz (by rfl) ?_
    exact j15 1 (by first | decide | omega)
theorem qm_86_67 {n d : Nat} {M : zM} (hd : 3 ≤ d) (hC : qCI M)  : qOkM n d 86 [.inr (.inr (some 67))] 1 qCI [67, 70, 71] M qRn := by
  have hz := zp_86
  have hd0 : 0 < d := by omega
  have hW : qFr [67, 70, 71] M M := qFr.rfl
  show zG n (0, 0) d 86 (0, [.inr (.inr (some 67))], []) M _
  have r1 := hC.rng 67 7 (by decide) (by decide)
  refine zG_wv (pc := 8) (L := [.inr (.inr (some 67))]) (st := []) 3 hd0 hz zp_87 (qm_87_67 (by first | exact zdk hd rfl | omega) hC  (M 67 7) (by omega)) (by rfl) (fun M2 hr => ?_)
  obtain ⟨hCM2, hFM2⟩ := hr
  have hWM2 : qFr [67, 70, 71] M M2 := hW.tr hFM2 (by decide)
  have e4 : M2 67 7 = M 67 7 := hFM2 67 7 (by decide)
  refine zG_w (c' := (10, [.inr (.inr (some 67))], [.inl 1, .inr (.inr (some 67))])) 2 hd0 hz (by rfl) ?_
  refine zG_putf (.inr ⟨rfl, by omega⟩) hd0 hz rfl (by decide) rfl rfl ?_
  obtain ⟨M5, hM5⟩ : ∃ X : zM, X = zput M2 67 11 1 := ⟨_, rfl⟩
  rw [← hM5]
  have hCM5 : qCI M5 := by rw [hM5]; exact hCM2.put (r := 67) (k := 11) rfl (.inl (by omega))
  have hWM5 : qFr [67, 70, 71] M M5 := by rw [hM5]; exact hWM2.put (by decide)
  have e6 : M5 67 7 = M2 67 7 := by rw [hM5]; exact qput_nk (by decide)
  have e7 : M5 67 11 = 1 := by rw [hM5]; exact qput_eq
  show zG n (0, 0) d 86 (13, [.inr (.inr (some 67))], []) M5 _
  exact zG_wr (r := none) 0 hd0 hz (by rfl) ⟨⟨hCM5, hWM5⟩, rfl⟩
theorem qm_85_67 {n d : Nat} {M : zM} (hd : 4 ≤ d) (hC : qCI M) (a1 : Int) (ha1 : 0 ≤ a1 ∧ a1 ≤ 1) : qOkM n d 85 [.inr (.inr (some 67)), .inl a1] 2 qCI [67, 70, 71] M qRn := by
  have hz := zp_85
  have hd0 : 0 < d := by omega
  have hW : qFr [67, 70, 71] M M := qFr.rfl
  show zG n (0, 0) d 85 (0, [.inr (.inr (some 67)), .inl a1], []) M _
  refine zG_w (c' := (2, [.inr (.inr (some 67)), .inl a1], [.inl a1, .inr (.inr (some 67))])) 2 hd0 hz (by rfl) ?_
  have j10 : ∀ (v1 : Int) , 0 ≤ v1 ∧ v1 ≤ 1 → zG n (0, 0) d 85 (10, [.inr (.inr (some 67)), .inl a1], [.inl v1, .inr (.inr (some 67))]) M (fun v M' => qWf qCI [67, 70, 71] M M' ∧ qRn v) := by
    intro v1 hv1
    refine zG_wv (pc := 13) (L := [.inr (.inr (some 67)), .inl a1]) (st := []) 0 hd0 hz zp_91 (qm_91_67 (by first | exact zdk hd rfl | omega) hC  v1 (by first | with_reducible exact hv1 | omega)) (by rfl) (fun M2 hr => ?_)
    obtain ⟨hCM2, hFM2⟩ := hr
    have hWM2 : qFr [67, 70, 71] M M2 := hW.tr hFM2 (by decide)
    refine zG_wv (pc := 17) (L := [.inr (.inr (some 67)), .inl a1]) (st := []) 1 hd0 hz zp_86 (qm_86_67 (by first | exact zdk hd rfl | omega) hCM2  ) (by rfl) (fun M4 hr => ?_)
    obtain ⟨hCM4, hFM4⟩ := hr
    have hWM4 : qFr [67, 70, 71] M M4 := hWM2.tr hFM4 (by decide)
    exact zG_wr (r := none) 0 hd0 hz (by rfl) ⟨⟨hCM4, hWM4⟩, rfl⟩
  refine zG_wf_ne (pc := 2) (n' := 5) (t := 9) (L := [.inr (.inr (some 67)), .inl a1]) (st := [.inr (.inr (some 67))]) (x := a1) 0 hd0 hz (by rfl) (fun hb6 => ?_) (fun hb6 => ?_)
  · refine zG_w (c' := (10, [.inr (.inr (some 67)), .inl a1], [.inl 0, .inr (.inr (some 67))])) 1 hd0 hz (by rfl) ?_
    exact j10 0 (by first | decide | omega)
  · refine zG_w (c' := (10, [.inr (.inr (some 67)), .inl a1], [.inl 1, .inr (.inr (some 67))])) 2 hd0 hz (by rfl) ?_
    exact j10 1 (by first | decide | omega)
theorem qm_82_67 {n d : Nat} {M : zM} (hd : 3 ≤ d) (hC : qCI M)  : qOkM n d 82 [.inr (.inr (some 67))] 1 qCI [67, 71] M qRn := by
  have hz := zp_82
  have hd0 : 0 < d := by omega
  have hW : qFr [67, 71] M M := qFr.rfl
  show zG n (0, 0) d 82 (0, [.inr (.inr (some 67))], []) M _
  refine zG_wp (pc := 5) (L := [.inr (.inr (some 67))]) (st := [.inr (.inr (some 67))]) 2 hd0 hz zp_88 (qm_88_67 (by first | exact zdk hd rfl | omega) hC  ) (by rfl) (fun x2 hx2 => ?_)
  refine zG_w (c' := (6, [.inr (.inr (some 67))], [.inl 1, .inl x2, .inr (.inr (some 67))])) 1 hd0 hz (by rfl) ?_
  have j14 : ∀ (v3 : Int) , 0 ≤ v3 ∧ v3 ≤ 1 → zG n (0, 0) d 82 (14, [.inr (.inr (some 67))], [.inl v3, .inr (.inr (some 67))]) M (fun v M' => qWf qCI [67, 71] M M' ∧ qRn v) := by
    intro v3 hv3
    refine zG_wv (pc := 17) (L := [.inr (.inr (some 67))]) (st := []) 0 hd0 hz zp_91 (qm_91_67 (by first | exact zdk hd rfl | omega) hC  v3 (by first | with_reducible exact hv3 | omega)) (by rfl) (fun M4 hr => ?_)
    obtain ⟨hCM4, hFM4⟩ := hr
    have hWM4 : qFr [67, 71] M M4 := hW.tr hFM4 (by decide)
    refine zG_wp (pc := 28) (L := [.inr (.inr (some 67))]) (st := [.inr (.inr (some 70))]) 4 hd0 hz zp_101 (qw_size (by first | exact zdk hd rfl | omega) hCM4 (⟨by decide, rfl, rfl⟩ : qT n 70 80 1) ) (by rfl) (fun x7 hx7 => ?_)
    obtain ⟨x8, hx8⟩ : ∃ x : Int, x = w32 (x7 - 1) := ⟨_, rfl⟩
    have hx8e : x8 = x7 - 1 := by rw [hx8]; exact w32_id (by omega)
    refine zG_wv (pc := 35) (L := [.inr (.inr (some 67))]) (st := []) 4 hd0 hz zp_107 (qw_set (by first | exact zdk hd rfl | omega) hCM4 (⟨by decide, rfl, rfl⟩ : qT n 70 80 1) x8 (by omega) 0 (by first | decide | omega) 2 (by first | decide | omega)) (by subst hx8; rfl) (fun M9 hr => ?_)
    obtain ⟨hCM9, hFM9⟩ := hr
    have hWM9 : qFr [67, 71] M M9 := hWM4.tr hFM9 (by decide)
    refine zG_w (c' := (37, [.inr (.inr (some 67))], [.inl 1, .inr (.inr (some 67))])) 2 hd0 hz (by rfl) ?_
    refine zG_putf (.inr ⟨rfl, by omega⟩) hd0 hz rfl (by decide) rfl rfl ?_
    obtain ⟨M11, hM11⟩ : ∃ X : zM, X = zput M9 67 11 1 := ⟨_, rfl⟩
    rw [← hM11]
    have hCM11 : qCI M11 := by rw [hM11]; exact hCM9.put (r := 67) (k := 11) rfl (.inl (by omega))
    have hWM11 : qFr [67, 71] M M11 := by rw [hM11]; exact hWM9.put (by decide)
    have e12 : M11 67 11 = 1 := by rw [hM11]; exact qput_eq
    show zG n (0, 0) d 82 (40, [.inr (.inr (some 67))], []) M11 _
    exact zG_wr (r := none) 0 hd0 hz (by rfl) ⟨⟨hCM11, hWM11⟩, rfl⟩
  refine zG_wi_ne (pc := 6) (n' := 9) (t := 13) (L := [.inr (.inr (some 67))]) (st := [.inr (.inr (some 67))]) (x := x2) (y := 1) 0 hd0 hz (by rfl) (fun hb13 => ?_) (fun hb13 => ?_)
  · refine zG_w (c' := (14, [.inr (.inr (some 67))], [.inl 0, .inr (.inr (some 67))])) 1 hd0 hz (by rfl) ?_
    exact j14 0 (by first | decide | omega)
  · refine zG_w (c' := (14, [.inr (.inr (some 67))], [.inl 1, .inr (.inr (some 67))])) 2 hd0 hz (by rfl) ?_
    exact j14 1 (by first | decide | omega)
theorem qm_78_67 {n d : Nat} {M : zM} (hd : 5 ≤ d) (hC : qCI M)  : qOkM n d 78 [.inr (.inr (some 67))] 1 qCI [67, 69, 70, 71] M qRn := by
  have hz := zp_78
  have hd0 : 0 < d := by omega
  have hW : qFr [67, 69, 70, 71] M M := qFr.rfl
  show zG n (0, 0) d 78 (0, [.inr (.inr (some 67))], []) M _
  have r1 := hC.rng 67 7 (by decide) (by decide)
  refine zG_w (c' := (4, [.inr (.inr (some 67))], [.inl (M 67 7)])) 2 hd0 hz (by rfl) ?_
  have j274 : ∀ (M2 : zM) , qCI M2 → qFr [67, 69, 70, 71] M M2 → zG n (0, 0) d 78 (274, [.inr (.inr (some 67))], []) M2 (fun v M' => qWf qCI [67, 69, 70, 71] M M' ∧ qRn v) := by
    intro M2 hCM2 hWM2
    exact zG_wr (r := none) 0 hd0 hz (by rfl) ⟨⟨hCM2, hWM2⟩, rfl⟩
  have j124 : zG n (0, 0) d 78 (124, [.inr (.inr (some 67))], []) M (fun v M' => qWf qCI [67, 69, 70, 71] M M' ∧ qRn v) := by
    refine zG_wp (pc := 132) (L := [.inr (.inr (some 67))]) (st := [.inr (.inr (some 67))]) 3 hd0 hz zp_90 (qm_90 (by first | exact zdk hd rfl | omega) hC  (M 67 7) (by omega)) (by rfl) (fun x4 hx4 => ?_)
    refine zG_wv (pc := 135) (L := [.inr (.inr (some 67))]) (st := []) 0 hd0 hz zp_84 (qm_84_67 (by first | exact zdk hd rfl | omega) hC  x4 (by omega)) (by rfl) (fun M5 hr => ?_)
    obtain ⟨hCM5, hFM5⟩ := hr
    have hWM5 : qFr [67, 69, 70, 71] M M5 := hW.tr hFM5 (by decide)
    have e7 : M5 67 7 = M 67 7 := hFM5 67 7 (by decide)
    refine zG_wv (pc := 139) (L := [.inr (.inr (some 67))]) (st := []) 1 hd0 hz zp_86 (qm_86_67 (by first | exact zdk hd rfl | omega) hCM5  ) (by rfl) (fun M8 hr => ?_)
    obtain ⟨hCM8, hFM8⟩ := hr
    have hWM8 : qFr [67, 69, 70, 71] M M8 := hWM5.tr hFM8 (by decide)
    refine zG_w (c' := (274, [.inr (.inr (some 67))], [])) 1 hd0 hz (by rfl) ?_
    exact j274 M8 hCM8 hWM8
  have j142 : zG n (0, 0) d 78 (142, [.inr (.inr (some 67))], []) M (fun v M' => qWf qCI [67, 69, 70, 71] M M' ∧ qRn v) := by
    refine zG_wv (pc := 148) (L := [.inr (.inr (some 67))]) (st := []) 2 hd0 hz zp_84 (qm_84_67 (by first | exact zdk hd rfl | omega) hC  6 (by first | decide | omega)) (by rfl) (fun M10 hr => ?_)
    obtain ⟨hCM10, hFM10⟩ := hr
    have hWM10 : qFr [67, 69, 70, 71] M M10 := hW.tr hFM10 (by decide)
    have e12 : M10 67 7 = M 67 7 := hFM10 67 7 (by decide)
    refine zG_wp (pc := 153) (L := [.inr (.inr (some 67))]) (st := [.inr (.inr (some 67))]) 2 hd0 hz zp_88 (qm_88_67 (by first | exact zdk hd rfl | omega) hCM10  ) (by rfl) (fun x14 hx14 => ?_)
    refine zG_wp (pc := 156) (L := [.inr (.inr (some 67))]) (st := [.inr (.inr (some 67))]) 0 hd0 hz zp_90 (qm_90 (by first | exact zdk hd rfl | omega) hCM10  x14 (by omega)) (by rfl) (fun x16 hx16 => ?_)
    refine zG_w (c' := (157, [.inr (.inr (some 67))], [.inl 5, .inl x16, .inr (.inr (some 67))])) 1 hd0 hz (by rfl) ?_
    have j165 : ∀ (v17 : Int) , 0 ≤ v17 ∧ v17 ≤ 1 → zG n (0, 0) d 78 (165, [.inr (.inr (some 67))], [.inl v17, .inr (.inr (some 67))]) M10 (fun v M' => qWf qCI [67, 69, 70, 71] M M' ∧ qRn v) := by
      intro v17 hv17
      refine zG_wv (pc := 168) (L := [.inr (.inr (some 67))]) (st := []) 0 hd0 hz zp_85 (qm_85_67 (by first | exact zdk hd rfl | omega) hCM10  v17 (by first | with_reducible exact hv17 | omega)) (by rfl) (fun M18 hr => ?_)
      obtain ⟨hCM18, hFM18⟩ := hr
      have hWM18 : qFr [67, 69, 70, 71] M M18 := hWM10.tr hFM18 (by decide)
      refine zG_w (c' := (274, [.inr (.inr (some 67))], [])) 1 hd0 hz (by rfl) ?_
      exact j274 M18 hCM18 hWM18
    refine zG_wi_ne (pc := 157) (n' := 160) (t := 164) (L := [.inr (.inr (some 67))]) (st := [.inr (.inr (some 67))]) (x := x16) (y := 5) 0 hd0 hz (by rfl) (fun hb20 => ?_) (fun hb20 => ?_)
    · refine zG_w (c' := (165, [.inr (.inr (some 67))], [.inl 0, .inr (.inr (some 67))])) 1 hd0 hz (by rfl) ?_
      exact j165 0 (by first | decide | omega)
    · refine zG_w (c' := (165, [.inr (.inr (some 67))], [.inl 1, .inr (.inr (some 67))])) 2 hd0 hz (by rfl) ?_
      exact j165 1 (by first | decide | omega)
  have j171 : zG n (0, 0) d 78 (171, [.inr (.inr (some 67))], []) M (fun v M' => qWf qCI [67, 69, 70, 71] M M' ∧ qRn v) := by
    refine zG_wv (pc := 176) (L := [.inr (.inr (some 67))]) (st := []) 2 hd0 hz zp_84 (qm_84_67 (by first | exact zdk hd rfl | omega) hC  3 (by first | decide | omega)) (by rfl) (fun M21 hr => ?_)
    obtain ⟨hCM21, hFM21⟩ := hr
    have hWM21 : qFr [67, 69, 70, 71] M M21 := hW.tr hFM21 (by decide)
    have e23 : M21 67 7 = M 67 7 := hFM21 67 7 (by decide)
    refine zG_wp (pc := 181) (L := [.inr (.inr (some 67))]) (st := [.inr (.inr (some 67))]) 2 hd0 hz zp_88 (qm_88_67 (by first | exact zdk hd rfl | omega) hCM21  ) (by rfl) (fun x25 hx25 => ?_)
    refine zG_w (c' := (182, [.inr (.inr (some 67))], [.inl 1, .inl x25, .inr (.inr (some 67))])) 1 hd0 hz (by rfl) ?_
    have j190 : ∀ (v26 : Int) , 0 ≤ v26 ∧ v26 ≤ 1 → zG n (0, 0) d 78 (190, [.inr (.inr (some 67))], [.inl v26, .inr (.inr (some 67))]) M21 (fun v M' => qWf qCI [67, 69, 70, 71] M M' ∧ qRn v) := by
      intro v26 hv26
      refine zG_wv (pc := 193) (L := [.inr (.inr (some 67))]) (st := []) 0 hd0 hz zp_85 (qm_85_67 (by first | exact zdk hd rfl | omega) hCM21  v26 (by first | with_reducible exact hv26 | omega)) (by rfl) (fun M27 hr => ?_)
      obtain ⟨hCM27, hFM27⟩ := hr
      have hWM27 : qFr [67, 69, 70, 71] M M27 := hWM21.tr hFM27 (by decide)
      refine zG_w (c' := (274, [.inr (.inr (some 67))], [])) 1 hd0 hz (by rfl) ?_
      exact j274 M27 hCM27 hWM27
    refine zG_wi_ne (pc := 182) (n' := 185) (t := 189) (L := [.inr (.inr (some 67))]) (st := [.inr (.inr (some 67))]) (x := x25) (y := 1) 0 hd0 hz (by rfl) (fun hb29 => ?_) (fun hb29 => ?_)
    · refine zG_w (c' := (190, [.inr (.inr (some 67))], [.inl 0, .inr (.inr (some 67))])) 1 hd0 hz (by rfl) ?_
      exact j190 0 (by first | decide | omega)
    · refine zG_w (c' := (190, [.inr (.inr (some 67))], [.inl 1, .inr (.inr (some 67))])) 2 hd0 hz (by rfl) ?_
      exact j190 1 (by first | decide | omega)
  have j196 : zG n (0, 0) d 78 (196, [.inr (.inr (some 67))], []) M (fun v M' => qWf qCI [67, 69, 70, 71] M M' ∧ qRn v) := by
    refine zG_wv (pc := 201) (L := [.inr (.inr (some 67))]) (st := []) 2 hd0 hz zp_84 (qm_84_67 (by first | exact zdk hd rfl | omega) hC  3 (by first | decide | omega)) (by rfl) (fun M30 hr => ?_)
    obtain ⟨hCM30, hFM30⟩ := hr
    have hWM30 : qFr [67, 69, 70, 71] M M30 := hW.tr hFM30 (by decide)
    have e32 : M30 67 7 = M 67 7 := hFM30 67 7 (by decide)
    refine zG_wv (pc := 205) (L := [.inr (.inr (some 67))]) (st := []) 1 hd0 hz zp_82 (qm_82_67 (by first | exact zdk hd rfl | omega) hCM30  ) (by rfl) (fun M33 hr => ?_)
    obtain ⟨hCM33, hFM33⟩ := hr
    have hWM33 : qFr [67, 69, 70, 71] M M33 := hWM30.tr hFM33 (by decide)
    refine zG_w (c' := (274, [.inr (.inr (some 67))], [])) 1 hd0 hz (by rfl) ?_
    exact j274 M33 hCM33 hWM33
  have j208 : zG n (0, 0) d 78 (208, [.inr (.inr (some 67))], []) M (fun v M' => qWf qCI [67, 69, 70, 71] M M' ∧ qRn v) := by
    refine zG_wv (pc := 212) (L := [.inr (.inr (some 67))]) (st := []) 1 hd0 hz zp_83 (qm_83_67 (by first | exact zdk hd rfl | omega) hC  ) (by rfl) (fun M35 hr => ?_)
    obtain ⟨hCM35, hFM35⟩ := hr
    have hWM35 : qFr [67, 69, 70, 71] M M35 := hW.tr hFM35 (by decide)
    have r37 := hCM35.rng 67 10 (by decide) (by decide)
    refine zG_w (c' := (218, [.inr (.inr (some 67))], [.inl (-1), .inl (M35 67 10), .inr (.inr (some 67))])) 4 hd0 hz (by rfl) ?_
    have j226 : ∀ (v38 : Int) , 0 ≤ v38 ∧ v38 ≤ 1 → zG n (0, 0) d 78 (226, [.inr (.inr (some 67))], [.inl v38, .inr (.inr (some 67))]) M35 (fun v M' => qWf qCI [67, 69, 70, 71] M M' ∧ qRn v) := by
      intro v38 hv38
      refine zG_wv (pc := 229) (L := [.inr (.inr (some 67))]) (st := []) 0 hd0 hz zp_85 (qm_85_67 (by first | exact zdk hd rfl | omega) hCM35  v38 (by first | with_reducible exact hv38 | omega)) (by rfl) (fun M39 hr => ?_)
      obtain ⟨hCM39, hFM39⟩ := hr
      have hWM39 : qFr [67, 69, 70, 71] M M39 := hWM35.tr hFM39 (by decide)
      refine zG_w (c' := (274, [.inr (.inr (some 67))], [])) 1 hd0 hz (by rfl) ?_
      exact j274 M39 hCM39 hWM39
    refine zG_wi_eq (pc := 218) (n' := 221) (t := 225) (L := [.inr (.inr (some 67))]) (st := [.inr (.inr (some 67))]) (x := (M35 67 10)) (y := (-1)) 0 hd0 hz (by rfl) (fun hb41 => ?_) (fun hb41 => ?_)
    · refine zG_w (c' := (226, [.inr (.inr (some 67))], [.inl 0, .inr (.inr (some 67))])) 1 hd0 hz (by rfl) ?_
      exact j226 0 (by first | decide | omega)
    · refine zG_w (c' := (226, [.inr (.inr (some 67))], [.inl 1, .inr (.inr (some 67))])) 2 hd0 hz (by rfl) ?_
      exact j226 1 (by first | decide | omega)
  have j232 : zG n (0, 0) d 78 (232, [.inr (.inr (some 67))], []) M (fun v M' => qWf qCI [67, 69, 70, 71] M M' ∧ qRn v) := by
    refine zG_wv (pc := 236) (L := [.inr (.inr (some 67))]) (st := []) 1 hd0 hz zp_83 (qm_83_67 (by first | exact zdk hd rfl | omega) hC  ) (by rfl) (fun M42 hr => ?_)
    obtain ⟨hCM42, hFM42⟩ := hr
    have hWM42 : qFr [67, 69, 70, 71] M M42 := hW.tr hFM42 (by decide)
    refine zG_wv (pc := 240) (L := [.inr (.inr (some 67))]) (st := []) 1 hd0 hz zp_81 (qm_81_67 (by first | exact zdk hd rfl | omega) hCM42  ) (by rfl) (fun M44 hr => ?_)
    obtain ⟨hCM44, hFM44⟩ := hr
    have hWM44 : qFr [67, 69, 70, 71] M M44 := hWM42.tr hFM44 (by decide)
    refine zG_w (c' := (274, [.inr (.inr (some 67))], [])) 1 hd0 hz (by rfl) ?_
    exact j274 M44 hCM44 hWM44
  have j243 : zG n (0, 0) d 78 (243, [.inr (.inr (some 67))], []) M (fun v M' => qWf qCI [67, 69, 70, 71] M M' ∧ qRn v) := by
    refine zG_wv (pc := 247) (L := [.inr (.inr (some 67))]) (st := []) 1 hd0 hz zp_83 (qm_83_67 (by first | exact zdk hd rfl | omega) hC  ) (by rfl) (fun M46 hr => ?_)
    obtain ⟨hCM46, hFM46⟩ := hr
    have hWM46 : qFr [67, 69, 70, 71] M M46 := hW.tr hFM46 (by decide)
    refine zG_wp (pc := 255) (L := [.inr (.inr (some 67))]) (st := [.inr (.inr (some 67))]) 3 hd0 hz zp_101 (qw_size (by first | exact zdk hd rfl | omega) hCM46 (⟨by decide, rfl, rfl⟩ : qT n 70 80 1) ) (by rfl) (fun x49 hx49 => ?_)
    have j263 : ∀ (v50 : Int) , 0 ≤ v50 ∧ v50 ≤ 1 → zG n (0, 0) d 78 (263, [.inr (.inr (some 67))], [.inl v50, .inr (.inr (some 67))]) M46 (fun v M' => qWf qCI [67, 69, 70, 71] M M' ∧ qRn v) := by
      intro v50 hv50
      refine zG_wv (pc := 266) (L := [.inr (.inr (some 67))]) (st := []) 0 hd0 hz zp_91 (qm_91_67 (by first | exact zdk hd rfl | omega) hCM46  v50 (by first | with_reducible exact hv50 | omega)) (by rfl) (fun M51 hr => ?_)
      obtain ⟨hCM51, hFM51⟩ := hr
      have hWM51 : qFr [67, 69, 70, 71] M M51 := hWM46.tr hFM51 (by decide)
      refine zG_w (c' := (274, [.inr (.inr (some 67))], [])) 1 hd0 hz (by rfl) ?_
      exact j274 M51 hCM51 hWM51
    refine zG_wf_ne (pc := 255) (n' := 258) (t := 262) (L := [.inr (.inr (some 67))]) (st := [.inr (.inr (some 67))]) (x := x49) 0 hd0 hz (by rfl) (fun hb53 => ?_) (fun hb53 => ?_)
    · refine zG_w (c' := (263, [.inr (.inr (some 67))], [.inl 0, .inr (.inr (some 67))])) 1 hd0 hz (by rfl) ?_
      exact j263 0 (by first | decide | omega)
    · refine zG_w (c' := (263, [.inr (.inr (some 67))], [.inl 1, .inr (.inr (some 67))])) 2 hd0 hz (by rfl) ?_
      exact j263 1 (by first | decide | omega)
  have j269 : zG n (0, 0) d 78 (269, [.inr (.inr (some 67))], []) M (fun v M' => qWf qCI [67, 69, 70, 71] M M' ∧ qRn v) := by
    refine zG_wv (pc := 274) (L := [.inr (.inr (some 67))]) (st := []) 2 hd0 hz zp_92 (qm_92_67 (by first | exact zdk hd rfl | omega) hC  1 (by first | decide | omega)) (by rfl) (fun M54 hr => ?_)
    obtain ⟨hCM54, hFM54⟩ := hr
    have hWM54 : qFr [67, 69, 70, 71] M M54 := hW.tr hFM54 (by decide)
    exact j274 M54 hCM54 hWM54
  refine zG_sw hd0 hz rfl ?_
  refine zts_all (P := fun t => zG n (0, 0) d 78 (t, [.inr (.inr (some 67))], []) M _) ?_ ?_
  · exact j269
  · intro t ht
    simp only [List.mem_cons, List.not_mem_nil, or_false] at ht
    rcases ht with rfl | rfl | rfl | rfl | rfl | rfl | rfl | rfl | rfl | rfl | rfl | rfl | rfl | rfl | rfl | rfl | rfl | rfl | rfl | rfl | rfl | rfl | rfl | rfl | rfl | rfl
    · exact j208
    · exact j171
    · exact j196
    · exact j124
    · exact j124
    · exact j269
    · exact j269
    · exact j269
    · exact j269
    · exact j269
    · exact j269
    · exact j269
    · exact j269
    · exact j269
    · exact j269
    · exact j142
    · exact j142
    · exact j142
    · exact j124
    · exact j124
    · exact j124
    · exact j124
    · exact j269
    · exact j232
    · exact j269
    · exact j243
theorem qm_75_67 {n d : Nat} {M : zM} (hd : 8 ≤ d) (hC : qCI M) (a1 : Int) (ha1 : (-2147483648) ≤ a1 ∧ a1 ≤ 2147483647) : qOkM n d 75 [.inr (.inr (some 67)), .inl a1] 3 qCI [67, 69, 70, 71] M (qRi (fun x => (-2147483648) ≤ x ∧ x ≤ 2147483647)) := by
  have hz := zp_75
  have hd0 : 0 < d := by omega
  have hW : qFr [67, 69, 70, 71] M M := qFr.rfl
  show zG n (0, 0) d 75 (0, [.inr (.inr (some 67)), .inl a1, zN], []) M _
  refine zG_w (c' := (2, [.inr (.inr (some 67)), .inl a1, zN], [.inl a1, .inr (.inr (some 67))])) 2 hd0 hz (by rfl) ?_
  refine zG_putf (.inl rfl) hd0 hz rfl (by decide) rfl rfl ?_
  obtain ⟨M1, hM1⟩ : ∃ X : zM, X = zput M 67 3 a1 := ⟨_, rfl⟩
  rw [← hM1]
  have hCM1 : qCI M1 := by rw [hM1]; exact hC.put (r := 67) (k := 3) rfl (.inl (by omega))
  have hWM1 : qFr [67, 69, 70, 71] M M1 := by rw [hM1]; exact hW.put (by decide)
  have e2 : M1 67 3 = a1 := by rw [hM1]; exact qput_eq
  show zG n (0, 0) d 75 (5, [.inr (.inr (some 67)), .inl a1, zN], []) M1 _
  refine zG_wp (pc := 15) (L := [.inr (.inr (some 67)), .inl a1, zN]) (st := [.inr (.inr (some 67))]) 5 hd0 hz zp_106 (qw_get (by first | exact zdk hd rfl | omega) hCM1 (⟨by decide, rfl, rfl⟩ : qT n 20 8 81) a1 (by first | with_reducible exact ha1 | omega) 0 (by first | decide | omega)) (by rfl) (fun x4 hx4 => ?_)
  refine zG_putf (.inl rfl) hd0 hz rfl (by decide) rfl rfl ?_
  obtain ⟨M5, hM5⟩ : ∃ X : zM, X = zput M1 67 4 x4 := ⟨_, rfl⟩
  rw [← hM5]
  have hCM5 : qCI M5 := by rw [hM5]; exact hCM1.put (r := 67) (k := 4) rfl (.inl (by omega))
  have hWM5 : qFr [67, 69, 70, 71] M M5 := by rw [hM5]; exact hWM1.put (by decide)
  have e6 : M5 67 3 = M1 67 3 := by rw [hM5]; exact qput_nk (by decide)
  have e7 : M5 67 4 = x4 := by rw [hM5]; exact qput_eq
  show zG n (0, 0) d 75 (18, [.inr (.inr (some 67)), .inl a1, zN], []) M5 _
  refine zG_w (c' := (20, [.inr (.inr (some 67)), .inl a1, zN], [.inl 0, .inr (.inr (some 67))])) 2 hd0 hz (by rfl) ?_
  refine zG_putf (.inl rfl) hd0 hz rfl (by decide) rfl rfl ?_
  obtain ⟨M8, hM8⟩ : ∃ X : zM, X = zput M5 67 6 0 := ⟨_, rfl⟩
  rw [← hM8]
  have hCM8 : qCI M8 := by rw [hM8]; exact hCM5.put (r := 67) (k := 6) rfl (.inl (by omega))
  have hWM8 : qFr [67, 69, 70, 71] M M8 := by rw [hM8]; exact hWM5.put (by decide)
  have e9 : M8 67 3 = M5 67 3 := by rw [hM8]; exact qput_nk (by decide)
  have e10 : M8 67 4 = M5 67 4 := by rw [hM8]; exact qput_nk (by decide)
  have e11 : M8 67 6 = 0 := by rw [hM8]; exact qput_eq
  show zG n (0, 0) d 75 (23, [.inr (.inr (some 67)), .inl a1, zN], []) M8 _
  refine zG_w (c' := (25, [.inr (.inr (some 67)), .inl a1, zN], [.inl 0, .inr (.inr (some 67))])) 2 hd0 hz (by rfl) ?_
  refine zG_putf (.inl rfl) hd0 hz rfl (by decide) rfl rfl ?_
  obtain ⟨M12, hM12⟩ : ∃ X : zM, X = zput M8 67 9 0 := ⟨_, rfl⟩
  rw [← hM12]
  have hCM12 : qCI M12 := by rw [hM12]; exact hCM8.put (r := 67) (k := 9) rfl (.inl (by omega))
  have hWM12 : qFr [67, 69, 70, 71] M M12 := by rw [hM12]; exact hWM8.put (by decide)
  have e13 : M12 67 3 = M8 67 3 := by rw [hM12]; exact qput_nk (by decide)
  have e14 : M12 67 4 = M8 67 4 := by rw [hM12]; exact qput_nk (by decide)
  have e15 : M12 67 6 = M8 67 6 := by rw [hM12]; exact qput_nk (by decide)
  have e16 : M12 67 9 = 0 := by rw [hM12]; exact qput_eq
  show zG n (0, 0) d 75 (28, [.inr (.inr (some 67)), .inl a1, zN], []) M12 _
  refine zG_w (c' := (30, [.inr (.inr (some 67)), .inl a1, zN], [.inl (-1), .inr (.inr (some 67))])) 2 hd0 hz (by rfl) ?_
  refine zG_putf (.inl rfl) hd0 hz rfl (by decide) rfl rfl ?_
  obtain ⟨M17, hM17⟩ : ∃ X : zM, X = zput M12 67 10 (-1) := ⟨_, rfl⟩
  rw [← hM17]
  have hCM17 : qCI M17 := by rw [hM17]; exact hCM12.put (r := 67) (k := 10) rfl (.inl (by omega))
  have hWM17 : qFr [67, 69, 70, 71] M M17 := by rw [hM17]; exact hWM12.put (by decide)
  have e18 : M17 67 3 = M12 67 3 := by rw [hM17]; exact qput_nk (by decide)
  have e19 : M17 67 4 = M12 67 4 := by rw [hM17]; exact qput_nk (by decide)
  have e20 : M17 67 6 = M12 67 6 := by rw [hM17]; exact qput_nk (by decide)
  have e21 : M17 67 9 = M12 67 9 := by rw [hM17]; exact qput_nk (by decide)
  have e22 : M17 67 10 = (-1) := by rw [hM17]; exact qput_eq
  show zG n (0, 0) d 75 (33, [.inr (.inr (some 67)), .inl a1, zN], []) M17 _
  refine zG_w (c' := (36, [.inr (.inr (some 67)), .inl a1, zN], [.inl 24, .inr (.inr (some 67))])) 2 hd0 hz (by rfl) ?_
  refine zG_putf (.inl rfl) hd0 hz rfl (by decide) rfl rfl ?_
  obtain ⟨M23, hM23⟩ : ∃ X : zM, X = zput M17 67 7 24 := ⟨_, rfl⟩
  rw [← hM23]
  have hCM23 : qCI M23 := by rw [hM23]; exact hCM17.put (r := 67) (k := 7) rfl (.inl (by omega))
  have hWM23 : qFr [67, 69, 70, 71] M M23 := by rw [hM23]; exact hWM17.put (by decide)
  have e24 : M23 67 3 = M17 67 3 := by rw [hM23]; exact qput_nk (by decide)
  have e25 : M23 67 4 = M17 67 4 := by rw [hM23]; exact qput_nk (by decide)
  have e26 : M23 67 6 = M17 67 6 := by rw [hM23]; exact qput_nk (by decide)
  have e27 : M23 67 9 = M17 67 9 := by rw [hM23]; exact qput_nk (by decide)
  have e28 : M23 67 10 = M17 67 10 := by rw [hM23]; exact qput_nk (by decide)
  have e29 : M23 67 7 = 24 := by rw [hM23]; exact qput_eq
  show zG n (0, 0) d 75 (39, [.inr (.inr (some 67)), .inl a1, zN], []) M23 _
  refine zG_w (c' := (41, [.inr (.inr (some 67)), .inl a1, zN], [.inl 1, .inr (.inr (some 67))])) 2 hd0 hz (by rfl) ?_
  refine zG_putf (.inr ⟨rfl, by omega⟩) hd0 hz rfl (by decide) rfl rfl ?_
  obtain ⟨M30, hM30⟩ : ∃ X : zM, X = zput M23 67 11 1 := ⟨_, rfl⟩
  rw [← hM30]
  have hCM30 : qCI M30 := by rw [hM30]; exact hCM23.put (r := 67) (k := 11) rfl (.inl (by omega))
  have hWM30 : qFr [67, 69, 70, 71] M M30 := by rw [hM30]; exact hWM23.put (by decide)
  have e31 : M30 67 3 = M23 67 3 := by rw [hM30]; exact qput_nk (by decide)
  have e32 : M30 67 4 = M23 67 4 := by rw [hM30]; exact qput_nk (by decide)
  have e33 : M30 67 6 = M23 67 6 := by rw [hM30]; exact qput_nk (by decide)
  have e34 : M30 67 9 = M23 67 9 := by rw [hM30]; exact qput_nk (by decide)
  have e35 : M30 67 10 = M23 67 10 := by rw [hM30]; exact qput_nk (by decide)
  have e36 : M30 67 7 = M23 67 7 := by rw [hM30]; exact qput_nk (by decide)
  have e37 : M30 67 11 = 1 := by rw [hM30]; exact qput_eq
  show zG n (0, 0) d 75 (44, [.inr (.inr (some 67)), .inl a1, zN], []) M30 _
  refine zG_wv (pc := 51) (L := [.inr (.inr (some 67)), .inl a1, zN]) (st := []) 2 hd0 hz zp_104 (qw_drop (by first | exact zdk hd rfl | omega) hCM30 (⟨by decide, rfl, rfl⟩ : qT n 70 80 1) ) (by rfl) (fun M38 hr => ?_)
  obtain ⟨hCM38, hFM38⟩ := hr
  have hWM38 : qFr [67, 69, 70, 71] M M38 := hWM30.tr hFM38 (by decide)
  have e40 : M38 67 3 = M30 67 3 := hFM38 67 3 (by decide)
  have e41 : M38 67 4 = M30 67 4 := hFM38 67 4 (by decide)
  have e42 : M38 67 6 = M30 67 6 := hFM38 67 6 (by decide)
  have e43 : M38 67 9 = M30 67 9 := hFM38 67 9 (by decide)
  have e44 : M38 67 10 = M30 67 10 := hFM38 67 10 (by decide)
  have e45 : M38 67 7 = M30 67 7 := hFM38 67 7 (by decide)
  have e46 : M38 67 11 = M30 67 11 := hFM38 67 11 (by decide)
  refine zG_wv (pc := 61) (L := [.inr (.inr (some 67)), .inl a1, zN]) (st := []) 5 hd0 hz zp_107 (qw_set (by first | exact zdk hd rfl | omega) hCM38 (⟨by decide, rfl, rfl⟩ : qT n 68 1 81) 0 (by first | decide | omega) 0 (by first | decide | omega) 0 (by first | decide | omega)) (by rfl) (fun M47 hr => ?_)
  obtain ⟨hCM47, hFM47⟩ := hr
  have hWM47 : qFr [67, 69, 70, 71] M M47 := hWM38.tr hFM47 (by decide)
  have e49 : M47 67 3 = M38 67 3 := hFM47 67 3 (by decide)
  have e50 : M47 67 4 = M38 67 4 := hFM47 67 4 (by decide)
  have e51 : M47 67 6 = M38 67 6 := hFM47 67 6 (by decide)
  have e52 : M47 67 9 = M38 67 9 := hFM47 67 9 (by decide)
  have e53 : M47 67 10 = M38 67 10 := hFM47 67 10 (by decide)
  have e54 : M47 67 7 = M38 67 7 := hFM47 67 7 (by decide)
  have e55 : M47 67 11 = M38 67 11 := hFM47 67 11 (by decide)
  refine zG_w (c' := (63, [.inr (.inr (some 67)), .inl a1, .inl 0], [])) 2 hd0 hz (by rfl) ?_
  have j63 : ∀ (N : Nat) (v56 : Int) (M57 : zM) , (81 - v56 : Int).toNat < N → 0 ≤ v56 ∧ v56 ≤ 81 → qCI M57 → qFr [67, 69, 70, 71] M M57 → zG n (0, 0) d 75 (63, [.inr (.inr (some 67)), .inl a1, .inl v56], []) M57 (fun v M' => qWf qCI [67, 69, 70, 71] M M' ∧ qRi (fun x => (-2147483648) ≤ x ∧ x ≤ 2147483647) v) := by
    intro N
    induction N with
    | zero => intro v56 M57 hN hv56 hCM57 hWM57; exact absurd hN (Nat.not_lt_zero _)
    | succ N ih63 =>
      intro v56 M57 hN hv56 hCM57 hWM57
      replace hN : 81 - v56 < (N : Int) + 1 := by omega
      refine zG_w (c' := (66, [.inr (.inr (some 67)), .inl a1, .inl v56], [.inl 80, .inl v56])) 2 hd0 hz (by rfl) ?_
      have j130 : zG n (0, 0) d 75 (130, [.inr (.inr (some 67)), .inl a1, .inl v56], []) M57 (fun v M' => qWf qCI [67, 69, 70, 71] M M' ∧ qRi (fun x => (-2147483648) ≤ x ∧ x ≤ 2147483647) v) := by
        have r58 := hCM57.rng 67 10 (by decide) (by decide)
        exact zG_wr (r := some (.inl (M57 67 10))) 2 hd0 hz (by rfl) ⟨⟨hCM57, hWM57⟩, _, rfl, by omega⟩
      refine zG_wi_gt (pc := 66) (n' := 69) (t := 130) (L := [.inr (.inr (some 67)), .inl a1, .inl v56]) (st := []) (x := v56) (y := 80) 0 hd0 hz (by rfl) (fun hb59 => ?_) (fun hb59 => ?_)
      · exact j130
      · have r60 := hCM57.rng 67 10 (by decide) (by decide)
        refine zG_wi_ne (pc := 74) (n' := 77) (t := 130) (L := [.inr (.inr (some 67)), .inl a1, .inl v56]) (st := []) (x := (M57 67 10)) (y := (-1)) 3 hd0 hz (by rfl) (fun hb61 => ?_) (fun hb61 => ?_)
        · exact j130
        · have r62 := hCM57.rng 67 7 (by decide) (by decide)
          refine zG_wi_eq (pc := 83) (n' := 86) (t := 130) (L := [.inr (.inr (some 67)), .inl a1, .inl v56]) (st := []) (x := (M57 67 7)) (y := 25) 3 hd0 hz (by rfl) (fun hb63 => ?_) (fun hb63 => ?_)
          · exact j130
          · refine zG_wv (pc := 90) (L := [.inr (.inr (some 67)), .inl a1, .inl v56]) (st := []) 1 hd0 hz zp_93 (qm_93_67 (by first | exact zdk hd rfl | omega) hCM57  ) (by rfl) (fun M64 hr => ?_)
            obtain ⟨hCM64, hFM64⟩ := hr
            have hWM64 : qFr [67, 69, 70, 71] M M64 := hWM57.tr hFM64 (by decide)
            have r66 := hCM64.rng 67 10 (by decide) (by decide)
            refine zG_w (c' := (95, [.inr (.inr (some 67)), .inl a1, .inl v56], [.inl (-1), .inl (M64 67 10)])) 3 hd0 hz (by rfl) ?_
            have j124 : ∀ (M67 : zM) , qCI M67 → qFr [67, 69, 70, 71] M M67 → zG n (0, 0) d 75 (124, [.inr (.inr (some 67)), .inl a1, .inl v56], []) M67 (fun v M' => qWf qCI [67, 69, 70, 71] M M' ∧ qRi (fun x => (-2147483648) ≤ x ∧ x ≤ 2147483647) v) := by
              intro M67 hCM67 hWM67
              obtain ⟨x68, hx68⟩ : ∃ x : Int, x = w32 (v56 + 1) := ⟨_, rfl⟩
              have hx68e : x68 = v56 + 1 := by rw [hx68]; exact w32_id (by omega)
              refine zG_w (c' := (63, [.inr (.inr (some 67)), .inl a1, .inl x68], [])) 2 hd0 hz (by subst hx68; rfl) ?_
              exact ih63 x68 M67 (by omega) (by omega) hCM67 hWM67
            have j112 : zG n (0, 0) d 75 (112, [.inr (.inr (some 67)), .inl a1, .inl v56], []) M64 (fun v M' => qWf qCI [67, 69, 70, 71] M M' ∧ qRi (fun x => (-2147483648) ≤ x ∧ x ≤ 2147483647) v) := by
              refine zG_wi_ne (pc := 117) (n' := 120) (t := 124) (L := [.inr (.inr (some 67)), .inl a1, .inl v56]) (st := []) (x := (M64 67 10)) (y := (-1)) 3 hd0 hz (by rfl) (fun hb69 => ?_) (fun hb69 => ?_)
              · exact j124 M64 hCM64 hWM64
              · refine zG_wv (pc := 124) (L := [.inr (.inr (some 67)), .inl a1, .inl v56]) (st := []) 1 hd0 hz zp_78 (qm_78_67 (by first | exact zdk hd rfl | omega) hCM64  ) (by rfl) (fun M70 hr => ?_)
                obtain ⟨hCM70, hFM70⟩ := hr
                have hWM70 : qFr [67, 69, 70, 71] M M70 := hWM64.tr hFM70 (by decide)
                exact j124 M70 hCM70 hWM70
            refine zG_wi_ne (pc := 95) (n' := 98) (t := 112) (L := [.inr (.inr (some 67)), .inl a1, .inl v56]) (st := []) (x := (M64 67 10)) (y := (-1)) 0 hd0 hz (by rfl) (fun hb72 => ?_) (fun hb72 => ?_)
            · exact j112
            · have r73 := hCM64.rng 67 11 (by decide) (by decide)
              refine zG_wf_eq (pc := 102) (n' := 105) (t := 112) (L := [.inr (.inr (some 67)), .inl a1, .inl v56]) (st := []) (x := (M64 67 11)) 2 hd0 hz (by rfl) (fun hb74 => ?_) (fun hb74 => ?_)
              · exact j112
              · refine zG_wv (pc := 109) (L := [.inr (.inr (some 67)), .inl a1, .inl v56]) (st := []) 1 hd0 hz zp_77 (qm_77_67 (by first | exact zdk hd rfl | omega) hCM64  ) (by rfl) (fun M75 hr => ?_)
                obtain ⟨hCM75, hFM75⟩ := hr
                have hWM75 : qFr [67, 69, 70, 71] M M75 := hWM64.tr hFM75 (by decide)
                refine zG_w (c' := (124, [.inr (.inr (some 67)), .inl a1, .inl v56], [])) 1 hd0 hz (by rfl) ?_
                exact j124 M75 hCM75 hWM75
  exact j63 ((81 - 0 : Int).toNat + 1) 0 M47 (by omega) (by omega) hCM47 hWM47
theorem qm_150_8 {n d : Nat} {M : zM} (hd : 9 ≤ d) (hC : qCI M) (a1 : Int) (ha1 : (-2147483648) ≤ a1 ∧ a1 ≤ 2147483647) : qOkM n d 150 [.inr (.inr (some 8)), .inl a1] 2 qCI [67, 69, 70, 71] M (qRi (fun x => (-2147483648) ≤ x ∧ x ≤ 2147483647)) := by
  have hz := zp_150
  have hd0 : 0 < d := by omega
  have hW : qFr [67, 69, 70, 71] M M := qFr.rfl
  show zG n (0, 0) d 150 (0, [.inr (.inr (some 8)), .inl a1], []) M _
  refine zG_wp (pc := 4) (L := [.inr (.inr (some 8)), .inl a1]) (st := []) 1 hd0 hz zp_173 (qm_173 (by first | exact zdk hd rfl | omega) hC  a1 (by first | with_reducible exact ha1 | omega)) (by rfl) (fun x2 hx2 => ?_)
  have j20 : ∀ (v3 : Int) (M4 : zM) , (-2147483648) ≤ v3 ∧ v3 ≤ 2147483647 → qCI M4 → qFr [67, 69, 70, 71] M M4 → zG n (0, 0) d 150 (20, [.inr (.inr (some 8)), .inl a1], [.inl v3]) M4 (fun v M' => qWf qCI [67, 69, 70, 71] M M' ∧ qRi (fun x => (-2147483648) ≤ x ∧ x ≤ 2147483647) v) := by
    intro v3 M4 hv3 hCM4 hWM4
    exact zG_wr (r := some (.inl v3)) 0 hd0 hz (by rfl) ⟨⟨hCM4, hWM4⟩, _, rfl, by omega⟩
  refine zG_wf_eq (pc := 4) (n' := 7) (t := 18) (L := [.inr (.inr (some 8)), .inl a1]) (st := []) (x := x2) 0 hd0 hz (by rfl) (fun hb5 => ?_) (fun hb5 => ?_)
  · refine zG_w (c' := (20, [.inr (.inr (some 8)), .inl a1], [.inl (-2)])) 1 hd0 hz (by rfl) ?_
    exact j20 (-2) M (by omega) hC hW
  · refine zG_wn (pc := 15) (L := [.inr (.inr (some 8)), .inl a1]) (st := []) 3 hd0 hz zp_75 (qm_75_67 (by first | exact zdk hd rfl | omega) hC  a1 (by first | with_reducible exact ha1 | omega)) (by rfl) (fun x7 M6 hr hx7 => ?_)
    obtain ⟨hCM6, hFM6⟩ := hr
    have hWM6 : qFr [67, 69, 70, 71] M M6 := hW.tr hFM6 (by decide)
    refine zG_w (c' := (20, [.inr (.inr (some 8)), .inl a1], [.inl x7])) 1 hd0 hz (by rfl) ?_
    exact j20 x7 M6 (by omega) hCM6 hWM6
theorem qm_74_67 {n d : Nat} {M : zM} (hd : 1 ≤ d) (hC : qCI M)  : qOkP n d 74 [.inr (.inr (some 67))] 1 M (fun v => v = some (.inr (.inr (some 68)))) := by
  have hz := zp_74
  have hd0 : 0 < d := by omega
  show zG n (0, 0) d 74 (0, [.inr (.inr (some 67))], []) M _
  exact zG_wr (r := some (.inr (.inr (some 68)))) 2 hd0 hz (by rfl) ⟨rfl, rfl⟩
theorem qm_62_72_68 {n d : Nat} {M : zM} (hd : 3 ≤ d) (hC : qCI M) (a2 : Int) (ha2 : (-2147483648) ≤ a2 ∧ a2 ≤ 2147483647) (a3 : Int) (ha3 : (-2147483648) ≤ a3 ∧ a3 ≤ 2147483647) (a4 : Int) (ha4 : (-2147483648) ≤ a4 ∧ a4 ≤ 2147483647) : qOkM n d 62 [.inr (.inr (some 72)), .inr (.inr (some 68)), .inl a2, .inl a3, .inl a4] 8 qCI [72, 73] M qRl := by
  have hz := zp_62
  have hd0 : 0 < d := by omega
  have hW : qFr [72, 73] M M := qFr.rfl
  show zG n (0, 0) d 62 (0, [.inr (.inr (some 72)), .inr (.inr (some 68)), .inl a2, .inl a3, .inl a4, zN, zN, zN], []) M _
  refine zG_wp (pc := 6) (L := [.inr (.inr (some 72)), .inr (.inr (some 68)), .inl a2, .inl a3, .inl a4, zN, zN, zN]) (st := []) 3 hd0 hz zp_106 (qw_get (by first | exact zdk hd rfl | omega) hC (⟨by decide, rfl, rfl⟩ : qT n 68 1 81) a2 (by first | with_reducible exact ha2 | omega) a3 (by first | with_reducible exact ha3 | omega)) (by rfl) (fun x2 hx2 => ?_)
  refine zG_w (c' := (10, [.inr (.inr (some 72)), .inr (.inr (some 68)), .inl a2, .inl a3, .inl a4, .inl x2, zN, zN], [.inl 0, .inr (.inr (some 72))])) 3 hd0 hz (by rfl) ?_
  refine zG_putf (.inl rfl) hd0 hz rfl (by decide) rfl rfl ?_
  obtain ⟨M3, hM3⟩ : ∃ X : zM, X = zput M 72 4 0 := ⟨_, rfl⟩
  rw [← hM3]
  have hCM3 : qCI M3 := by rw [hM3]; exact hC.put (r := 72) (k := 4) rfl (.inl (by omega))
  have hWM3 : qFr [72, 73] M M3 := by rw [hM3]; exact hW.put (by decide)
  have e4 : M3 72 4 = 0 := by rw [hM3]; exact qput_eq
  show zG n (0, 0) d 62 (13, [.inr (.inr (some 72)), .inr (.inr (some 68)), .inl a2, .inl a3, .inl a4, .inl x2, zN, zN], []) M3 _
  refine zG_w (c' := (15, [.inr (.inr (some 72)), .inr (.inr (some 68)), .inl a2, .inl a3, .inl a4, .inl x2, zN, zN], [.inl 0, .inr (.inr (some 72))])) 2 hd0 hz (by rfl) ?_
  refine zG_putf (.inr ⟨rfl, by omega⟩) hd0 hz rfl (by decide) rfl rfl ?_
  obtain ⟨M5, hM5⟩ : ∃ X : zM, X = zput M3 72 5 0 := ⟨_, rfl⟩
  rw [← hM5]
  have hCM5 : qCI M5 := by rw [hM5]; exact hCM3.putUm (by omega)
  have hWM5 : qFr [72, 73] M M5 := by rw [hM5]; exact hWM3.put (by decide)
  have e6 : M5 72 4 = M3 72 4 := by rw [hM5]; exact qput_nk (by decide)
  have e7 : M5 72 5 = 0 := by rw [hM5]; exact qput_eq
  show zG n (0, 0) d 62 (18, [.inr (.inr (some 72)), .inr (.inr (some 68)), .inl a2, .inl a3, .inl a4, .inl x2, zN, zN], []) M5 _
  refine zG_w (c' := (21, [.inr (.inr (some 72)), .inr (.inr (some 68)), .inl a2, .inl a3, .inl a4, .inl x2, .inl 1, zN], [])) 2 hd0 hz (by rfl) ?_
  have j21 : ∀ (N : Nat) (v8 : Int) (M9 : zM) , (81 - v8 : Int).toNat < N → 1 ≤ v8 ∧ v8 ≤ 81 → qCI M9 → qFr [72, 73] M M9 → zG n (0, 0) d 62 (21, [.inr (.inr (some 72)), .inr (.inr (some 68)), .inl a2, .inl a3, .inl a4, .inl x2, .inl v8, zN], []) M9 (fun v M' => qWf qCI [72, 73] M M' ∧ qRl v) := by
    intro N
    induction N with
    | zero => intro v8 M9 hN hv8 hCM9 hWM9; exact absurd hN (Nat.not_lt_zero _)
    | succ N ih21 =>
      intro v8 M9 hN hv8 hCM9 hWM9
      replace hN : 81 - v8 < (N : Int) + 1 := by omega
      refine zG_w (c' := (25, [.inr (.inr (some 72)), .inr (.inr (some 68)), .inl a2, .inl a3, .inl a4, .inl x2, .inl v8, zN], [.inl x2, .inl v8])) 2 hd0 hz (by rfl) ?_
      have j77 : zG n (0, 0) d 62 (77, [.inr (.inr (some 72)), .inr (.inr (some 68)), .inl a2, .inl a3, .inl a4, .inl x2, .inl v8, zN], []) M9 (fun v M' => qWf qCI [72, 73] M M' ∧ qRl v) := by
        refine zG_wc (c1 := (81, [.inr (.inr (some 72)), .inr (.inr (some 68)), .inl a2, .inl a3, .inl a4, .inl x2, .inl v8, zN], [])) 1 hd0 hz zp_66 (qm_66_72 (by first | exact zdk hd rfl | omega) hCM9  ) (by rfl) (fun vr M10 hr => ?_)
        obtain ⟨⟨hCM10, hFM10⟩, x11, rfl⟩ := hr
        have hWM10 : qFr [72, 73] M M10 := hWM9.tr hFM10 (by decide)
        show zG n (0, 0) d 62 (81, [.inr (.inr (some 72)), .inr (.inr (some 68)), .inl a2, .inl a3, .inl a4, .inl x2, .inl v8, zN], [.inr (.inl (x11))]) M10 _
        exact zG_wr (r := some (.inr (.inl (x11)))) 0 hd0 hz (by rfl) ⟨⟨hCM10, hWM10⟩, _, rfl⟩
      refine zG_wi_gt (pc := 25) (n' := 28) (t := 77) (L := [.inr (.inr (some 72)), .inr (.inr (some 68)), .inl a2, .inl a3, .inl a4, .inl x2, .inl v8, zN]) (st := []) (x := v8) (y := x2) 0 hd0 hz (by rfl) (fun hb12 => ?_) (fun hb12 => ?_)
      · exact j77
      · refine zG_wi_gt (pc := 32) (n' := 35) (t := 77) (L := [.inr (.inr (some 72)), .inr (.inr (some 68)), .inl a2, .inl a3, .inl a4, .inl x2, .inl v8, zN]) (st := []) (x := v8) (y := 80) 2 hd0 hz (by rfl) (fun hb13 => ?_) (fun hb13 => ?_)
        · exact j77
        · obtain ⟨x14, hx14⟩ : ∃ x : Int, x = w32 (a3 + v8) := ⟨_, rfl⟩
          have hx14r : x14 = (a3 + v8 + 2147483648) % 4294967296 - 2147483648 := hx14
          refine zG_wp (pc := 44) (L := [.inr (.inr (some 72)), .inr (.inr (some 68)), .inl a2, .inl a3, .inl a4, .inl x2, .inl v8, zN]) (st := []) 5 hd0 hz zp_106 (qw_get (by first | exact zdk hd rfl | omega) hCM9 (⟨by decide, rfl, rfl⟩ : qT n 68 1 81) a2 (by first | with_reducible exact ha2 | omega) x14 (by omega)) (by subst hx14; rfl) (fun x16 hx16 => ?_)
          refine zG_w (c' := (48, [.inr (.inr (some 72)), .inr (.inr (some 68)), .inl a2, .inl a3, .inl a4, .inl x2, .inl v8, .inl x16], [.inl x16])) 2 hd0 hz (by rfl) ?_
          have j71 : ∀ (M17 : zM) , qCI M17 → qFr [72, 73] M M17 → zG n (0, 0) d 62 (71, [.inr (.inr (some 72)), .inr (.inr (some 68)), .inl a2, .inl a3, .inl a4, .inl x2, .inl v8, .inl x16], []) M17 (fun v M' => qWf qCI [72, 73] M M' ∧ qRl v) := by
            intro M17 hCM17 hWM17
            obtain ⟨x18, hx18⟩ : ∃ x : Int, x = w32 (v8 + 1) := ⟨_, rfl⟩
            have hx18e : x18 = v8 + 1 := by rw [hx18]; exact w32_id (by omega)
            refine zG_w (c' := (21, [.inr (.inr (some 72)), .inr (.inr (some 68)), .inl a2, .inl a3, .inl a4, .inl x2, .inl x18, .inl x16], [])) 2 hd0 hz (by subst hx18; rfl) ?_
            exact zG_weak (ih21 x18 M17 (by omega) (by omega) hCM17 hWM17) ⟨.inr rfl, .inr rfl, .inr rfl, .inr rfl, .inr rfl, .inr rfl, .inr rfl, .inl rfl, trivial⟩
          refine zG_wf_lt (pc := 48) (n' := 51) (t := 61) (L := [.inr (.inr (some 72)), .inr (.inr (some 68)), .inl a2, .inl a3, .inl a4, .inl x2, .inl v8, .inl x16]) (st := []) (x := x16) 0 hd0 hz (by rfl) (fun hb19 => ?_) (fun hb19 => ?_)
          · obtain ⟨x20, hx20⟩ : ∃ x : Int, x = zbxor x16 (-1) := ⟨_, rfl⟩
            have hx20r : qin x20 := by rw [hx20]; exact qb32 _
            refine zG_wv (pc := 71) (L := [.inr (.inr (some 72)), .inr (.inr (some 68)), .inl a2, .inl a3, .inl a4, .inl x2, .inl v8, .inl x16]) (st := []) 5 hd0 hz zp_63 (qm_63_72 (by first | exact zdk hd rfl | omega) hCM9  x20 (by omega) a4 (by first | with_reducible exact ha4 | omega)) (by subst hx20; rfl) (fun M21 hr => ?_)
            obtain ⟨hCM21, hFM21⟩ := hr
            have hWM21 : qFr [72, 73] M M21 := hWM9.tr hFM21 (by decide)
            exact j71 M21 hCM21 hWM21
          · refine zG_wv (pc := 58) (L := [.inr (.inr (some 72)), .inr (.inr (some 68)), .inl a2, .inl a3, .inl a4, .inl x2, .inl v8, .inl x16]) (st := []) 3 hd0 hz zp_65 (qm_65_72 (by first | exact zdk hd rfl | omega) hCM9  x16) (by rfl) (fun M23 hr => ?_)
            obtain ⟨hCM23, hFM23⟩ := hr
            have hWM23 : qFr [72, 73] M M23 := hWM9.tr hFM23 (by decide)
            refine zG_w (c' := (71, [.inr (.inr (some 72)), .inr (.inr (some 68)), .inl a2, .inl a3, .inl a4, .inl x2, .inl v8, .inl x16], [])) 1 hd0 hz (by rfl) ?_
            exact j71 M23 hCM23 hWM23
  exact j21 ((81 - 1 : Int).toNat + 1) 1 M5 (by omega) (by omega) hCM5 hWM5
theorem qm_151_8 {n d : Nat} {M : zM} (hd : 9 ≤ d) (hC : qCI M) (a1 : Int) (ha1 : (-2147483648) ≤ a1 ∧ a1 ≤ 2147483647) (a2 : Int) (ha2 : (-2147483648) ≤ a2 ∧ a2 ≤ 2147483647) (a3 : Int) (ha3 : (-2147483648) ≤ a3 ∧ a3 ≤ 2147483647) (a4 : Int) (ha4 : (-2147483648) ≤ a4 ∧ a4 ≤ 2147483647) (a5 : Int) (ha5 : (-2147483648) ≤ a5 ∧ a5 ≤ 2147483647) : qOkM n d 151 [.inr (.inr (some 8)), .inl a1, .inl a2, .inl a3, .inl a4, .inl a5] 7 qCI [62, 64, 65, 66, 67, 69, 70, 71, 72, 73, 74, 75] M qRl := by
  have hz := zp_151
  have hd0 : 0 < d := by omega
  have hW : qFr [62, 64, 65, 66, 67, 69, 70, 71, 72, 73, 74, 75] M M := qFr.rfl
  show zG n (0, 0) d 151 (0, [.inr (.inr (some 8)), .inl a1, .inl a2, .inl a3, .inl a4, .inl a5, zN], []) M _
  refine zG_wp (pc := 4) (L := [.inr (.inr (some 8)), .inl a1, .inl a2, .inl a3, .inl a4, .inl a5, zN]) (st := []) 1 hd0 hz zp_173 (qm_173 (by first | exact zdk hd rfl | omega) hC  a1 (by first | with_reducible exact ha1 | omega)) (by rfl) (fun x2 hx2 => ?_)
  have j35 : zG n (0, 0) d 151 (35, [.inr (.inr (some 8)), .inl a1, .inl a2, .inl a3, .inl a4, .inl a5, zN], []) M (fun v M' => qWf qCI [62, 64, 65, 66, 67, 69, 70, 71, 72, 73, 74, 75] M M' ∧ qRl v) := by
    exact zG_wr (r := some (.inr (.inl ((-2000000000000000000))))) 1 hd0 hz (by rfl) ⟨⟨hC, hW⟩, _, rfl⟩
  refine zG_wf_eq (pc := 4) (n' := 7) (t := 35) (L := [.inr (.inr (some 8)), .inl a1, .inl a2, .inl a3, .inl a4, .inl a5, zN]) (st := []) (x := x2) 0 hd0 hz (by rfl) (fun hb3 => ?_) (fun hb3 => ?_)
  · exact j35
  · refine zG_wp (pc := 12) (L := [.inr (.inr (some 8)), .inl a1, .inl a2, .inl a3, .inl a4, .inl a5, zN]) (st := []) 2 hd0 hz zp_174 (qm_174_8 (by first | exact zdk hd rfl | omega) hC  a2 (by first | with_reducible exact ha2 | omega)) (by rfl) (fun x5 hx5 => ?_)
    refine zG_wf_eq (pc := 12) (n' := 15) (t := 35) (L := [.inr (.inr (some 8)), .inl a1, .inl a2, .inl a3, .inl a4, .inl a5, zN]) (st := []) (x := x5) 0 hd0 hz (by rfl) (fun hb6 => ?_) (fun hb6 => ?_)
    · exact j35
    · refine zG_wp (pc := 27) (L := [.inr (.inr (some 8)), .inl a1, .inl a2, .inl a3, .inl a4, .inl a5, zN]) (st := [.inl (-1), .inl a3]) 5 hd0 hz zp_101 (qw_size (by first | exact zdk hd rfl | omega) hC (⟨by decide, rfl, rfl⟩ : qT n 10 14 4) ) (by rfl) (fun x8 hx8 => ?_)
      obtain ⟨x9, hx9⟩ : ∃ x : Int, x = w32 (x8 - 1) := ⟨_, rfl⟩
      have hx9e : x9 = x8 - 1 := by rw [hx9]; exact w32_id (by omega)
      refine zG_wp (pc := 32) (L := [.inr (.inr (some 8)), .inl a1, .inl a2, .inl a3, .inl a4, .inl a5, zN]) (st := []) 2 hd0 hz zp_169 (qm_169 (by first | exact zdk hd rfl | omega) hC  a3 (by first | with_reducible exact ha3 | omega) (-1) (by first | decide | omega) x9 (by omega)) (by subst hx9; rfl) (fun x11 hx11 => ?_)
      refine zG_wf_ne (pc := 32) (n' := 35) (t := 39) (L := [.inr (.inr (some 8)), .inl a1, .inl a2, .inl a3, .inl a4, .inl a5, zN]) (st := []) (x := x11) 0 hd0 hz (by rfl) (fun hb12 => ?_) (fun hb12 => ?_)
      · refine zG_wp (pc := 44) (L := [.inr (.inr (some 8)), .inl a1, .inl a2, .inl a3, .inl a4, .inl a5, zN]) (st := []) 1 hd0 hz zp_170 (qm_170 (by first | exact zdk hd rfl | omega) hC  a4 (by first | with_reducible exact ha4 | omega)) (by rfl) (fun x14 hx14 => ?_)
        have j55 : zG n (0, 0) d 151 (55, [.inr (.inr (some 8)), .inl a1, .inl a2, .inl a3, .inl a4, .inl a5, zN], []) M (fun v M' => qWf qCI [62, 64, 65, 66, 67, 69, 70, 71, 72, 73, 74, 75] M M' ∧ qRl v) := by
          exact zG_wr (r := some (.inr (.inl ((-2000000000000000000))))) 1 hd0 hz (by rfl) ⟨⟨hC, hW⟩, _, rfl⟩
        refine zG_wf_eq (pc := 44) (n' := 47) (t := 55) (L := [.inr (.inr (some 8)), .inl a1, .inl a2, .inl a3, .inl a4, .inl a5, zN]) (st := []) (x := x14) 0 hd0 hz (by rfl) (fun hb15 => ?_) (fun hb15 => ?_)
        · exact j55
        · refine zG_wp (pc := 52) (L := [.inr (.inr (some 8)), .inl a1, .inl a2, .inl a3, .inl a4, .inl a5, zN]) (st := []) 1 hd0 hz zp_170 (qm_170 (by first | exact zdk hd rfl | omega) hC  a5 (by first | with_reducible exact ha5 | omega)) (by rfl) (fun x17 hx17 => ?_)
          refine zG_wf_ne (pc := 52) (n' := 55) (t := 59) (L := [.inr (.inr (some 8)), .inl a1, .inl a2, .inl a3, .inl a4, .inl a5, zN]) (st := []) (x := x17) 0 hd0 hz (by rfl) (fun hb18 => ?_) (fun hb18 => ?_)
          · refine zG_wn (pc := 67) (L := [.inr (.inr (some 8)), .inl a1, .inl a2, .inl a3, .inl a4, .inl a5, zN]) (st := []) 3 hd0 hz zp_75 (qm_75_67 (by first | exact zdk hd rfl | omega) hC  a1 (by first | with_reducible exact ha1 | omega)) (by rfl) (fun x20 M19 hr hx20 => ?_)
            obtain ⟨hCM19, hFM19⟩ := hr
            have hWM19 : qFr [62, 64, 65, 66, 67, 69, 70, 71, 72, 73, 74, 75] M M19 := hW.tr hFM19 (by decide)
            refine zG_wi_eq (pc := 68) (n' := 71) (t := 75) (L := [.inr (.inr (some 8)), .inl a1, .inl a2, .inl a3, .inl a4, .inl a5, zN]) (st := []) (x := x20) (y := (-1)) 1 hd0 hz (by rfl) (fun hb21 => ?_) (fun hb21 => ?_)
            · refine zG_wv (pc := 85) (L := [.inr (.inr (some 8)), .inl a1, .inl a2, .inl a3, .inl a4, .inl a5, zN]) (st := []) 4 hd0 hz zp_41 (qm_41_60 (by first | exact zdk hd rfl | omega) hCM19  a5 (by first | with_reducible exact ha5 | omega) (-1) (by first | decide | omega)) (by rfl) (fun M22 hr => ?_)
              obtain ⟨hCM22, hFM22⟩ := hr
              have hWM22 : qFr [62, 64, 65, 66, 67, 69, 70, 71, 72, 73, 74, 75] M M22 := hWM19.tr hFM22 (by decide)
              refine zG_wn (pc := 95) (L := [.inr (.inr (some 8)), .inl a1, .inl a2, .inl a3, .inl a4, .inl a5, zN]) (st := []) 4 hd0 hz zp_32 (qm_32_76 (by first | exact zdk hd rfl | omega) hCM22  a2 (by first | with_reducible exact ha2 | omega) a4 (by first | with_reducible exact ha4 | omega)) (by rfl) (fun x25 M24 hr hx25 => ?_)
              obtain ⟨hCM24, hFM24⟩ := hr
              have hWM24 : qFr [62, 64, 65, 66, 67, 69, 70, 71, 72, 73, 74, 75] M M24 := hWM22.tr hFM24 (by decide)
              refine zG_w (c' := (99, [.inr (.inr (some 8)), .inl a1, .inl a2, .inl a3, .inl a4, .inl a5, .inl x25], [.inl (-1), .inl a3])) 3 hd0 hz (by rfl) ?_
              have j126 : ∀ (M26 : zM) , qCI M26 → qFr [62, 64, 65, 66, 67, 69, 70, 71, 72, 73, 74, 75] M M26 → zG n (0, 0) d 151 (126, [.inr (.inr (some 8)), .inl a1, .inl a2, .inl a3, .inl a4, .inl a5, .inl x25], []) M26 (fun v M' => qWf qCI [62, 64, 65, 66, 67, 69, 70, 71, 72, 73, 74, 75] M M' ∧ qRl v) := by
                intro M26 hCM26 hWM26
                refine zG_wc (c1 := (137, [.inr (.inr (some 8)), .inl a1, .inl a2, .inl a3, .inl a4, .inl a5, .inl x25], [.inr (.inr (some 72))])) 4 hd0 hz zp_74 (qm_74_67 (by first | exact zdk hd rfl | omega) hCM26  ) (by rfl) (fun vr M27 hr => ?_)
                obtain ⟨hq, rfl⟩ := hr
                replace hq := hq.symm; subst hq
                show zG n (0, 0) d 151 (137, [.inr (.inr (some 8)), .inl a1, .inl a2, .inl a3, .inl a4, .inl a5, .inl x25], [.inr (.inr (some 68)), .inr (.inr (some 72))]) M26 _
                refine zG_wc (c1 := (143, [.inr (.inr (some 8)), .inl a1, .inl a2, .inl a3, .inl a4, .inl a5, .inl x25], [])) 3 hd0 hz zp_62 (qm_62_72_68 (by first | exact zdk hd rfl | omega) hCM26  0 (by first | decide | omega) 0 (by first | decide | omega) 0 (by first | decide | omega)) (by rfl) (fun vr M29 hr => ?_)
                obtain ⟨⟨hCM29, hFM29⟩, x30, rfl⟩ := hr
                have hWM29 : qFr [62, 64, 65, 66, 67, 69, 70, 71, 72, 73, 74, 75] M M29 := hWM26.tr hFM29 (by decide)
                show zG n (0, 0) d 151 (143, [.inr (.inr (some 8)), .inl a1, .inl a2, .inl a3, .inl a4, .inl a5, .inl x25], [.inr (.inl (x30))]) M29 _
                exact zG_wr (r := some (.inr (.inl (x30)))) 0 hd0 hz (by rfl) ⟨⟨hCM29, hWM29⟩, _, rfl⟩
              refine zG_wi_ne (pc := 99) (n' := 102) (t := 115) (L := [.inr (.inr (some 8)), .inl a1, .inl a2, .inl a3, .inl a4, .inl a5, .inl x25]) (st := []) (x := a3) (y := (-1)) 0 hd0 hz (by rfl) (fun hb31 => ?_) (fun hb31 => ?_)
              · refine zG_wv (pc := 126) (L := [.inr (.inr (some 8)), .inl a1, .inl a2, .inl a3, .inl a4, .inl a5, .inl x25]) (st := []) 5 hd0 hz zp_38 (qm_38_76 (by first | exact zdk hd rfl | omega) hCM24  a2 (by first | with_reducible exact ha2 | omega) a3 (by first | with_reducible exact ha3 | omega) x25 (by omega)) (by rfl) (fun M32 hr => ?_)
                obtain ⟨hCM32, hFM32⟩ := hr
                have hWM32 : qFr [62, 64, 65, 66, 67, 69, 70, 71, 72, 73, 74, 75] M M32 := hWM24.tr hFM32 (by decide)
                exact j126 M32 hCM32 hWM32
              · refine zG_wv (pc := 112) (L := [.inr (.inr (some 8)), .inl a1, .inl a2, .inl a3, .inl a4, .inl a5, .inl x25]) (st := []) 4 hd0 hz zp_39 (qm_39_76 (by first | exact zdk hd rfl | omega) hCM24  a2 (by first | with_reducible exact ha2 | omega) x25 (by omega)) (by rfl) (fun M34 hr => ?_)
                obtain ⟨hCM34, hFM34⟩ := hr
                have hWM34 : qFr [62, 64, 65, 66, 67, 69, 70, 71, 72, 73, 74, 75] M M34 := hWM24.tr hFM34 (by decide)
                refine zG_w (c' := (126, [.inr (.inr (some 8)), .inl a1, .inl a2, .inl a3, .inl a4, .inl a5, .inl x25], [])) 1 hd0 hz (by rfl) ?_
                exact j126 M34 hCM34 hWM34
            · exact zG_wr (r := some (.inr (.inl ((-3000000000000000000))))) 1 hd0 hz (by rfl) ⟨⟨hCM19, hWM19⟩, _, rfl⟩
          · exact j55
      · exact j35
theorem qm_76_67_22 {n d : Nat} {M : zM} (hd : 2 ≤ d) (hC : qCI M) (a2 : Int) (ha2 : (-2147483648) ≤ a2 ∧ a2 ≤ 2147483647) (a3 : Int) (ha3 : (-2147483648) ≤ a3 ∧ a3 ≤ 2147483647) : qOkM n d 76 [.inr (.inr (some 67)), .inr (.inr (some 22)), .inl a2, .inl a3] 5 qCI [23] M qRn := by
  have hz := zp_76
  have hd0 : 0 < d := by omega
  have hW : qFr [23] M M := qFr.rfl
  show zG n (0, 0) d 76 (0, [.inr (.inr (some 67)), .inr (.inr (some 22)), .inl a2, .inl a3, zN], []) M _
  refine zG_w (c' := (3, [.inr (.inr (some 67)), .inr (.inr (some 22)), .inl a2, .inl a3, .inl 0], [])) 2 hd0 hz (by rfl) ?_
  have j3 : ∀ (N : Nat) (v1 : Int) (M2 : zM) , (81 - v1 : Int).toNat < N → 0 ≤ v1 ∧ v1 ≤ 81 → qCI M2 → qFr [23] M M2 → zG n (0, 0) d 76 (3, [.inr (.inr (some 67)), .inr (.inr (some 22)), .inl a2, .inl a3, .inl v1], []) M2 (fun v M' => qWf qCI [23] M M' ∧ qRn v) := by
    intro N
    induction N with
    | zero => intro v1 M2 hN hv1 hCM2 hWM2; exact absurd hN (Nat.not_lt_zero _)
    | succ N ih3 =>
      intro v1 M2 hN hv1 hCM2 hWM2
      replace hN : 81 - v1 < (N : Int) + 1 := by omega
      refine zG_wi_ge (pc := 7) (n' := 10) (t := 35) (L := [.inr (.inr (some 67)), .inr (.inr (some 22)), .inl a2, .inl a3, .inl v1]) (st := []) (x := v1) (y := 81) 2 hd0 hz (by rfl) (fun hb3 => ?_) (fun hb3 => ?_)
      · exact zG_ret hd0 hz rfl rfl ⟨⟨hCM2, hWM2⟩, rfl⟩
      · obtain ⟨x4, hx4⟩ : ∃ x : Int, x = w32 (a3 + v1) := ⟨_, rfl⟩
        have hx4r : x4 = (a3 + v1 + 2147483648) % 4294967296 - 2147483648 := hx4
        refine zG_wp (pc := 26) (L := [.inr (.inr (some 67)), .inr (.inr (some 22)), .inl a2, .inl a3, .inl v1]) (st := [.inl x4, .inl a2, .inr (.inr (some 22))]) 9 hd0 hz zp_106 (qw_get (by first | exact zdk hd rfl | omega) hCM2 (⟨by decide, rfl, rfl⟩ : qT n 68 1 81) 0 (by first | decide | omega) v1 (by first | with_reducible exact hv1 | omega)) (by subst hx4; rfl) (fun x6 hx6 => ?_)
        refine zG_wv (pc := 29) (L := [.inr (.inr (some 67)), .inr (.inr (some 22)), .inl a2, .inl a3, .inl v1]) (st := []) 0 hd0 hz zp_107 (qw_set (by first | exact zdk hd rfl | omega) hCM2 (⟨by decide, rfl, rfl⟩ : qT n 22 10 164) a2 (by first | with_reducible exact ha2 | omega) x4 (by omega) x6 (by omega)) (by rfl) (fun M7 hr => ?_)
        obtain ⟨hCM7, hFM7⟩ := hr
        have hWM7 : qFr [23] M M7 := hWM2.tr hFM7 (by decide)
        obtain ⟨x9, hx9⟩ : ∃ x : Int, x = w32 (v1 + 1) := ⟨_, rfl⟩
        have hx9e : x9 = v1 + 1 := by rw [hx9]; exact w32_id (by omega)
        refine zG_w (c' := (3, [.inr (.inr (some 67)), .inr (.inr (some 22)), .inl a2, .inl a3, .inl x9], [])) 2 hd0 hz (by subst hx9; rfl) ?_
        exact ih3 x9 M7 (by omega) (by omega) hCM7 hWM7
  exact j3 ((81 - 0 : Int).toNat + 1) 0 M (by omega) (by omega) hC hW
theorem qm_152_8 {n d : Nat} {M : zM} (hd : 9 ≤ d) (hC : qCI M) (a1 : Int) (ha1 : (-2147483648) ≤ a1 ∧ a1 ≤ 2147483647) (a2 : Int) (ha2 : (-2147483648) ≤ a2 ∧ a2 ≤ 2147483647) (a3 : Int) (ha3 : (-2147483648) ≤ a3 ∧ a3 ≤ 2147483647) (a4 : Int) (ha4 : 0 ≤ a4 ∧ a4 ≤ 1) : qOkM n d 152 [.inr (.inr (some 8)), .inl a1, .inl a2, .inl a3, .inl a4] 6 qCI [22, 23, 67, 69, 70, 71] M (qRi (fun x => (-4) ≤ x ∧ x ≤ 9)) := by
  have hz := zp_152
  have hd0 : 0 < d := by omega
  have hW : qFr [22, 23, 67, 69, 70, 71] M M := qFr.rfl
  show zG n (0, 0) d 152 (0, [.inr (.inr (some 8)), .inl a1, .inl a2, .inl a3, .inl a4, zN], []) M _
  refine zG_wp (pc := 4) (L := [.inr (.inr (some 8)), .inl a1, .inl a2, .inl a3, .inl a4, zN]) (st := []) 1 hd0 hz zp_173 (qm_173 (by first | exact zdk hd rfl | omega) hC  a1 (by first | with_reducible exact ha1 | omega)) (by rfl) (fun x2 hx2 => ?_)
  have j21 : zG n (0, 0) d 152 (21, [.inr (.inr (some 8)), .inl a1, .inl a2, .inl a3, .inl a4, zN], []) M (fun v M' => qWf qCI [22, 23, 67, 69, 70, 71] M M' ∧ qRi (fun x => (-4) ≤ x ∧ x ≤ 9) v) := by
    exact zG_wr (r := some (.inl (-2))) 1 hd0 hz (by rfl) ⟨⟨hC, hW⟩, _, rfl, by omega⟩
  refine zG_wf_eq (pc := 4) (n' := 7) (t := 21) (L := [.inr (.inr (some 8)), .inl a1, .inl a2, .inl a3, .inl a4, zN]) (st := []) (x := x2) 0 hd0 hz (by rfl) (fun hb3 => ?_) (fun hb3 => ?_)
  · exact j21
  · refine zG_wp (pc := 11) (L := [.inr (.inr (some 8)), .inl a1, .inl a2, .inl a3, .inl a4, zN]) (st := []) 1 hd0 hz zp_173 (qm_173 (by first | exact zdk hd rfl | omega) hC  a2 (by first | with_reducible exact ha2 | omega)) (by rfl) (fun x5 hx5 => ?_)
    refine zG_wf_eq (pc := 11) (n' := 14) (t := 21) (L := [.inr (.inr (some 8)), .inl a1, .inl a2, .inl a3, .inl a4, zN]) (st := []) (x := x5) 0 hd0 hz (by rfl) (fun hb6 => ?_) (fun hb6 => ?_)
    · exact j21
    · refine zG_wp (pc := 18) (L := [.inr (.inr (some 8)), .inl a1, .inl a2, .inl a3, .inl a4, zN]) (st := []) 1 hd0 hz zp_170 (qm_170 (by first | exact zdk hd rfl | omega) hC  a3 (by first | with_reducible exact ha3 | omega)) (by rfl) (fun x8 hx8 => ?_)
      refine zG_wf_ne (pc := 18) (n' := 21) (t := 24) (L := [.inr (.inr (some 8)), .inl a1, .inl a2, .inl a3, .inl a4, zN]) (st := []) (x := x8) 0 hd0 hz (by rfl) (fun hb9 => ?_) (fun hb9 => ?_)
      · refine zG_wn (pc := 32) (L := [.inr (.inr (some 8)), .inl a1, .inl a2, .inl a3, .inl a4, zN]) (st := []) 3 hd0 hz zp_75 (qm_75_67 (by first | exact zdk hd rfl | omega) hC  a1 (by first | with_reducible exact ha1 | omega)) (by rfl) (fun x11 M10 hr hx11 => ?_)
        obtain ⟨hCM10, hFM10⟩ := hr
        have hWM10 : qFr [22, 23, 67, 69, 70, 71] M M10 := hW.tr hFM10 (by decide)
        refine zG_w (c' := (33, [.inr (.inr (some 8)), .inl a1, .inl a2, .inl a3, .inl a4, zN], [.inl (-1), .inl x11])) 1 hd0 hz (by rfl) ?_
        have j48 : ∀ (M12 : zM) , qCI M12 → qFr [22, 23, 67, 69, 70, 71] M M12 → zG n (0, 0) d 152 (48, [.inr (.inr (some 8)), .inl a1, .inl a2, .inl a3, .inl a4, zN], []) M12 (fun v M' => qWf qCI [22, 23, 67, 69, 70, 71] M M' ∧ qRi (fun x => (-4) ≤ x ∧ x ≤ 9) v) := by
          intro M12 hCM12 hWM12
          exact zG_wr (r := some (.inl (-3))) 1 hd0 hz (by rfl) ⟨⟨hCM12, hWM12⟩, _, rfl, by omega⟩
        refine zG_wi_ne (pc := 33) (n' := 36) (t := 48) (L := [.inr (.inr (some 8)), .inl a1, .inl a2, .inl a3, .inl a4, zN]) (st := []) (x := x11) (y := (-1)) 0 hd0 hz (by rfl) (fun hb13 => ?_) (fun hb13 => ?_)
        · exact j48 M10 hCM10 hWM10
        · refine zG_wn (pc := 44) (L := [.inr (.inr (some 8)), .inl a1, .inl a2, .inl a3, .inl a4, zN]) (st := []) 3 hd0 hz zp_75 (qm_75_67 (by first | exact zdk hd rfl | omega) hCM10  a2 (by first | with_reducible exact ha2 | omega)) (by rfl) (fun x15 M14 hr hx15 => ?_)
          obtain ⟨hCM14, hFM14⟩ := hr
          have hWM14 : qFr [22, 23, 67, 69, 70, 71] M M14 := hWM10.tr hFM14 (by decide)
          refine zG_wi_eq (pc := 45) (n' := 48) (t := 51) (L := [.inr (.inr (some 8)), .inl a1, .inl a2, .inl a3, .inl a4, zN]) (st := []) (x := x15) (y := (-1)) 1 hd0 hz (by rfl) (fun hb16 => ?_) (fun hb16 => ?_)
          · refine zG_wn (pc := 61) (L := [.inr (.inr (some 8)), .inl a1, .inl a2, .inl a3, .inl a4, zN]) (st := []) 3 hd0 hz zp_103 (qw_open (by first | exact zdk hd rfl | omega) hCM14 (⟨by decide, rfl, rfl⟩ : qT n 22 10 164) ) (by rfl) (fun x18 M17 hr hx18 => ?_)
            obtain ⟨hCM17, hFM17⟩ := hr
            have hWM17 : qFr [22, 23, 67, 69, 70, 71] M M17 := hWM14.tr hFM17 (by decide)
            refine zG_wv (pc := 77) (L := [.inr (.inr (some 8)), .inl a1, .inl a2, .inl a3, .inl a4, .inl x18]) (st := []) 7 hd0 hz zp_107 (qw_set (by first | exact zdk hd rfl | omega) hCM17 (⟨by decide, rfl, rfl⟩ : qT n 22 10 164) x18 (by omega) 0 (by first | decide | omega) a3 (by first | with_reducible exact ha3 | omega)) (by rfl) (fun M19 hr => ?_)
            obtain ⟨hCM19, hFM19⟩ := hr
            have hWM19 : qFr [22, 23, 67, 69, 70, 71] M M19 := hWM17.tr hFM19 (by decide)
            refine zG_w (c' := (89, [.inr (.inr (some 8)), .inl a1, .inl a2, .inl a3, .inl a4, .inl x18], [.inl a4, .inl 1, .inl x18, .inr (.inr (some 22))])) 6 hd0 hz (by rfl) ?_
            have j97 : ∀ (v21 v22 v23 : Int) , (-4) ≤ v21 ∧ v21 ≤ 9 → 1 ≤ v22 ∧ v22 ≤ 1 → 0 ≤ v23 ∧ v23 ≤ 1 → zG n (0, 0) d 152 (97, [.inr (.inr (some 8)), .inl a1, .inl a2, .inl a3, .inl a4, .inl x18], [.inl v23, .inl v22, .inl v21, .inr (.inr (some 22))]) M19 (fun v M' => qWf qCI [22, 23, 67, 69, 70, 71] M M' ∧ qRi (fun x => (-4) ≤ x ∧ x ≤ 9) v) := by
              intro v21 v22 v23 hv21 hv22 hv23
              refine zG_wv (pc := 100) (L := [.inr (.inr (some 8)), .inl a1, .inl a2, .inl a3, .inl a4, .inl x18]) (st := []) 0 hd0 hz zp_107 (qw_set (by first | exact zdk hd rfl | omega) hCM19 (⟨by decide, rfl, rfl⟩ : qT n 22 10 164) v21 (by first | with_reducible exact hv21 | omega) v22 (by first | with_reducible exact hv22 | omega) v23 (by first | with_reducible exact hv23 | omega)) (by rfl) (fun M24 hr => ?_)
              obtain ⟨hCM24, hFM24⟩ := hr
              have hWM24 : qFr [22, 23, 67, 69, 70, 71] M M24 := hWM19.tr hFM24 (by decide)
              refine zG_wv (pc := 118) (L := [.inr (.inr (some 8)), .inl a1, .inl a2, .inl a3, .inl a4, .inl x18]) (st := []) 7 hd0 hz zp_76 (qm_76_67_22 (by first | exact zdk hd rfl | omega) hCM24  x18 (by omega) 83 (by first | decide | omega)) (by rfl) (fun M26 hr => ?_)
              obtain ⟨hCM26, hFM26⟩ := hr
              have hWM26 : qFr [22, 23, 67, 69, 70, 71] M M26 := hWM24.tr hFM26 (by decide)
              refine zG_wn (pc := 126) (L := [.inr (.inr (some 8)), .inl a1, .inl a2, .inl a3, .inl a4, .inl x18]) (st := []) 3 hd0 hz zp_75 (qm_75_67 (by first | exact zdk hd rfl | omega) hCM26  a1 (by first | with_reducible exact ha1 | omega)) (by rfl) (fun x29 M28 hr hx29 => ?_)
              obtain ⟨hCM28, hFM28⟩ := hr
              have hWM28 : qFr [22, 23, 67, 69, 70, 71] M M28 := hWM26.tr hFM28 (by decide)
              refine zG_wv (pc := 144) (L := [.inr (.inr (some 8)), .inl a1, .inl a2, .inl a3, .inl a4, .inl x18]) (st := []) 8 hd0 hz zp_76 (qm_76_67_22 (by first | exact zdk hd rfl | omega) hCM28  x18 (by omega) 2 (by first | decide | omega)) (by rfl) (fun M30 hr => ?_)
              obtain ⟨hCM30, hFM30⟩ := hr
              have hWM30 : qFr [22, 23, 67, 69, 70, 71] M M30 := hWM28.tr hFM30 (by decide)
              exact zG_wr (r := some (.inl x18)) 1 hd0 hz (by rfl) ⟨⟨hCM30, hWM30⟩, _, rfl, by omega⟩
            refine zG_wf_eq (pc := 89) (n' := 92) (t := 96) (L := [.inr (.inr (some 8)), .inl a1, .inl a2, .inl a3, .inl a4, .inl x18]) (st := [.inl 1, .inl x18, .inr (.inr (some 22))]) (x := a4) 0 hd0 hz (by rfl) (fun hb32 => ?_) (fun hb32 => ?_)
            · refine zG_w (c' := (97, [.inr (.inr (some 8)), .inl a1, .inl a2, .inl a3, .inl a4, .inl x18], [.inl 0, .inl 1, .inl x18, .inr (.inr (some 22))])) 1 hd0 hz (by rfl) ?_
              exact j97 x18 1 0 (by first | decide | omega) (by omega) (by omega)
            · refine zG_w (c' := (97, [.inr (.inr (some 8)), .inl a1, .inl a2, .inl a3, .inl a4, .inl x18], [.inl 1, .inl 1, .inl x18, .inr (.inr (some 22))])) 2 hd0 hz (by rfl) ?_
              exact j97 x18 1 1 (by first | decide | omega) (by omega) (by omega)
          · exact j48 M14 hCM14 hWM14
      · exact j21
theorem qm_153_8 {n d : Nat} {M : zM} (hd : 3 ≤ d) (hC : qCI M) (a1 : Int) (ha1 : (-2147483648) ≤ a1 ∧ a1 ≤ 2147483647) (a2 : Int) (ha2 : (-2147483648) ≤ a2 ∧ a2 ≤ 2147483647) : qOkM n d 153 [.inr (.inr (some 8)), .inl a1, .inl a2] 4 qCI [13] M (qRi (fun x => (-2147483648) ≤ x ∧ x ≤ 2147483647)) := by
  have hz := zp_153
  have hd0 : 0 < d := by omega
  have hW : qFr [13] M M := qFr.rfl
  show zG n (0, 0) d 153 (0, [.inr (.inr (some 8)), .inl a1, .inl a2, zN], []) M _
  refine zG_wp (pc := 5) (L := [.inr (.inr (some 8)), .inl a1, .inl a2, zN]) (st := []) 2 hd0 hz zp_174 (qm_174_8 (by first | exact zdk hd rfl | omega) hC  a1 (by first | with_reducible exact ha1 | omega)) (by rfl) (fun x2 hx2 => ?_)
  have j28 : zG n (0, 0) d 153 (28, [.inr (.inr (some 8)), .inl a1, .inl a2, zN], []) M (fun v M' => qWf qCI [13] M M' ∧ qRi (fun x => (-2147483648) ≤ x ∧ x ≤ 2147483647) v) := by
    exact zG_wr (r := some (.inl (-10))) 1 hd0 hz (by rfl) ⟨⟨hC, hW⟩, _, rfl, by omega⟩
  refine zG_wf_eq (pc := 5) (n' := 8) (t := 28) (L := [.inr (.inr (some 8)), .inl a1, .inl a2, zN]) (st := []) (x := x2) 0 hd0 hz (by rfl) (fun hb3 => ?_) (fun hb3 => ?_)
  · exact j28
  · refine zG_wp (pc := 20) (L := [.inr (.inr (some 8)), .inl a1, .inl a2, zN]) (st := [.inl (-1), .inl a2]) 5 hd0 hz zp_101 (qw_size (by first | exact zdk hd rfl | omega) hC (⟨by decide, rfl, rfl⟩ : qT n 22 10 164) ) (by rfl) (fun x5 hx5 => ?_)
    obtain ⟨x6, hx6⟩ : ∃ x : Int, x = w32 (x5 - 1) := ⟨_, rfl⟩
    have hx6e : x6 = x5 - 1 := by rw [hx6]; exact w32_id (by omega)
    refine zG_wp (pc := 25) (L := [.inr (.inr (some 8)), .inl a1, .inl a2, zN]) (st := []) 2 hd0 hz zp_169 (qm_169 (by first | exact zdk hd rfl | omega) hC  a2 (by first | with_reducible exact ha2 | omega) (-1) (by first | decide | omega) x6 (by omega)) (by subst hx6; rfl) (fun x8 hx8 => ?_)
    refine zG_wf_ne (pc := 25) (n' := 28) (t := 31) (L := [.inr (.inr (some 8)), .inl a1, .inl a2, zN]) (st := []) (x := x8) 0 hd0 hz (by rfl) (fun hb9 => ?_) (fun hb9 => ?_)
    · refine zG_wp (pc := 43) (L := [.inr (.inr (some 8)), .inl a1, .inl a2, zN]) (st := []) 5 hd0 hz zp_106 (qw_get (by first | exact zdk hd rfl | omega) hC (⟨by decide, rfl, rfl⟩ : qT n 12 20 3) a1 (by first | with_reducible exact ha1 | omega) 1 (by first | decide | omega)) (by rfl) (fun x11 hx11 => ?_)
      refine zG_wv (pc := 57) (L := [.inr (.inr (some 8)), .inl a1, .inl a2, .inl x11]) (st := []) 7 hd0 hz zp_107 (qw_set (by first | exact zdk hd rfl | omega) hC (⟨by decide, rfl, rfl⟩ : qT n 12 20 3) a1 (by first | with_reducible exact ha1 | omega) 1 (by first | decide | omega) a2 (by first | with_reducible exact ha2 | omega)) (by rfl) (fun M12 hr => ?_)
      obtain ⟨hCM12, hFM12⟩ := hr
      have hWM12 : qFr [13] M M12 := hW.tr hFM12 (by decide)
      exact zG_wr (r := some (.inl x11)) 1 hd0 hz (by rfl) ⟨⟨hCM12, hWM12⟩, _, rfl, by omega⟩
    · exact j28
theorem qm_154_8 {n d : Nat} {M : zM} (hd : 4 ≤ d) (hC : qCI M) (a1 : Int) (ha1 : (-2147483648) ≤ a1 ∧ a1 ≤ 2147483647) (a2 : Int) (ha2 : (-2147483648) ≤ a2 ∧ a2 ≤ 2147483647) : qOkP n d 154 [.inr (.inr (some 8)), .inl a1, .inl a2] 3 M (qRi (fun x => (-2147483648) ≤ x ∧ x ≤ 2147483647)) := by
  have hz := zp_154
  have hd0 : 0 < d := by omega
  show zG n (0, 0) d 154 (0, [.inr (.inr (some 8)), .inl a1, .inl a2], []) M _
  refine zG_wp (pc := 5) (L := [.inr (.inr (some 8)), .inl a1, .inl a2]) (st := []) 2 hd0 hz zp_174 (qm_174_8 (by first | exact zdk hd rfl | omega) hC  a1 (by first | with_reducible exact ha1 | omega)) (by rfl) (fun x2 hx2 => ?_)
  have j29 : ∀ (v3 : Int) , (-2147483648) ≤ v3 ∧ v3 ≤ 2147483647 → zG n (0, 0) d 154 (29, [.inr (.inr (some 8)), .inl a1, .inl a2], [.inl v3]) M (fun v M' => M' = M ∧ qRi (fun x => (-2147483648) ≤ x ∧ x ≤ 2147483647) v) := by
    intro v3 hv3
    exact zG_wr (r := some (.inl v3)) 0 hd0 hz (by rfl) ⟨rfl, _, rfl, by omega⟩
  have j27 : zG n (0, 0) d 154 (27, [.inr (.inr (some 8)), .inl a1, .inl a2], []) M (fun v M' => M' = M ∧ qRi (fun x => (-2147483648) ≤ x ∧ x ≤ 2147483647) v) := by
    refine zG_w (c' := (29, [.inr (.inr (some 8)), .inl a1, .inl a2], [.inl (-2)])) 1 hd0 hz (by rfl) ?_
    exact j29 (-2) (by first | decide | omega)
  refine zG_wf_eq (pc := 5) (n' := 8) (t := 27) (L := [.inr (.inr (some 8)), .inl a1, .inl a2]) (st := []) (x := x2) 0 hd0 hz (by rfl) (fun hb4 => ?_) (fun hb4 => ?_)
  · exact j27
  · refine zG_wp (pc := 12) (L := [.inr (.inr (some 8)), .inl a1, .inl a2]) (st := []) 1 hd0 hz zp_170 (qm_170 (by first | exact zdk hd rfl | omega) hC  a2 (by first | with_reducible exact ha2 | omega)) (by rfl) (fun x6 hx6 => ?_)
    refine zG_wf_eq (pc := 12) (n' := 15) (t := 27) (L := [.inr (.inr (some 8)), .inl a1, .inl a2]) (st := []) (x := x6) 0 hd0 hz (by rfl) (fun hb7 => ?_) (fun hb7 => ?_)
    · exact j27
    · refine zG_wp (pc := 24) (L := [.inr (.inr (some 8)), .inl a1, .inl a2]) (st := []) 4 hd0 hz zp_29 (qm_29_76 (by first | exact zdk hd rfl | omega) hC  a1 (by first | with_reducible exact ha1 | omega) a2 (by first | with_reducible exact ha2 | omega)) (by rfl) (fun x9 hx9 => ?_)
      refine zG_w (c' := (29, [.inr (.inr (some 8)), .inl a1, .inl a2], [.inl x9])) 1 hd0 hz (by rfl) ?_
      exact j29 x9 (by omega)
theorem qm_112_81 {n d : Nat} {M : zM} (hd : 2 ≤ d) (hC : qCI M) (a1 : Int) (ha1 : (-2147483648) ≤ a1 ∧ a1 ≤ 2147483647) (a2 : Int) (ha2 : (-2147483648) ≤ a2 ∧ a2 ≤ 2147483647) (a3 : Int) (ha3 : (-2147483648) ≤ a3 ∧ a3 ≤ 2147483647) : qOkM n d 112 [.inr (.inr (some 81)), .inl a1, .inl a2, .inl a3] 5 qCI [81, 82] M qRn := by
  have hz := zp_112
  have hd0 : 0 < d := by omega
  have hW : qFr [81, 82] M M := qFr.rfl
  show zG n (0, 0) d 112 (0, [.inr (.inr (some 81)), .inl a1, .inl a2, .inl a3, zN], []) M _
  obtain ⟨x1, hx1⟩ : ∃ x : Int, x = zbxor a2 (-1) := ⟨_, rfl⟩
  have hx1r : qin x1 := by rw [hx1]; exact qb32 _
  obtain ⟨x2, hx2⟩ : ∃ x : Int, x = zband a1 x1 := ⟨_, rfl⟩
  have hx2r : qin x2 := by rw [hx2]; exact qb32 _
  refine zG_w (c' := (6, [.inr (.inr (some 81)), .inl a1, .inl a2, .inl a3, zN], [.inl x2, .inr (.inr (some 81))])) 6 hd0 hz (by subst hx2; subst hx1; rfl) ?_
  refine zG_putf (.inl rfl) hd0 hz rfl (by decide) rfl rfl ?_
  obtain ⟨M3, hM3⟩ : ∃ X : zM, X = zput M 81 4 x2 := ⟨_, rfl⟩
  rw [← hM3]
  have hCM3 : qCI M3 := by rw [hM3]; exact hC.put (r := 81) (k := 4) rfl (.inl (by omega))
  have hWM3 : qFr [81, 82] M M3 := by rw [hM3]; exact hW.put (by decide)
  have e4 : M3 81 4 = x2 := by rw [hM3]; exact qput_eq
  show zG n (0, 0) d 112 (9, [.inr (.inr (some 81)), .inl a1, .inl a2, .inl a3, zN], []) M3 _
  refine zG_w (c' := (11, [.inr (.inr (some 81)), .inl a1, .inl a2, .inl a3, zN], [.inl a3, .inr (.inr (some 81))])) 2 hd0 hz (by rfl) ?_
  refine zG_putf (.inl rfl) hd0 hz rfl (by decide) rfl rfl ?_
  obtain ⟨M5, hM5⟩ : ∃ X : zM, X = zput M3 81 5 a3 := ⟨_, rfl⟩
  rw [← hM5]
  have hCM5 : qCI M5 := by rw [hM5]; exact hCM3.put (r := 81) (k := 5) rfl (.inl (by omega))
  have hWM5 : qFr [81, 82] M M5 := by rw [hM5]; exact hWM3.put (by decide)
  have e6 : M5 81 4 = M3 81 4 := by rw [hM5]; exact qput_nk (by decide)
  have e7 : M5 81 5 = a3 := by rw [hM5]; exact qput_eq
  show zG n (0, 0) d 112 (14, [.inr (.inr (some 81)), .inl a1, .inl a2, .inl a3, zN], []) M5 _
  refine zG_w (c' := (18, [.inr (.inr (some 81)), .inl a1, .inl a2, .inl a3, .inl 13], [])) 2 hd0 hz (by rfl) ?_
  have j18 : ∀ (N : Nat) (v8 : Int) (M9 : zM) , (v8 + 1 : Int).toNat < N → (-1) ≤ v8 ∧ v8 ≤ 13 → qCI M9 → qFr [81, 82] M M9 → zG n (0, 0) d 112 (18, [.inr (.inr (some 81)), .inl a1, .inl a2, .inl a3, .inl v8], []) M9 (fun v M' => qWf qCI [81, 82] M M' ∧ qRn v) := by
    intro N
    induction N with
    | zero => intro v8 M9 hN hv8 hCM9 hWM9; exact absurd hN (Nat.not_lt_zero _)
    | succ N ih18 =>
      intro v8 M9 hN hv8 hCM9 hWM9
      replace hN : v8 + 1 < (N : Int) + 1 := by omega
      refine zG_wf_lt (pc := 20) (n' := 23) (t := 68) (L := [.inr (.inr (some 81)), .inl a1, .inl a2, .inl a3, .inl v8]) (st := []) (x := v8) 1 hd0 hz (by rfl) (fun hb10 => ?_) (fun hb10 => ?_)
      · have r11 := hCM9.rng 81 4 (by decide) (by decide)
        refine zG_w (c' := (74, [.inr (.inr (some 81)), .inl a1, .inl a2, .inl a3, .inl (M9 81 4)], [])) 3 hd0 hz (by rfl) ?_
        have j74 : ∀ (N : Nat) (v12 : Int) (M13 : zM) , (v12 : Int).toNat < N → (-2147483648) ≤ v12 ∧ v12 ≤ 2147483647 → qCI M13 → qFr [81, 82] M M13 → zG n (0, 0) d 112 (74, [.inr (.inr (some 81)), .inl a1, .inl a2, .inl a3, .inl v12], []) M13 (fun v M' => qWf qCI [81, 82] M M' ∧ qRn v) := by
          intro N
          induction N with
          | zero => intro v12 M13 hN hv12 hCM13 hWM13; exact absurd hN (Nat.not_lt_zero _)
          | succ N ih74 =>
            intro v12 M13 hN hv12 hCM13 hWM13
            replace hN : v12 < (N : Int) + 1 := by omega
            refine zG_w (c' := (76, [.inr (.inr (some 81)), .inl a1, .inl a2, .inl a3, .inl v12], [.inl v12])) 1 hd0 hz (by rfl) ?_
            have j111 : zG n (0, 0) d 112 (111, [.inr (.inr (some 81)), .inl a1, .inl a2, .inl a3, .inl v12], []) M13 (fun v M' => qWf qCI [81, 82] M M' ∧ qRn v) := by
              exact zG_wr (r := none) 0 hd0 hz (by rfl) ⟨⟨hCM13, hWM13⟩, rfl⟩
            refine zG_wf_le (pc := 76) (n' := 79) (t := 111) (L := [.inr (.inr (some 81)), .inl a1, .inl a2, .inl a3, .inl v12]) (st := []) (x := v12) 0 hd0 hz (by rfl) (fun hb14 => ?_) (fun hb14 => ?_)
            · exact j111
            · refine zG_wi_ge (pc := 86) (n' := 89) (t := 111) (L := [.inr (.inr (some 81)), .inl a1, .inl a2, .inl a3, .inl v12]) (st := []) (x := v12) (y := 16384) 4 hd0 hz (by rfl) (fun hb15 => ?_) (fun hb15 => ?_)
              · exact j111
              · refine zG_w (c' := (96, [.inr (.inr (some 81)), .inl a1, .inl a2, .inl a3, .inl v12], [.inl 0, .inl v12, .inr (.inr (some 82))])) 4 hd0 hz (by rfl) ?_
                refine zG_iast hd0 hz rfl rfl (by omega) ?_
                obtain ⟨M16, hM16⟩ : ∃ X : zM, X = zput M13 82 (v12 : Int).toNat 0 := ⟨_, rfl⟩
                rw [← hM16]
                have hCM16 : qCI M16 := by rw [hM16]; exact hCM13.put (r := 82) rfl (.inl (by omega))
                have hWM16 : qFr [81, 82] M M16 := by rw [hM16]; exact hWM13.put (by decide)
                show zG n (0, 0) d 112 (97, [.inr (.inr (some 81)), .inl a1, .inl a2, .inl a3, .inl v12], []) M16 _
                obtain ⟨x17, hx17⟩ : ∃ x : Int, x = w32 (v12 - 1) := ⟨_, rfl⟩
                have hx17e : x17 = v12 - 1 := by rw [hx17]; exact w32_id (by omega)
                have r18 := hCM16.rng 81 4 (by decide) (by decide)
                obtain ⟨x19, hx19⟩ : ∃ x : Int, x = zband x17 (M16 81 4) := ⟨_, rfl⟩
                have hx19r := qband_l x17 (M16 81 4) (by omega) (by omega); rw [← hx19] at hx19r
                refine zG_w (c' := (74, [.inr (.inr (some 81)), .inl a1, .inl a2, .inl a3, .inl x19], [])) 8 hd0 hz (by subst hx19; subst hx17; rfl) ?_
                exact ih74 x19 M16 (by omega) (by omega) hCM16 hWM16
        exact j74 (((M9 81 4) : Int).toNat + 1) (M9 81 4) M9 (by omega) (by omega) hCM9 hWM9
      · have r20 := hCM9.rng 81 4 (by decide) (by decide)
        obtain ⟨x21, hx21⟩ : ∃ x : Int, x = zbshr (M9 81 4) v8 := ⟨_, rfl⟩
        have hx21r : qin x21 := by rw [hx21]; exact qb32 _
        obtain ⟨x22, hx22⟩ : ∃ x : Int, x = zband x21 1 := ⟨_, rfl⟩
        have hx22r := qband_r x21 1 (by first | decide | omega) (by omega); rw [← hx22] at hx22r
        refine zG_w (c' := (33, [.inr (.inr (some 81)), .inl a1, .inl a2, .inl a3, .inl v8], [.inl 1, .inl x22])) 7 hd0 hz (by subst hx22; subst hx21; rfl) ?_
        have j62 : ∀ (M23 : zM) , qCI M23 → qFr [81, 82] M M23 → zG n (0, 0) d 112 (62, [.inr (.inr (some 81)), .inl a1, .inl a2, .inl a3, .inl v8], []) M23 (fun v M' => qWf qCI [81, 82] M M' ∧ qRn v) := by
          intro M23 hCM23 hWM23
          obtain ⟨x24, hx24⟩ : ∃ x : Int, x = w32 (v8 + (-1)) := ⟨_, rfl⟩
          have hx24e : x24 = v8 + (-1) := by rw [hx24]; exact w32_id (by omega)
          refine zG_w (c' := (18, [.inr (.inr (some 81)), .inl a1, .inl a2, .inl a3, .inl x24], [])) 2 hd0 hz (by subst hx24; rfl) ?_
          exact ih18 x24 M23 (by omega) (by omega) hCM23 hWM23
        refine zG_wi_ne (pc := 33) (n' := 36) (t := 62) (L := [.inr (.inr (some 81)), .inl a1, .inl a2, .inl a3, .inl v8]) (st := []) (x := x22) (y := 1) 0 hd0 hz (by rfl) (fun hb25 => ?_) (fun hb25 => ?_)
        · exact j62 M9 hCM9 hWM9
        · refine zG_wp (pc := 54) (L := [.inr (.inr (some 81)), .inl a1, .inl a2, .inl a3, .inl v8]) (st := [.inl (M9 81 4), .inr (.inr (some 81))]) 8 hd0 hz zp_106 (qw_get (by first | exact zdk hd rfl | omega) hCM9 (⟨by decide, rfl, rfl⟩ : qT n 10 14 4) v8 (by first | with_reducible exact hv8 | omega) 1 (by first | decide | omega)) (by rfl) (fun x27 hx27 => ?_)
          obtain ⟨x28, hx28⟩ : ∃ x : Int, x = zbxor a2 (-1) := ⟨_, rfl⟩
          have hx28r : qin x28 := by rw [hx28]; exact qb32 _
          obtain ⟨x29, hx29⟩ : ∃ x : Int, x = zband x27 x28 := ⟨_, rfl⟩
          have hx29r : qin x29 := by rw [hx29]; exact qb32 _
          obtain ⟨x30, hx30⟩ : ∃ x : Int, x = zbor (M9 81 4) x29 := ⟨_, rfl⟩
          have hx30r : qin x30 := by rw [hx30]; exact qb32 _
          refine zG_w (c' := (59, [.inr (.inr (some 81)), .inl a1, .inl a2, .inl a3, .inl v8], [.inl x30, .inr (.inr (some 81))])) 5 hd0 hz (by subst hx30; subst hx29; subst hx28; rfl) ?_
          refine zG_putf (.inl rfl) hd0 hz rfl (by decide) rfl rfl ?_
          obtain ⟨M31, hM31⟩ : ∃ X : zM, X = zput M9 81 4 x30 := ⟨_, rfl⟩
          rw [← hM31]
          have hCM31 : qCI M31 := by rw [hM31]; exact hCM9.put (r := 81) (k := 4) rfl (.inl (by omega))
          have hWM31 : qFr [81, 82] M M31 := by rw [hM31]; exact hWM9.put (by decide)
          have e32 : M31 81 4 = x30 := by rw [hM31]; exact qput_eq
          show zG n (0, 0) d 112 (62, [.inr (.inr (some 81)), .inl a1, .inl a2, .inl a3, .inl v8], []) M31 _
          exact j62 M31 hCM31 hWM31
  exact j18 ((13 + 1 : Int).toNat + 1) 13 M5 (by omega) (by omega) hCM5 hWM5
theorem qm_118_81 {n d : Nat} {M : zM} (hd : 2 ≤ d) (hC : qCI M) (a1 : Int) (ha1 : (-2147483648) ≤ a1 ∧ a1 ≤ 2147483647) (a2 : Int) (ha2 : (-2147483648) ≤ a2 ∧ a2 ≤ 2147483647) : qOkP n d 118 [.inr (.inr (some 81)), .inl a1, .inl a2] 3 M (qRi (fun x => 0 ≤ x ∧ x ≤ 1)) := by
  have hz := zp_118
  have hd0 : 0 < d := by omega
  show zG n (0, 0) d 118 (0, [.inr (.inr (some 81)), .inl a1, .inl a2], []) M _
  refine zG_wp (pc := 12) (L := [.inr (.inr (some 81)), .inl a1, .inl a2]) (st := []) 5 hd0 hz zp_106 (qw_get (by first | exact zdk hd rfl | omega) hC (⟨by decide, rfl, rfl⟩ : qT n 10 14 4) a1 (by first | with_reducible exact ha1 | omega) 2 (by first | decide | omega)) (by rfl) (fun x2 hx2 => ?_)
  obtain ⟨x3, hx3⟩ : ∃ x : Int, x = zbshr x2 a2 := ⟨_, rfl⟩
  have hx3r : qin x3 := by rw [hx3]; exact qb32 _
  obtain ⟨x4, hx4⟩ : ∃ x : Int, x = zband x3 1 := ⟨_, rfl⟩
  have hx4r := qband_r x3 1 (by first | decide | omega) (by omega); rw [← hx4] at hx4r
  refine zG_w (c' := (17, [.inr (.inr (some 81)), .inl a1, .inl a2], [.inl 1, .inl x4])) 5 hd0 hz (by subst hx4; subst hx3; rfl) ?_
  have j25 : ∀ (v5 : Int) , 0 ≤ v5 ∧ v5 ≤ 1 → zG n (0, 0) d 118 (25, [.inr (.inr (some 81)), .inl a1, .inl a2], [.inl v5]) M (fun v M' => M' = M ∧ qRi (fun x => 0 ≤ x ∧ x ≤ 1) v) := by
    intro v5 hv5
    exact zG_zret hd0 hz rfl (by omega) ⟨rfl, _, rfl, by omega⟩
  refine zG_wi_ne (pc := 17) (n' := 20) (t := 24) (L := [.inr (.inr (some 81)), .inl a1, .inl a2]) (st := []) (x := x4) (y := 1) 0 hd0 hz (by rfl) (fun hb6 => ?_) (fun hb6 => ?_)
  · refine zG_w (c' := (25, [.inr (.inr (some 81)), .inl a1, .inl a2], [.inl 0])) 1 hd0 hz (by rfl) ?_
    exact j25 0 (by first | decide | omega)
  · refine zG_w (c' := (25, [.inr (.inr (some 81)), .inl a1, .inl a2], [.inl 1])) 2 hd0 hz (by rfl) ?_
    exact j25 1 (by first | decide | omega)
theorem qm_117_81 {n d : Nat} {M : zM} (hd : 3 ≤ d) (hC : qCI M) (a1 : Int) (ha1 : (-2147483648) ≤ a1 ∧ a1 ≤ 2147483647) (a2 : Int) (ha2 : (-2147483648) ≤ a2 ∧ a2 ≤ 2147483647) : qOkP n d 117 [.inr (.inr (some 81)), .inl a1, .inl a2] 6 M (qRi (fun x => (-2147483648) ≤ x ∧ x ≤ 2147483647)) := by
  have hz := zp_117
  have hd0 : 0 < d := by omega
  show zG n (0, 0) d 117 (0, [.inr (.inr (some 81)), .inl a1, .inl a2, zN, zN, zN], []) M _
  refine zG_w (c' := (5, [.inr (.inr (some 81)), .inl a1, .inl a2, .inl 0, .inl 0, zN], [])) 4 hd0 hz (by rfl) ?_
  have j5 : ∀ (N : Nat) (v1 v2 : Int) , (14 - v2 : Int).toNat < N → (-2147483648) ≤ v1 ∧ v1 ≤ 2147483647 → 0 ≤ v2 ∧ v2 ≤ 14 → zG n (0, 0) d 117 (5, [.inr (.inr (some 81)), .inl a1, .inl a2, .inl v1, .inl v2, zN], []) M (fun v M' => M' = M ∧ qRi (fun x => (-2147483648) ≤ x ∧ x ≤ 2147483647) v) := by
    intro N
    induction N with
    | zero => intro v1 v2 hN hv1 hv2; exact absurd hN (Nat.not_lt_zero _)
    | succ N ih5 =>
      intro v1 v2 hN hv1 hv2
      replace hN : 14 - v2 < (N : Int) + 1 := by omega
      refine zG_wi_ge (pc := 9) (n' := 12) (t := 75) (L := [.inr (.inr (some 81)), .inl a1, .inl a2, .inl v1, .inl v2, zN]) (st := []) (x := v2) (y := 14) 2 hd0 hz (by rfl) (fun hb3 => ?_) (fun hb3 => ?_)
      · exact zG_wr (r := some (.inl v1)) 1 hd0 hz (by rfl) ⟨rfl, _, rfl, by omega⟩
      · obtain ⟨x4, hx4⟩ : ∃ x : Int, x = zbshr a1 v2 := ⟨_, rfl⟩
        have hx4r : qin x4 := by rw [hx4]; exact qb32 _
        obtain ⟨x5, hx5⟩ : ∃ x : Int, x = zband x4 1 := ⟨_, rfl⟩
        have hx5r := qband_r x4 1 (by first | decide | omega) (by omega); rw [← hx5] at hx5r
        refine zG_w (c' := (19, [.inr (.inr (some 81)), .inl a1, .inl a2, .inl v1, .inl v2, zN], [.inl 1, .inl x5])) 6 hd0 hz (by subst hx5; subst hx4; rfl) ?_
        have j45 : ∀ (v6 : Int) , 0 ≤ v6 ∧ v6 ≤ 1 → zG n (0, 0) d 117 (45, [.inr (.inr (some 81)), .inl a1, .inl a2, .inl v1, .inl v2, zN], [.inl v6]) M (fun v M' => M' = M ∧ qRi (fun x => (-2147483648) ≤ x ∧ x ≤ 2147483647) v) := by
          intro v6 hv6
          refine zG_w (c' := (49, [.inr (.inr (some 81)), .inl a1, .inl a2, .inl v1, .inl v2, .inl v6], [.inl v6])) 2 hd0 hz (by rfl) ?_
          have j69 : ∀ (v7 : Int) , (-2147483648) ≤ v7 ∧ v7 ≤ 2147483647 → zG n (0, 0) d 117 (69, [.inr (.inr (some 81)), .inl a1, .inl a2, .inl v7, .inl v2, .inl v6], []) M (fun v M' => M' = M ∧ qRi (fun x => (-2147483648) ≤ x ∧ x ≤ 2147483647) v) := by
            intro v7 hv7
            obtain ⟨x8, hx8⟩ : ∃ x : Int, x = w32 (v2 + 1) := ⟨_, rfl⟩
            have hx8e : x8 = v2 + 1 := by rw [hx8]; exact w32_id (by omega)
            refine zG_w (c' := (5, [.inr (.inr (some 81)), .inl a1, .inl a2, .inl v7, .inl x8, .inl v6], [])) 2 hd0 hz (by subst hx8; rfl) ?_
            exact zG_weak (ih5 v7 x8 (by omega) (by omega) (by omega)) ⟨.inr rfl, .inr rfl, .inr rfl, .inr rfl, .inr rfl, .inl rfl, trivial⟩
          refine zG_wf_eq (pc := 49) (n' := 52) (t := 69) (L := [.inr (.inr (some 81)), .inl a1, .inl a2, .inl v1, .inl v2, .inl v6]) (st := []) (x := v6) 0 hd0 hz (by rfl) (fun hb9 => ?_) (fun hb9 => ?_)
          · exact j69 v1 (by first | with_reducible exact hv1 | omega)
          · refine zG_wp (pc := 59) (L := [.inr (.inr (some 81)), .inl a1, .inl a2, .inl v1, .inl v2, .inl v6]) (st := []) 3 hd0 hz zp_118 (qm_118_81 (by first | exact zdk hd rfl | omega) hC  v2 (by first | with_reducible exact hv2 | omega) a2 (by first | with_reducible exact ha2 | omega)) (by rfl) (fun x11 hx11 => ?_)
            refine zG_wf_eq (pc := 59) (n' := 62) (t := 69) (L := [.inr (.inr (some 81)), .inl a1, .inl a2, .inl v1, .inl v2, .inl v6]) (st := []) (x := x11) 0 hd0 hz (by rfl) (fun hb12 => ?_) (fun hb12 => ?_)
            · exact j69 v1 (by first | with_reducible exact hv1 | omega)
            · obtain ⟨x13, hx13⟩ : ∃ x : Int, x = zbshl 1 v2 := ⟨_, rfl⟩
              have hx13r : qin x13 := by rw [hx13]; exact qb32 _
              obtain ⟨x14, hx14⟩ : ∃ x : Int, x = zbor v1 x13 := ⟨_, rfl⟩
              have hx14r : qin x14 := by rw [hx14]; exact qb32 _
              refine zG_w (c' := (69, [.inr (.inr (some 81)), .inl a1, .inl a2, .inl x14, .inl v2, .inl v6], [])) 6 hd0 hz (by subst hx14; subst hx13; rfl) ?_
              exact j69 x14 (by omega)
        have j44 : zG n (0, 0) d 117 (44, [.inr (.inr (some 81)), .inl a1, .inl a2, .inl v1, .inl v2, zN], []) M (fun v M' => M' = M ∧ qRi (fun x => (-2147483648) ≤ x ∧ x ≤ 2147483647) v) := by
          refine zG_w (c' := (45, [.inr (.inr (some 81)), .inl a1, .inl a2, .inl v1, .inl v2, zN], [.inl 0])) 1 hd0 hz (by rfl) ?_
          exact j45 0 (by first | decide | omega)
        refine zG_wi_ne (pc := 19) (n' := 22) (t := 44) (L := [.inr (.inr (some 81)), .inl a1, .inl a2, .inl v1, .inl v2, zN]) (st := []) (x := x5) (y := 1) 0 hd0 hz (by rfl) (fun hb15 => ?_) (fun hb15 => ?_)
        · exact j44
        · refine zG_wp (pc := 35) (L := [.inr (.inr (some 81)), .inl a1, .inl a2, .inl v1, .inl v2, zN]) (st := []) 5 hd0 hz zp_106 (qw_get (by first | exact zdk hd rfl | omega) hC (⟨by decide, rfl, rfl⟩ : qT n 10 14 4) v2 (by first | with_reducible exact hv2 | omega) 1 (by first | decide | omega)) (by rfl) (fun x17 hx17 => ?_)
          obtain ⟨x18, hx18⟩ : ∃ x : Int, x = zband x17 a1 := ⟨_, rfl⟩
          have hx18r : qin x18 := by rw [hx18]; exact qb32 _
          refine zG_wf_ne (pc := 37) (n' := 40) (t := 44) (L := [.inr (.inr (some 81)), .inl a1, .inl a2, .inl v1, .inl v2, zN]) (st := []) (x := x18) 2 hd0 hz (by subst hx18; rfl) (fun hb19 => ?_) (fun hb19 => ?_)
          · exact j44
          · refine zG_w (c' := (45, [.inr (.inr (some 81)), .inl a1, .inl a2, .inl v1, .inl v2, zN], [.inl 1])) 2 hd0 hz (by rfl) ?_
            exact j45 1 (by first | decide | omega)
  exact j5 ((14 - 0 : Int).toNat + 1) 0 0 (by first | decide | omega) (by omega) (by omega)
theorem qm_121_81 {n d : Nat} {M : zM} (hd : 3 ≤ d) (hC : qCI M) (a1 : Int) (ha1 : (-2147483648) ≤ a1 ∧ a1 ≤ 2147483647) (a2 : Int) (ha2 : (-2147483648) ≤ a2 ∧ a2 ≤ 2147483647) (a3 : Int) (ha3 : (-2147483648) ≤ a3 ∧ a3 ≤ 2147483647) : qOkP n d 121 [.inr (.inr (some 81)), .inl a1, .inl a2, .inl a3] 7 M (qRi (fun x => (-2147483648) ≤ x ∧ x ≤ 2147483647)) := by
  have hz := zp_121
  have hd0 : 0 < d := by omega
  show zG n (0, 0) d 121 (0, [.inr (.inr (some 81)), .inl a1, .inl a2, .inl a3, zN, zN, zN], []) M _
  refine zG_wp (pc := 12) (L := [.inr (.inr (some 81)), .inl a1, .inl a2, .inl a3, zN, zN, zN]) (st := []) 5 hd0 hz zp_106 (qw_get (by first | exact zdk hd rfl | omega) hC (⟨by decide, rfl, rfl⟩ : qT n 10 14 4) a1 (by first | with_reducible exact ha1 | omega) 1 (by first | decide | omega)) (by rfl) (fun x2 hx2 => ?_)
  obtain ⟨x3, hx3⟩ : ∃ x : Int, x = zband x2 a2 := ⟨_, rfl⟩
  have hx3r : qin x3 := by rw [hx3]; exact qb32 _
  refine zG_w (c' := (22, [.inr (.inr (some 81)), .inl a1, .inl a2, .inl a3, .inl x3, .inl 1, .inl 0], [])) 7 hd0 hz (by subst hx3; rfl) ?_
  have j22 : ∀ (N : Nat) (v4 v5 : Int) , (a1 - v5 : Int).toNat < N → 1 ≤ v4 ∧ v4 ≤ 2147483647 → 0 ≤ v5 ∧ v5 ≤ 2147483647 → zG n (0, 0) d 121 (22, [.inr (.inr (some 81)), .inl a1, .inl a2, .inl a3, .inl x3, .inl v4, .inl v5], []) M (fun v M' => M' = M ∧ qRi (fun x => (-2147483648) ≤ x ∧ x ≤ 2147483647) v) := by
    intro N
    induction N with
    | zero => intro v4 v5 hN hv4 hv5; exact absurd hN (Nat.not_lt_zero _)
    | succ N ih22 =>
      intro v4 v5 hN hv4 hv5
      replace hN : a1 - v5 < (N : Int) + 1 := by omega
      refine zG_wi_ge (pc := 25) (n' := 28) (t := 64) (L := [.inr (.inr (some 81)), .inl a1, .inl a2, .inl a3, .inl x3, .inl v4, .inl v5]) (st := []) (x := v5) (y := a1) 2 hd0 hz (by rfl) (fun hb6 => ?_) (fun hb6 => ?_)
      · refine zG_w (c' := (67, [.inr (.inr (some 81)), .inl a1, .inl a2, .inl a3, .inl x3, .inl v4, .inl 1], [])) 2 hd0 hz (by rfl) ?_
        have j67 : ∀ (N : Nat) (v7 v8 : Int) , (3 - v8 : Int).toNat < N → (-2147483648) ≤ v7 ∧ v7 ≤ 2147483647 → 1 ≤ v8 ∧ v8 ≤ 3 → zG n (0, 0) d 121 (67, [.inr (.inr (some 81)), .inl a1, .inl a2, .inl a3, .inl x3, .inl v7, .inl v8], []) M (fun v M' => M' = M ∧ qRi (fun x => (-2147483648) ≤ x ∧ x ≤ 2147483647) v) := by
          intro N
          induction N with
          | zero => intro v7 v8 hN hv7 hv8; exact absurd hN (Nat.not_lt_zero _)
          | succ N ih67 =>
            intro v7 v8 hN hv7 hv8
            replace hN : 3 - v8 < (N : Int) + 1 := by omega
            refine zG_w (c' := (70, [.inr (.inr (some 81)), .inl a1, .inl a2, .inl a3, .inl x3, .inl v7, .inl v8], [.inl 3, .inl v8])) 2 hd0 hz (by rfl) ?_
            have j98 : zG n (0, 0) d 121 (98, [.inr (.inr (some 81)), .inl a1, .inl a2, .inl a3, .inl x3, .inl v7, .inl v8], []) M (fun v M' => M' = M ∧ qRi (fun x => (-2147483648) ≤ x ∧ x ≤ 2147483647) v) := by
              exact zG_wr (r := some (.inl v7)) 1 hd0 hz (by rfl) ⟨rfl, _, rfl, by omega⟩
            refine zG_wi_ge (pc := 70) (n' := 73) (t := 98) (L := [.inr (.inr (some 81)), .inl a1, .inl a2, .inl a3, .inl x3, .inl v7, .inl v8]) (st := []) (x := v8) (y := 3) 0 hd0 hz (by rfl) (fun hb9 => ?_) (fun hb9 => ?_)
            · exact j98
            · obtain ⟨x10, hx10⟩ : ∃ x : Int, x = w32 (a3 + v7) := ⟨_, rfl⟩
              have hx10r : x10 = (a3 + v7 + 2147483648) % 4294967296 - 2147483648 := hx10
              obtain ⟨x11, hx11⟩ : ∃ x : Int, x = w32 (x10 - 1) := ⟨_, rfl⟩
              have hx11r : x11 = (x10 - 1 + 2147483648) % 4294967296 - 2147483648 := hx11
              refine zG_w (c' := (82, [.inr (.inr (some 81)), .inl a1, .inl a2, .inl a3, .inl x3, .inl v7, .inl v8], [.inl 3, .inl x11, .inl a1, .inr (.inr (some 81))])) 8 hd0 hz (by subst hx11; subst hx10; rfl) ?_
              refine zG_irem hd0 hz rfl (by omega) ?_
              have hx12 := qtmod_in x11 3 (by first | decide | omega)
              generalize x11.tmod 3 = x12 at hx12 ⊢
              show zG n (0, 0) d 121 (83, [.inr (.inr (some 81)), .inl a1, .inl a2, .inl a3, .inl x3, .inl v7, .inl v8], [.inl x12, .inl a1, .inr (.inr (some 81))]) M _
              refine zG_wp (pc := 86) (L := [.inr (.inr (some 81)), .inl a1, .inl a2, .inl a3, .inl x3, .inl v7, .inl v8]) (st := []) 0 hd0 hz zp_118 (qm_118_81 (by first | exact zdk hd rfl | omega) hC  a1 (by first | with_reducible exact ha1 | omega) x12 (by omega)) (by rfl) (fun x14 hx14 => ?_)
              refine zG_wf_ne (pc := 86) (n' := 89) (t := 98) (L := [.inr (.inr (some 81)), .inl a1, .inl a2, .inl a3, .inl x3, .inl v7, .inl v8]) (st := []) (x := x14) 0 hd0 hz (by rfl) (fun hb15 => ?_) (fun hb15 => ?_)
              · exact j98
              · obtain ⟨x16, hx16⟩ : ∃ x : Int, x = w32 (v7 + 1) := ⟨_, rfl⟩
                have hx16r : x16 = (v7 + 1 + 2147483648) % 4294967296 - 2147483648 := hx16
                obtain ⟨x17, hx17⟩ : ∃ x : Int, x = w32 (v8 + 1) := ⟨_, rfl⟩
                have hx17e : x17 = v8 + 1 := by rw [hx17]; exact w32_id (by omega)
                refine zG_w (c' := (67, [.inr (.inr (some 81)), .inl a1, .inl a2, .inl a3, .inl x3, .inl x16, .inl x17], [])) 3 hd0 hz (by subst hx17; subst hx16; rfl) ?_
                exact ih67 x16 x17 (by omega) (by omega) (by omega)
        exact j67 ((3 - 1 : Int).toNat + 1) v4 1 (by first | decide | omega) (by omega) (by omega)
      · obtain ⟨x18, hx18⟩ : ∃ x : Int, x = zbshr x3 v5 := ⟨_, rfl⟩
        have hx18r : qin x18 := by rw [hx18]; exact qb32 _
        obtain ⟨x19, hx19⟩ : ∃ x : Int, x = zband x18 1 := ⟨_, rfl⟩
        have hx19r := qband_r x18 1 (by first | decide | omega) (by omega); rw [← hx19] at hx19r
        refine zG_w (c' := (36, [.inr (.inr (some 81)), .inl a1, .inl a2, .inl a3, .inl x3, .inl v4, .inl v5], [.inl 1, .inl x19])) 6 hd0 hz (by subst hx19; subst hx18; rfl) ?_
        have j58 : ∀ (v20 : Int) , 1 ≤ v20 ∧ v20 ≤ 2147483647 → zG n (0, 0) d 121 (58, [.inr (.inr (some 81)), .inl a1, .inl a2, .inl a3, .inl x3, .inl v20, .inl v5], []) M (fun v M' => M' = M ∧ qRi (fun x => (-2147483648) ≤ x ∧ x ≤ 2147483647) v) := by
          intro v20 hv20
          obtain ⟨x21, hx21⟩ : ∃ x : Int, x = w32 (v5 + 1) := ⟨_, rfl⟩
          have hx21e : x21 = v5 + 1 := by rw [hx21]; exact w32_id (by omega)
          refine zG_w (c' := (22, [.inr (.inr (some 81)), .inl a1, .inl a2, .inl a3, .inl x3, .inl v20, .inl x21], [])) 2 hd0 hz (by subst hx21; rfl) ?_
          exact ih22 v20 x21 (by omega) (by omega) (by omega)
        refine zG_wi_ne (pc := 36) (n' := 39) (t := 58) (L := [.inr (.inr (some 81)), .inl a1, .inl a2, .inl a3, .inl x3, .inl v4, .inl v5]) (st := []) (x := x19) (y := 1) 0 hd0 hz (by rfl) (fun hb22 => ?_) (fun hb22 => ?_)
        · exact j58 v4 (by first | with_reducible exact hv4 | omega)
        · refine zG_wp (pc := 51) (L := [.inr (.inr (some 81)), .inl a1, .inl a2, .inl a3, .inl x3, .inl v4, .inl v5]) (st := [.inl v4]) 5 hd0 hz zp_106 (qw_get (by first | exact zdk hd rfl | omega) hC (⟨by decide, rfl, rfl⟩ : qT n 83 14 1) v5 (by first | with_reducible exact hv5 | omega) 0 (by first | decide | omega)) (by rfl) (fun x24 hx24 => ?_)
          obtain ⟨x25, hx25⟩ : ∃ x : Int, x = w32 (x24 + 1) := ⟨_, rfl⟩
          have hx25r : x25 = (x24 + 1 + 2147483648) % 4294967296 - 2147483648 := hx25
          obtain ⟨x26, hx26⟩ : ∃ x : Int, x = (if v4 < x25 then x25 else v4) := ⟨_, rfl⟩
          have hx26r := qite hx26
          refine zG_w (c' := (58, [.inr (.inr (some 81)), .inl a1, .inl a2, .inl a3, .inl x3, .inl x26, .inl v5], [])) 4 hd0 hz (by subst hx26; subst hx25; rfl) ?_
          exact j58 x26 (by omega)
  exact j22 ((a1 - 0 : Int).toNat + 1) 1 0 (by first | decide | omega) (by omega) (by omega)
theorem qm_120_81 {n d : Nat} {M : zM} (hd : 2 ≤ d) (hC : qCI M) (a1 : Int) (ha1 : 1 ≤ a1 ∧ a1 ≤ 7) (a2 : Int) (ha2 : (-2147483648) ≤ a2 ∧ a2 ≤ 2147483647) : qOkP n d 120 [.inr (.inr (some 81)), .inl a1, .inl a2] 5 M (qRi (fun x => 0 ≤ x ∧ x ≤ 60)) := by
  have hz := zp_120
  have hd0 : 0 < d := by omega
  show zG n (0, 0) d 120 (0, [.inr (.inr (some 81)), .inl a1, .inl a2, zN, zN], []) M _
  refine zG_w (c' := (5, [.inr (.inr (some 81)), .inl a1, .inl a2, .inl 0, .inl 1], [])) 4 hd0 hz (by rfl) ?_
  have j5 : ∀ (N : Nat) (v1 v2 : Int) , (a1 - v2 + 1 : Int).toNat < N → (-2147483648) ≤ v1 ∧ v1 ≤ 2147483647 → 1 ≤ v2 ∧ v2 ≤ 8 → zG n (0, 0) d 120 (5, [.inr (.inr (some 81)), .inl a1, .inl a2, .inl v1, .inl v2], []) M (fun v M' => M' = M ∧ qRi (fun x => 0 ≤ x ∧ x ≤ 60) v) := by
    intro N
    induction N with
    | zero => intro v1 v2 hN hv1 hv2; exact absurd hN (Nat.not_lt_zero _)
    | succ N ih5 =>
      intro v1 v2 hN hv1 hv2
      replace hN : a1 - v2 + 1 < (N : Int) + 1 := by omega
      refine zG_wi_gt (pc := 8) (n' := 11) (t := 43) (L := [.inr (.inr (some 81)), .inl a1, .inl a2, .inl v1, .inl v2]) (st := []) (x := v2) (y := a1) 2 hd0 hz (by rfl) (fun hb3 => ?_) (fun hb3 => ?_)
      · refine zG_w (c' := (46, [.inr (.inr (some 81)), .inl a1, .inl a2, .inl v1, .inl 0], [])) 2 hd0 hz (by rfl) ?_
        have j46 : ∀ (N : Nat) (v4 v5 : Int) , (60 - v5 : Int).toNat < N → (-2147483648) ≤ v4 ∧ v4 ≤ 2147483647 → 0 ≤ v5 ∧ v5 ≤ 60 → zG n (0, 0) d 120 (46, [.inr (.inr (some 81)), .inl a1, .inl a2, .inl v4, .inl v5], []) M (fun v M' => M' = M ∧ qRi (fun x => 0 ≤ x ∧ x ≤ 60) v) := by
          intro N
          induction N with
          | zero => intro v4 v5 hN hv4 hv5; exact absurd hN (Nat.not_lt_zero _)
          | succ N ih46 =>
            intro v4 v5 hN hv4 hv5
            replace hN : 60 - v5 < (N : Int) + 1 := by omega
            refine zG_w (c' := (47, [.inr (.inr (some 81)), .inl a1, .inl a2, .inl v4, .inl v5], [.inl v4])) 1 hd0 hz (by rfl) ?_
            have j84 : zG n (0, 0) d 120 (84, [.inr (.inr (some 81)), .inl a1, .inl a2, .inl v4, .inl v5], []) M (fun v M' => M' = M ∧ qRi (fun x => 0 ≤ x ∧ x ≤ 60) v) := by
              exact zG_wr (r := some (.inl v5)) 1 hd0 hz (by rfl) ⟨rfl, _, rfl, by omega⟩
            refine zG_wf_le (pc := 47) (n' := 50) (t := 84) (L := [.inr (.inr (some 81)), .inl a1, .inl a2, .inl v4, .inl v5]) (st := []) (x := v4) 0 hd0 hz (by rfl) (fun hb6 => ?_) (fun hb6 => ?_)
            · exact j84
            · refine zG_wi_ge (pc := 54) (n' := 57) (t := 84) (L := [.inr (.inr (some 81)), .inl a1, .inl a2, .inl v4, .inl v5]) (st := []) (x := v5) (y := 60) 2 hd0 hz (by rfl) (fun hb7 => ?_) (fun hb7 => ?_)
              · exact j84
              · obtain ⟨x8, hx8⟩ : ∃ x : Int, x = w32 (a2 + v5) := ⟨_, rfl⟩
                have hx8r : x8 = (a2 + v5 + 2147483648) % 4294967296 - 2147483648 := hx8
                refine zG_w (c' := (63, [.inr (.inr (some 81)), .inl a1, .inl a2, .inl v4, .inl v5], [.inl 3, .inl x8, .inl a1])) 5 hd0 hz (by subst hx8; rfl) ?_
                refine zG_irem hd0 hz rfl (by omega) ?_
                have hx9 := qtmod_in x8 3 (by first | decide | omega)
                generalize x8.tmod 3 = x9 at hx9 ⊢
                show zG n (0, 0) d 120 (64, [.inr (.inr (some 81)), .inl a1, .inl a2, .inl v4, .inl v5], [.inl x9, .inl a1]) M _
                obtain ⟨x10, hx10⟩ : ∃ x : Int, x = zbshr a1 x9 := ⟨_, rfl⟩
                have hx10r := qbshr_n a1 x9 (by omega); rw [← hx10] at hx10r
                obtain ⟨x11, hx11⟩ : ∃ x : Int, x = zband x10 1 := ⟨_, rfl⟩
                have hx11r := qband_lr x10 1 (by first | decide | omega) (by omega); rw [← hx11] at hx11r
                refine zG_w (c' := (68, [.inr (.inr (some 81)), .inl a1, .inl a2, .inl v4, .inl v5], [.inl 1, .inl x11])) 4 hd0 hz (by subst hx11; subst hx10; rfl) ?_
                have j78 : ∀ (v12 : Int) , (-2147483648) ≤ v12 ∧ v12 ≤ 2147483647 → zG n (0, 0) d 120 (78, [.inr (.inr (some 81)), .inl a1, .inl a2, .inl v12, .inl v5], []) M (fun v M' => M' = M ∧ qRi (fun x => 0 ≤ x ∧ x ≤ 60) v) := by
                  intro v12 hv12
                  obtain ⟨x13, hx13⟩ : ∃ x : Int, x = w32 (v5 + 1) := ⟨_, rfl⟩
                  have hx13e : x13 = v5 + 1 := by rw [hx13]; exact w32_id (by omega)
                  refine zG_w (c' := (46, [.inr (.inr (some 81)), .inl a1, .inl a2, .inl v12, .inl x13], [])) 2 hd0 hz (by subst hx13; rfl) ?_
                  exact ih46 v12 x13 (by omega) (by omega) (by omega)
                refine zG_wi_ne (pc := 68) (n' := 71) (t := 78) (L := [.inr (.inr (some 81)), .inl a1, .inl a2, .inl v4, .inl v5]) (st := []) (x := x11) (y := 1) 0 hd0 hz (by rfl) (fun hb14 => ?_) (fun hb14 => ?_)
                · exact j78 v4 (by first | with_reducible exact hv4 | omega)
                · have r15 := hC.rng 81 5 (by decide) (by decide)
                  obtain ⟨x16, hx16⟩ : ∃ x : Int, x = w32 (v4 - (M 81 5)) := ⟨_, rfl⟩
                  have hx16r : x16 = (v4 - (M 81 5) + 2147483648) % 4294967296 - 2147483648 := hx16
                  refine zG_w (c' := (78, [.inr (.inr (some 81)), .inl a1, .inl a2, .inl x16, .inl v5], [])) 5 hd0 hz (by subst hx16; rfl) ?_
                  exact j78 x16 (by omega)
        exact j46 ((60 - 0 : Int).toNat + 1) v1 0 (by first | decide | omega) (by omega) (by omega)
      · obtain ⟨x17, hx17⟩ : ∃ x : Int, x = zbxor a1 (-1) := ⟨_, rfl⟩
        have hx17r : qin x17 := by rw [hx17]; exact qb32 _
        obtain ⟨x18, hx18⟩ : ∃ x : Int, x = zband v2 x17 := ⟨_, rfl⟩
        have hx18r := qband_l v2 x17 (by omega) (by omega); rw [← hx18] at hx18r
        refine zG_w (c' := (18, [.inr (.inr (some 81)), .inl a1, .inl a2, .inl v1, .inl v2], [.inl x18, .inl v1])) 6 hd0 hz (by subst hx18; subst hx17; rfl) ?_
        have j35 : ∀ (v19 v20 : Int) , (-2147483648) ≤ v19 ∧ v19 ≤ 2147483647 → (-2147483648) ≤ v20 ∧ v20 ≤ 2147483647 → zG n (0, 0) d 120 (35, [.inr (.inr (some 81)), .inl a1, .inl a2, .inl v1, .inl v2], [.inl v20, .inl v19]) M (fun v M' => M' = M ∧ qRi (fun x => 0 ≤ x ∧ x ≤ 60) v) := by
          intro v19 v20 hv19 hv20
          obtain ⟨x21, hx21⟩ : ∃ x : Int, x = w32 (v19 + v20) := ⟨_, rfl⟩
          have hx21r : x21 = (v19 + v20 + 2147483648) % 4294967296 - 2147483648 := hx21
          obtain ⟨x22, hx22⟩ : ∃ x : Int, x = w32 (v2 + 1) := ⟨_, rfl⟩
          have hx22e : x22 = v2 + 1 := by rw [hx22]; exact w32_id (by omega)
          refine zG_w (c' := (5, [.inr (.inr (some 81)), .inl a1, .inl a2, .inl x21, .inl x22], [])) 4 hd0 hz (by subst hx22; subst hx21; rfl) ?_
          exact ih5 x21 x22 (by omega) (by omega) (by omega)
        refine zG_wf_ne (pc := 18) (n' := 21) (t := 34) (L := [.inr (.inr (some 81)), .inl a1, .inl a2, .inl v1, .inl v2]) (st := [.inl v1]) (x := x18) 0 hd0 hz (by rfl) (fun hb23 => ?_) (fun hb23 => ?_)
        · refine zG_w (c' := (35, [.inr (.inr (some 81)), .inl a1, .inl a2, .inl v1, .inl v2], [.inl 0, .inl v1])) 1 hd0 hz (by rfl) ?_
          exact j35 v1 0 (by first | decide | omega) (by omega)
        · refine zG_wp (pc := 31) (L := [.inr (.inr (some 81)), .inl a1, .inl a2, .inl v1, .inl v2]) (st := [.inl v1]) 4 hd0 hz zp_106 (qw_get (by first | exact zdk hd rfl | omega) hC (⟨by decide, rfl, rfl⟩ : qT n 85 8 1) v2 (by first | with_reducible exact hv2 | omega) 0 (by first | decide | omega)) (by rfl) (fun x25 hx25 => ?_)
          refine zG_w (c' := (35, [.inr (.inr (some 81)), .inl a1, .inl a2, .inl v1, .inl v2], [.inl x25, .inl v1])) 1 hd0 hz (by rfl) ?_
          exact j35 v1 x25 (by omega) (by omega)
  exact j5 ((a1 - 1 + 1 : Int).toNat + 1) 0 1 (by first | decide | omega) (by omega) (by omega)
theorem qm_119_81 {n d : Nat} {M : zM} (hd : 4 ≤ d) (hC : qCI M) (a1 : Int) (ha1 : (-2147483648) ≤ a1 ∧ a1 ≤ 2147483647) (a2 : Int) (ha2 : (-2147483648) ≤ a2 ∧ a2 ≤ 2147483647) : qOkM n d 119 [.inr (.inr (some 81)), .inl a1, .inl a2] 6 qCI [84, 86] M (qRi (fun x => 0 ≤ x ∧ x ≤ 2147483647)) := by
  have hz := zp_119
  have hd0 : 0 < d := by omega
  have hW : qFr [84, 86] M M := qFr.rfl
  show zG n (0, 0) d 119 (0, [.inr (.inr (some 81)), .inl a1, .inl a2, zN, zN, zN], []) M _
  refine zG_wv (pc := 13) (L := [.inr (.inr (some 81)), .inl a1, .inl a2, .inl 0, zN, zN]) (st := []) 7 hd0 hz zp_109 (qw_fillColumn (by first | exact zdk hd rfl | omega) hC (⟨by decide, rfl, rfl⟩ : qT n 85 8 1) 0 (by first | decide | omega) 0 (by first | decide | omega) 8 (by first | decide | omega)) (by rfl) (fun M1 hr => ?_)
  obtain ⟨hCM1, hFM1⟩ := hr
  have hWM1 : qFr [84, 86] M M1 := hW.tr hFM1 (by decide)
  refine zG_w (c' := (16, [.inr (.inr (some 81)), .inl a1, .inl a2, .inl 0, .inl 0, zN], [])) 2 hd0 hz (by rfl) ?_
  have j16 : ∀ (N : Nat) (v3 v4 : Int) (M5 : zM) , (14 - v4 : Int).toNat < N → 0 ≤ v3 ∧ v3 ≤ 2147483647 → 0 ≤ v4 ∧ v4 ≤ 14 → qCI M5 → qFr [84, 86] M M5 → zG n (0, 0) d 119 (16, [.inr (.inr (some 81)), .inl a1, .inl a2, .inl v3, .inl v4, zN], []) M5 (fun v M' => qWf qCI [84, 86] M M' ∧ qRi (fun x => 0 ≤ x ∧ x ≤ 2147483647) v) := by
    intro N
    induction N with
    | zero => intro v3 v4 M5 hN hv3 hv4 hCM5 hWM5; exact absurd hN (Nat.not_lt_zero _)
    | succ N ih16 =>
      intro v3 v4 M5 hN hv3 hv4 hCM5 hWM5
      replace hN : 14 - v4 < (N : Int) + 1 := by omega
      refine zG_wi_ge (pc := 20) (n' := 23) (t := 90) (L := [.inr (.inr (some 81)), .inl a1, .inl a2, .inl v3, .inl v4, zN]) (st := []) (x := v4) (y := 14) 2 hd0 hz (by rfl) (fun hb6 => ?_) (fun hb6 => ?_)
      · refine zG_w (c' := (93, [.inr (.inr (some 81)), .inl a1, .inl a2, .inl v3, .inl 1, zN], [])) 2 hd0 hz (by rfl) ?_
        have j93 : ∀ (N : Nat) (v7 v8 : Int) , (8 - v8 : Int).toNat < N → 0 ≤ v7 ∧ v7 ≤ 2147483647 → 1 ≤ v8 ∧ v8 ≤ 8 → zG n (0, 0) d 119 (93, [.inr (.inr (some 81)), .inl a1, .inl a2, .inl v7, .inl v8, zN], []) M5 (fun v M' => qWf qCI [84, 86] M M' ∧ qRi (fun x => 0 ≤ x ∧ x ≤ 2147483647) v) := by
          intro N
          induction N with
          | zero => intro v7 v8 hN hv7 hv8; exact absurd hN (Nat.not_lt_zero _)
          | succ N ih93 =>
            intro v7 v8 hN hv7 hv8
            replace hN : 8 - v8 < (N : Int) + 1 := by omega
            refine zG_wi_ge (pc := 97) (n' := 100) (t := 118) (L := [.inr (.inr (some 81)), .inl a1, .inl a2, .inl v7, .inl v8, zN]) (st := []) (x := v8) (y := 8) 2 hd0 hz (by rfl) (fun hb9 => ?_) (fun hb9 => ?_)
            · exact zG_wr (r := some (.inl v7)) 1 hd0 hz (by rfl) ⟨⟨hCM5, hWM5⟩, _, rfl, by omega⟩
            · refine zG_wp (pc := 108) (L := [.inr (.inr (some 81)), .inl a1, .inl a2, .inl v7, .inl v8, zN]) (st := [.inl v7]) 4 hd0 hz zp_120 (qm_120_81 (by first | exact zdk hd rfl | omega) hCM5  v8 (by first | with_reducible exact hv8 | omega) a2 (by first | with_reducible exact ha2 | omega)) (by rfl) (fun x11 hx11 => ?_)
              obtain ⟨x12, hx12⟩ : ∃ x : Int, x = (if v7 < x11 then x11 else v7) := ⟨_, rfl⟩
              have hx12r := qite hx12
              obtain ⟨x13, hx13⟩ : ∃ x : Int, x = w32 (v8 + 1) := ⟨_, rfl⟩
              have hx13e : x13 = v8 + 1 := by rw [hx13]; exact w32_id (by omega)
              refine zG_w (c' := (93, [.inr (.inr (some 81)), .inl a1, .inl a2, .inl x12, .inl x13, zN], [])) 4 hd0 hz (by subst hx13; subst hx12; rfl) ?_
              exact ih93 x12 x13 (by omega) (by omega) (by omega)
        exact j93 ((8 - 1 : Int).toNat + 1) v3 1 (by first | decide | omega) (by omega) (by omega)
      · obtain ⟨x14, hx14⟩ : ∃ x : Int, x = zbshr a1 v4 := ⟨_, rfl⟩
        have hx14r : qin x14 := by rw [hx14]; exact qb32 _
        obtain ⟨x15, hx15⟩ : ∃ x : Int, x = zband x14 1 := ⟨_, rfl⟩
        have hx15r := qband_r x14 1 (by first | decide | omega) (by omega); rw [← hx15] at hx15r
        refine zG_w (c' := (30, [.inr (.inr (some 81)), .inl a1, .inl a2, .inl v3, .inl v4, zN], [.inl 1, .inl x15])) 6 hd0 hz (by subst hx15; subst hx14; rfl) ?_
        have j84 : ∀ (v16 : Int) (M17 : zM) , 0 ≤ v16 ∧ v16 ≤ 2147483647 → qCI M17 → qFr [84, 86] M M17 → zG n (0, 0) d 119 (84, [.inr (.inr (some 81)), .inl a1, .inl a2, .inl v16, .inl v4, zN], []) M17 (fun v M' => qWf qCI [84, 86] M M' ∧ qRi (fun x => 0 ≤ x ∧ x ≤ 2147483647) v) := by
          intro v16 M17 hv16 hCM17 hWM17
          obtain ⟨x18, hx18⟩ : ∃ x : Int, x = w32 (v4 + 1) := ⟨_, rfl⟩
          have hx18e : x18 = v4 + 1 := by rw [hx18]; exact w32_id (by omega)
          refine zG_w (c' := (16, [.inr (.inr (some 81)), .inl a1, .inl a2, .inl v16, .inl x18, zN], [])) 2 hd0 hz (by subst hx18; rfl) ?_
          exact ih16 v16 x18 M17 (by omega) (by omega) (by omega) hCM17 hWM17
        refine zG_wi_ne (pc := 30) (n' := 33) (t := 84) (L := [.inr (.inr (some 81)), .inl a1, .inl a2, .inl v3, .inl v4, zN]) (st := []) (x := x15) (y := 1) 0 hd0 hz (by rfl) (fun hb19 => ?_) (fun hb19 => ?_)
        · exact j84 v3 M5 (by omega) hCM5 hWM5
        · refine zG_wp (pc := 41) (L := [.inr (.inr (some 81)), .inl a1, .inl a2, .inl v3, .inl v4, zN]) (st := []) 4 hd0 hz zp_121 (qm_121_81 (by first | exact zdk hd rfl | omega) hCM5  v4 (by first | with_reducible exact hv4 | omega) a1 (by first | with_reducible exact ha1 | omega) a2 (by first | with_reducible exact ha2 | omega)) (by rfl) (fun x21 hx21 => ?_)
          refine zG_wv (pc := 55) (L := [.inr (.inr (some 81)), .inl a1, .inl a2, .inl v3, .inl v4, .inl x21]) (st := []) 6 hd0 hz zp_107 (qw_set (by first | exact zdk hd rfl | omega) hCM5 (⟨by decide, rfl, rfl⟩ : qT n 83 14 1) v4 (by first | with_reducible exact hv4 | omega) 0 (by first | decide | omega) x21 (by omega)) (by rfl) (fun M22 hr => ?_)
          obtain ⟨hCM22, hFM22⟩ := hr
          have hWM22 : qFr [84, 86] M M22 := hWM5.tr hFM22 (by decide)
          obtain ⟨x24, hx24⟩ : ∃ x : Int, x = (if v3 < x21 then x21 else v3) := ⟨_, rfl⟩
          have hx24r := qite hx24
          refine zG_wp (pc := 79) (L := [.inr (.inr (some 81)), .inl a1, .inl a2, .inl x24, .inl v4, .inl x21]) (st := [.inr (.inr (some 85))]) 11 hd0 hz zp_106 (qw_get (by first | exact zdk hd rfl | omega) hCM22 (⟨by decide, rfl, rfl⟩ : qT n 10 14 4) v4 (by first | with_reducible exact hv4 | omega) 2 (by first | decide | omega)) (by subst hx24; rfl) (fun x26 hx26 => ?_)
          refine zG_wv (pc := 84) (L := [.inr (.inr (some 81)), .inl a1, .inl a2, .inl x24, .inl v4, .inl x21]) (st := []) 2 hd0 hz zp_108 (qw_add (by first | exact zdk hd rfl | omega) hCM22 (⟨by decide, rfl, rfl⟩ : qT n 85 8 1) x26 (by omega) 0 (by first | decide | omega) 1 (by first | decide | omega)) (by rfl) (fun M27 hr => ?_)
          obtain ⟨hCM27, hFM27⟩ := hr
          have hWM27 : qFr [84, 86] M M27 := hWM22.tr hFM27 (by decide)
          exact zG_weak (j84 x24 M27 (by omega) hCM27 hWM27) ⟨.inr rfl, .inr rfl, .inr rfl, .inr rfl, .inr rfl, .inl rfl, trivial⟩
  exact j16 ((14 - 0 : Int).toNat + 1) 0 0 M1 (by omega) (by omega) (by omega) hCM1 hWM1
theorem qr_116_81 : ∀ (K : Nat) {n d : Nat} {M : zM} (hd : 5 + K ≤ d) (hC : qCI M) (a1 : Int) (ha1 : (-2147483648) ≤ a1 ∧ a1 ≤ 2147483647) (a2 : Int) (ha2 : (-2147483648) ≤ a2 ∧ a2 ≤ 2147483647) (a3 : Int) (ha3 : 1 ≤ a3 ∧ a3 ≤ 61) (hK : (61 - a3 : Int).toNat < K), qOkM n d 116 [.inr (.inr (some 81)), .inl a1, .inl a2, .inl a3] 12 qCI [82, 84, 86] M (qRi (fun x => (-2147483648) ≤ x ∧ x ≤ 63)) := by
  intro K
  induction K with
  | zero => intro n d M hd hC a1 ha1 a2 ha2 a3 ha3 hK; exact absurd hK (Nat.not_lt_zero _)
  | succ K ihR =>
    intro n d M hd hC a1 ha1 a2 ha2 a3 ha3 hK
    have hz := zp_116
    have hd0 : 0 < d := by omega
    have hW : qFr [82, 84, 86] M M := qFr.rfl
    show zG n (0, 0) d 116 (0, [.inr (.inr (some 81)), .inl a1, .inl a2, .inl a3, zN, zN, zN, zN, zN, zN, zN, zN], []) M _
    refine zG_wf_ne (pc := 1) (n' := 4) (t := 6) (L := [.inr (.inr (some 81)), .inl a1, .inl a2, .inl a3, zN, zN, zN, zN, zN, zN, zN, zN]) (st := []) (x := a1) 1 hd0 hz (by rfl) (fun hb1 => ?_) (fun hb1 => ?_)
    · refine zG_w (c' := (9, [.inr (.inr (some 81)), .inl a1, .inl a2, .inl a3, zN, zN, zN, zN, zN, zN, zN, zN], [.inl 60, .inl a3])) 2 hd0 hz (by rfl) ?_
      have j25 : zG n (0, 0) d 116 (25, [.inr (.inr (some 81)), .inl a1, .inl a2, .inl a3, zN, zN, zN, zN, zN, zN, zN, zN], []) M (fun v M' => qWf qCI [82, 84, 86] M M' ∧ qRi (fun x => (-2147483648) ≤ x ∧ x ≤ 63) v) := by
        exact zG_wr (r := some (.inl 63)) 1 hd0 hz (by rfl) ⟨⟨hC, hW⟩, _, rfl, by omega⟩
      refine zG_wi_gt (pc := 9) (n' := 12) (t := 25) (L := [.inr (.inr (some 81)), .inl a1, .inl a2, .inl a3, zN, zN, zN, zN, zN, zN, zN, zN]) (st := []) (x := a3) (y := 60) 0 hd0 hz (by rfl) (fun hb2 => ?_) (fun hb2 => ?_)
      · exact j25
      · refine zG_wf_lt (pc := 13) (n' := 16) (t := 25) (L := [.inr (.inr (some 81)), .inl a1, .inl a2, .inl a3, zN, zN, zN, zN, zN, zN, zN, zN]) (st := []) (x := a1) 1 hd0 hz (by rfl) (fun hb3 => ?_) (fun hb3 => ?_)
        · exact j25
        · refine zG_wi_lt (pc := 22) (n' := 25) (t := 28) (L := [.inr (.inr (some 81)), .inl a1, .inl a2, .inl a3, zN, zN, zN, zN, zN, zN, zN, zN]) (st := []) (x := a1) (y := 16384) 4 hd0 hz (by rfl) (fun hb4 => ?_) (fun hb4 => ?_)
          · refine zG_w (c' := (33, [.inr (.inr (some 81)), .inl a1, .inl a2, .inl a3, zN, zN, zN, zN, zN, zN, zN, zN], [.inl a1, .inr (.inr (some 82))])) 3 hd0 hz (by rfl) ?_
            refine zG_iald hd0 hz rfl rfl (.inl rfl) (by omega) ?_
            have hx5 := hC.rng 82 (a1 : Int).toNat (by decide) (by decide)
            generalize M 82 (a1 : Int).toNat = x5 at hx5 ⊢
            show zG n (0, 0) d 116 (34, [.inr (.inr (some 81)), .inl a1, .inl a2, .inl a3, zN, zN, zN, zN, zN, zN, zN, zN], [.inl x5]) M _
            obtain ⟨x6, hx6⟩ : ∃ x : Int, x = w32 (6 * a2) := ⟨_, rfl⟩
            have hx6r : qin x6 := by rw [hx6]; exact w32_in _
            obtain ⟨x7, hx7⟩ : ∃ x : Int, x = zbshr x5 x6 := ⟨_, rfl⟩
            have hx7r : qin x7 := by rw [hx7]; exact qb32 _
            obtain ⟨x8, hx8⟩ : ∃ x : Int, x = zband x7 63 := ⟨_, rfl⟩
            have hx8r := qband_r x7 63 (by first | decide | omega) (by omega); rw [← hx8] at hx8r
            refine zG_wf_eq (pc := 46) (n' := 49) (t := 52) (L := [.inr (.inr (some 81)), .inl a1, .inl a2, .inl a3, .inl x8, zN, zN, zN, zN, zN, zN, zN]) (st := []) (x := x8) 8 hd0 hz (by subst hx8; subst hx7; subst hx6; rfl) (fun hb9 => ?_) (fun hb9 => ?_)
            · refine zG_wp (pc := 58) (L := [.inr (.inr (some 81)), .inl a1, .inl a2, .inl a3, .inl x8, zN, zN, zN, zN, zN, zN, zN]) (st := []) 3 hd0 hz zp_117 (qm_117_81 (by first | exact zdk hd rfl | omega) hC  a1 (by first | with_reducible exact ha1 | omega) a2 (by first | with_reducible exact ha2 | omega)) (by rfl) (fun x11 hx11 => ?_)
              have r12 := hC.rng 81 5 (by decide) (by decide)
              refine zG_wp (pc := 69) (L := [.inr (.inr (some 81)), .inl a1, .inl a2, .inl a3, .inl x8, .inl x11, zN, zN, zN, zN, zN, zN]) (st := [.inl (M 81 5)]) 4 hd0 hz zp_296 (qm_296 (by first | exact zdk hd rfl | omega) hC  x11 (by omega)) (by rfl) (fun x14 hx14 => ?_)
              obtain ⟨x15, hx15⟩ : ∃ x : Int, x = (if x14 < (M 81 5) then x14 else (M 81 5)) := ⟨_, rfl⟩
              have hx15r := qite hx15
              obtain ⟨x16, hx16⟩ : ∃ x : Int, x = w32 (a2 + 1) := ⟨_, rfl⟩
              have hx16r : x16 = (a2 + 1 + 2147483648) % 4294967296 - 2147483648 := hx16
              refine zG_w (c' := (78, [.inr (.inr (some 81)), .inl a1, .inl a2, .inl a3, .inl x8, .inl x11, .inl x15, zN, zN, zN, zN, zN], [.inl 3, .inl x16])) 6 hd0 hz (by subst hx16; subst hx15; rfl) ?_
              refine zG_irem hd0 hz rfl (by omega) ?_
              have hx17 := qtmod_in x16 3 (by first | decide | omega)
              generalize x16.tmod 3 = x17 at hx17 ⊢
              show zG n (0, 0) d 116 (79, [.inr (.inr (some 81)), .inl a1, .inl a2, .inl a3, .inl x8, .inl x11, .inl x15, zN, zN, zN, zN, zN], [.inl x17]) M _
              refine zG_wn (pc := 87) (L := [.inr (.inr (some 81)), .inl a1, .inl a2, .inl a3, .inl x8, .inl x11, .inl x15, .inl x17, zN, zN, zN, zN]) (st := []) 4 hd0 hz zp_119 (qm_119_81 (by first | exact zdk hd rfl | omega) hC  a1 (by first | with_reducible exact ha1 | omega) a2 (by first | with_reducible exact ha2 | omega)) (by rfl) (fun x19 M18 hr hx19 => ?_)
              obtain ⟨hCM18, hFM18⟩ := hr
              have hWM18 : qFr [82, 84, 86] M M18 := hW.tr hFM18 (by decide)
              have e20 : M18 81 5 = M 81 5 := hFM18 81 5 (by decide)
              refine zG_wp (pc := 102) (L := [.inr (.inr (some 81)), .inl a1, .inl a2, .inl a3, .inl x8, .inl x11, .inl x15, .inl x17, .inl x19, .inl 63, .inl 0, zN]) (st := [.inl 1]) 7 hd0 hz zp_296 (qm_296 (by first | exact zdk hd rfl | omega) hCM18  x11 (by omega)) (by rfl) (fun x22 hx22 => ?_)
              obtain ⟨x23, hx23⟩ : ∃ x : Int, x = zbshl 1 x22 := ⟨_, rfl⟩
              have hx23r : qin x23 := by rw [hx23]; exact qb32 _
              refine zG_w (c' := (105, [.inr (.inr (some 81)), .inl a1, .inl a2, .inl a3, .inl x8, .inl x11, .inl x15, .inl x17, .inl x19, .inl 63, .inl 0, .inl x23], [])) 2 hd0 hz (by subst hx23; rfl) ?_
              have j105 : ∀ (N : Nat) (v24 v25 v26 : Int) (M27 : zM) , (v26 : Int).toNat < N → (-2147483648) ≤ v24 ∧ v24 ≤ 63 → (-2147483648) ≤ v25 ∧ v25 ≤ 2147483647 → (-2147483648) ≤ v26 ∧ v26 ≤ 2147483647 → qCI M27 → qFr [82, 84, 86] M M27 → zG n (0, 0) d 116 (105, [.inr (.inr (some 81)), .inl a1, .inl a2, .inl a3, .inl x8, .inl x11, .inl x15, .inl x17, .inl x19, .inl v24, .inl v25, .inl v26], []) M27 (fun v M' => qWf qCI [82, 84, 86] M M' ∧ qRi (fun x => (-2147483648) ≤ x ∧ x ≤ 63) v) := by
                intro N
                induction N with
                | zero => intro v24 v25 v26 M27 hN hv24 hv25 hv26 hCM27 hWM27; exact absurd hN (Nat.not_lt_zero _)
                | succ N ih105 =>
                  intro v24 v25 v26 M27 hN hv24 hv25 hv26 hCM27 hWM27
                  replace hN : v26 < (N : Int) + 1 := by omega
                  refine zG_w (c' := (107, [.inr (.inr (some 81)), .inl a1, .inl a2, .inl a3, .inl x8, .inl x11, .inl x15, .inl x17, .inl x19, .inl v24, .inl v25, .inl v26], [.inl v26])) 1 hd0 hz (by rfl) ?_
                  have j186 : zG n (0, 0) d 116 (186, [.inr (.inr (some 81)), .inl a1, .inl a2, .inl a3, .inl x8, .inl x11, .inl x15, .inl x17, .inl x19, .inl v24, .inl v25, .inl v26], []) M27 (fun v M' => qWf qCI [82, 84, 86] M M' ∧ qRi (fun x => (-2147483648) ≤ x ∧ x ≤ 63) v) := by
                    refine zG_w (c' := (192, [.inr (.inr (some 81)), .inl a1, .inl a2, .inl a3, .inl x8, .inl x11, .inl x15, .inl x17, .inl x19, .inl v24, .inl v25, .inl v26], [.inl a1, .inr (.inr (some 82)), .inl a1, .inr (.inr (some 82))])) 4 hd0 hz (by rfl) ?_
                    refine zG_iald hd0 hz rfl rfl (.inl rfl) (by omega) ?_
                    have hx28 := hCM27.rng 82 (a1 : Int).toNat (by decide) (by decide)
                    generalize M27 82 (a1 : Int).toNat = x28 at hx28 ⊢
                    show zG n (0, 0) d 116 (193, [.inr (.inr (some 81)), .inl a1, .inl a2, .inl a3, .inl x8, .inl x11, .inl x15, .inl x17, .inl x19, .inl v24, .inl v25, .inl v26], [.inl x28, .inl a1, .inr (.inr (some 82))]) M27 _
                    obtain ⟨x29, hx29⟩ : ∃ x : Int, x = w32 (6 * a2) := ⟨_, rfl⟩
                    have hx29r : qin x29 := by rw [hx29]; exact w32_in _
                    obtain ⟨x30, hx30⟩ : ∃ x : Int, x = zbshl v24 x29 := ⟨_, rfl⟩
                    have hx30r : qin x30 := by rw [hx30]; exact qb32 _
                    obtain ⟨x31, hx31⟩ : ∃ x : Int, x = zbor x28 x30 := ⟨_, rfl⟩
                    have hx31r : qin x31 := by rw [hx31]; exact qb32 _
                    refine zG_w (c' := (201, [.inr (.inr (some 81)), .inl a1, .inl a2, .inl a3, .inl x8, .inl x11, .inl x15, .inl x17, .inl x19, .inl v24, .inl v25, .inl v26], [.inl x31, .inl a1, .inr (.inr (some 82))])) 6 hd0 hz (by subst hx31; subst hx30; subst hx29; rfl) ?_
                    refine zG_iast hd0 hz rfl rfl (by omega) ?_
                    obtain ⟨M32, hM32⟩ : ∃ X : zM, X = zput M27 82 (a1 : Int).toNat x31 := ⟨_, rfl⟩
                    rw [← hM32]
                    have hCM32 : qCI M32 := by rw [hM32]; exact hCM27.put (r := 82) rfl (.inl (by omega))
                    have hWM32 : qFr [82, 84, 86] M M32 := by rw [hM32]; exact hWM27.put (by decide)
                    show zG n (0, 0) d 116 (202, [.inr (.inr (some 81)), .inl a1, .inl a2, .inl a3, .inl x8, .inl x11, .inl x15, .inl x17, .inl x19, .inl v24, .inl v25, .inl v26], []) M32 _
                    exact zG_wr (r := some (.inl v24)) 1 hd0 hz (by rfl) ⟨⟨hCM32, hWM32⟩, _, rfl, by omega⟩
                  refine zG_wf_le (pc := 107) (n' := 110) (t := 186) (L := [.inr (.inr (some 81)), .inl a1, .inl a2, .inl a3, .inl x8, .inl x11, .inl x15, .inl x17, .inl x19, .inl v24, .inl v25, .inl v26]) (st := []) (x := v26) 0 hd0 hz (by rfl) (fun hb33 => ?_) (fun hb33 => ?_)
                  · exact j186
                  · refine zG_wi_le (pc := 114) (n' := 117) (t := 186) (L := [.inr (.inr (some 81)), .inl a1, .inl a2, .inl a3, .inl x8, .inl x11, .inl x15, .inl x17, .inl x19, .inl v24, .inl v25, .inl v26]) (st := []) (x := v24) (y := x19) 2 hd0 hz (by rfl) (fun hb34 => ?_) (fun hb34 => ?_)
                    · exact j186
                    · refine zG_wp (pc := 122) (L := [.inr (.inr (some 81)), .inl a1, .inl a2, .inl a3, .inl x8, .inl x11, .inl x15, .inl x17, .inl x19, .inl v24, .inl v25, .inl v26]) (st := []) 1 hd0 hz zp_296 (qm_296 (by first | exact zdk hd rfl | omega) hCM27  v25 (by first | with_reducible exact hv25 | omega)) (by rfl) (fun x36 hx36 => ?_)
                      refine zG_w (c' := (124, [.inr (.inr (some 81)), .inl a1, .inl a2, .inl a3, .inl x8, .inl x11, .inl x15, .inl x17, .inl x19, .inl v24, .inl v25, .inl v26], [.inl x15, .inl x36])) 1 hd0 hz (by rfl) ?_
                      have j170 : ∀ (v37 : Int) (M38 : zM) , (-2147483648) ≤ v37 ∧ v37 ≤ 63 → qCI M38 → qFr [82, 84, 86] M M38 → zG n (0, 0) d 116 (170, [.inr (.inr (some 81)), .inl a1, .inl a2, .inl a3, .inl x8, .inl x11, .inl x15, .inl x17, .inl x19, .inl v37, .inl v25, .inl v26], []) M38 (fun v M' => qWf qCI [82, 84, 86] M M' ∧ qRi (fun x => (-2147483648) ≤ x ∧ x ≤ 63) v) := by
                        intro v37 M38 hv37 hCM38 hWM38
                        obtain ⟨x39, hx39⟩ : ∃ x : Int, x = w32 (v25 - x11) := ⟨_, rfl⟩
                        have hx39r : x39 = (v25 - x11 + 2147483648) % 4294967296 - 2147483648 := hx39
                        obtain ⟨x40, hx40⟩ : ∃ x : Int, x = zband x39 x11 := ⟨_, rfl⟩
                        have hx40r : qin x40 := by rw [hx40]; exact qb32 _
                        obtain ⟨x41, hx41⟩ : ∃ x : Int, x = w32 (v26 + (-1)) := ⟨_, rfl⟩
                        have hx41e : x41 = v26 + (-1) := by rw [hx41]; exact w32_id (by omega)
                        refine zG_w (c' := (105, [.inr (.inr (some 81)), .inl a1, .inl a2, .inl a3, .inl x8, .inl x11, .inl x15, .inl x17, .inl x19, .inl v37, .inl x40, .inl x41], [])) 8 hd0 hz (by subst hx41; subst hx40; subst hx39; rfl) ?_
                        exact ih105 v37 x40 x41 M38 (by omega) (by omega) (by omega) (by omega) hCM38 hWM38
                      refine zG_wi_ne (pc := 124) (n' := 127) (t := 170) (L := [.inr (.inr (some 81)), .inl a1, .inl a2, .inl a3, .inl x8, .inl x11, .inl x15, .inl x17, .inl x19, .inl v24, .inl v25, .inl v26]) (st := []) (x := x36) (y := x15) 0 hd0 hz (by rfl) (fun hb42 => ?_) (fun hb42 => ?_)
                      · exact j170 v24 M27 (by omega) hCM27 hWM27
                      · obtain ⟨x43, hx43⟩ : ∃ x : Int, x = zbxor v25 (-1) := ⟨_, rfl⟩
                        have hx43r : qin x43 := by rw [hx43]; exact qb32 _
                        obtain ⟨x44, hx44⟩ : ∃ x : Int, x = zband a1 x43 := ⟨_, rfl⟩
                        have hx44r := qband_l a1 x43 (by omega) (by omega); rw [← hx44] at hx44r
                        refine zG_wn (pc := 140) (L := [.inr (.inr (some 81)), .inl a1, .inl a2, .inl a3, .inl x8, .inl x11, .inl x15, .inl x17, .inl x19, .inl v24, .inl v25, .inl v26]) (st := [.inl 1]) 8 hd0 hz zp_119 (qm_119_81 (by first | exact zdk hd rfl | omega) hCM27  x44 (by omega) x17 (by omega)) (by subst hx44; subst hx43; rfl) (fun x46 M45 hr hx46 => ?_)
                        obtain ⟨hCM45, hFM45⟩ := hr
                        have hWM45 : qFr [82, 84, 86] M M45 := hWM27.tr hFM45 (by decide)
                        obtain ⟨x47, hx47⟩ : ∃ x : Int, x = w32 (1 + x46) := ⟨_, rfl⟩
                        have hx47r : x47 = (1 + x46 + 2147483648) % 4294967296 - 2147483648 := hx47
                        refine zG_wi_ge (pc := 143) (n' := 146) (t := 170) (L := [.inr (.inr (some 81)), .inl a1, .inl a2, .inl a3, .inl x8, .inl x11, .inl x15, .inl x17, .inl x19, .inl v24, .inl v25, .inl v26]) (st := []) (x := x47) (y := v24) 2 hd0 hz (by subst hx47; rfl) (fun hb48 => ?_) (fun hb48 => ?_)
                        · exact j170 v24 M45 (by omega) hCM45 hWM45
                        · obtain ⟨x49, hx49⟩ : ∃ x : Int, x = zbxor v25 (-1) := ⟨_, rfl⟩
                          have hx49r : qin x49 := by rw [hx49]; exact qb32 _
                          obtain ⟨x50, hx50⟩ : ∃ x : Int, x = zband a1 x49 := ⟨_, rfl⟩
                          have hx50r := qband_l a1 x49 (by omega) (by omega); rw [← hx50] at hx50r
                          obtain ⟨x51, hx51⟩ : ∃ x : Int, x = w32 (a3 + 1) := ⟨_, rfl⟩
                          have hx51e : x51 = a3 + 1 := by rw [hx51]; exact w32_id (by omega)
                          refine zG_wn (pc := 164) (L := [.inr (.inr (some 81)), .inl a1, .inl a2, .inl a3, .inl x8, .inl x11, .inl x15, .inl x17, .inl x19, .inl v24, .inl v25, .inl v26]) (st := [.inl 1, .inl v24]) 12 hd0 hz zp_116 (ihR (by omega) hCM45  x50 (by omega) x17 (by omega) x51 (by omega) (by omega)) (by subst hx51; subst hx50; subst hx49; rfl) (fun x53 M52 hr hx53 => ?_)
                          obtain ⟨hCM52, hFM52⟩ := hr
                          have hWM52 : qFr [82, 84, 86] M M52 := hWM45.tr hFM52 (by decide)
                          obtain ⟨x54, hx54⟩ : ∃ x : Int, x = w32 (1 + x53) := ⟨_, rfl⟩
                          have hx54r : x54 = (1 + x53 + 2147483648) % 4294967296 - 2147483648 := hx54
                          obtain ⟨x55, hx55⟩ : ∃ x : Int, x = (if x54 < v24 then x54 else v24) := ⟨_, rfl⟩
                          have hx55r := qite hx55
                          refine zG_w (c' := (170, [.inr (.inr (some 81)), .inl a1, .inl a2, .inl a3, .inl x8, .inl x11, .inl x15, .inl x17, .inl x19, .inl x55, .inl v25, .inl v26], [])) 3 hd0 hz (by subst hx55; subst hx54; rfl) ?_
                          exact j170 x55 M52 (by omega) hCM52 hWM52
              exact j105 ((x23 : Int).toNat + 1) 63 0 x23 M18 (by omega) (by omega) (by omega) (by omega) hCM18 hWM18
            · exact zG_wr (r := some (.inl x8)) 1 hd0 hz (by rfl) ⟨⟨hC, hW⟩, _, rfl, by omega⟩
          · exact j25
    · exact zG_wr (r := some (.inl 0)) 1 hd0 hz (by rfl) ⟨⟨hC, hW⟩, _, rfl, by omega⟩
theorem qm_116_81 {n d : Nat} {M : zM} (hd : 66 ≤ d) (hC : qCI M) (a1 : Int) (ha1 : (-2147483648) ≤ a1 ∧ a1 ≤ 2147483647) (a2 : Int) (ha2 : (-2147483648) ≤ a2 ∧ a2 ≤ 2147483647) (a3 : Int) (ha3 : 1 ≤ a3 ∧ a3 ≤ 61) : qOkM n d 116 [.inr (.inr (some 81)), .inl a1, .inl a2, .inl a3] 12 qCI [82, 84, 86] M (qRi (fun x => (-2147483648) ≤ x ∧ x ≤ 63)) := qr_116_81 61 (by first | decide | omega) hC a1 ha1 a2 ha2 a3 ha3 (by omega)
theorem qm_113_81 {n d : Nat} {M : zM} (hd : 67 ≤ d) (hC : qCI M) (a1 : Int) (ha1 : (-2147483648) ≤ a1 ∧ a1 ≤ 2147483647) : qOkM n d 113 [.inr (.inr (some 81)), .inl a1] 3 qCI [82, 84, 86] M (qRi (fun x => (-2147483648) ≤ x ∧ x ≤ 60)) := by
  have hz := zp_113
  have hd0 : 0 < d := by omega
  have hW : qFr [82, 84, 86] M M := qFr.rfl
  show zG n (0, 0) d 113 (0, [.inr (.inr (some 81)), .inl a1, zN], []) M _
  have r1 := hC.rng 81 4 (by decide) (by decide)
  refine zG_wn (pc := 10) (L := [.inr (.inr (some 81)), .inl a1, zN]) (st := []) 5 hd0 hz zp_116 (qm_116_81 (by first | exact zdk hd rfl | omega) hC  (M 81 4) (by omega) a1 (by first | with_reducible exact ha1 | omega) 1 (by first | decide | omega)) (by rfl) (fun x3 M2 hr hx3 => ?_)
  obtain ⟨hCM2, hFM2⟩ := hr
  have hWM2 : qFr [82, 84, 86] M M2 := hW.tr hFM2 (by decide)
  have e4 : M2 81 4 = M 81 4 := hFM2 81 4 (by decide)
  refine zG_w (c' := (14, [.inr (.inr (some 81)), .inl a1, .inl x3], [.inl 60, .inl x3])) 3 hd0 hz (by rfl) ?_
  have j22 : ∀ (v5 : Int) , (-2147483648) ≤ v5 ∧ v5 ≤ 60 → zG n (0, 0) d 113 (22, [.inr (.inr (some 81)), .inl a1, .inl x3], [.inl v5]) M2 (fun v M' => qWf qCI [82, 84, 86] M M' ∧ qRi (fun x => (-2147483648) ≤ x ∧ x ≤ 60) v) := by
    intro v5 hv5
    exact zG_wr (r := some (.inl v5)) 0 hd0 hz (by rfl) ⟨⟨hCM2, hWM2⟩, _, rfl, by omega⟩
  refine zG_wi_le (pc := 14) (n' := 17) (t := 21) (L := [.inr (.inr (some 81)), .inl a1, .inl x3]) (st := []) (x := x3) (y := 60) 0 hd0 hz (by rfl) (fun hb6 => ?_) (fun hb6 => ?_)
  · refine zG_w (c' := (22, [.inr (.inr (some 81)), .inl a1, .inl x3], [.inl x3])) 1 hd0 hz (by rfl) ?_
    exact j22 x3 (by omega)
  · refine zG_w (c' := (22, [.inr (.inr (some 81)), .inl a1, .inl x3], [.inl (-1)])) 2 hd0 hz (by rfl) ?_
    exact j22 (-1) (by first | decide | omega)
theorem qm_155_8 {n d : Nat} {M : zM} (hd : 68 ≤ d) (hC : qCI M) (a1 : Int) (ha1 : (-2147483648) ≤ a1 ∧ a1 ≤ 2147483647) (a2 : Int) (ha2 : (-2147483648) ≤ a2 ∧ a2 ≤ 2147483647) (a3 : Int) (ha3 : (-2147483648) ≤ a3 ∧ a3 ≤ 2147483647) (a4 : Int) (ha4 : (-2147483648) ≤ a4 ∧ a4 ≤ 2147483647) (a5 : Int) (ha5 : (-2147483648) ≤ a5 ∧ a5 ≤ 2147483647) (a6 : Int) (ha6 : (-2147483648) ≤ a6 ∧ a6 ≤ 2147483647) : qOkM n d 155 [.inr (.inr (some 8)), .inl a1, .inl a2, .inl a3, .inl a4, .inl a5, .inl a6] 7 qCI [62, 64, 65, 66, 72, 73, 74, 81, 82, 84, 86] M (qRi (fun x => (-2147483648) ≤ x ∧ x ≤ 60)) := by
  have hz := zp_155
  have hd0 : 0 < d := by omega
  have hW : qFr [62, 64, 65, 66, 72, 73, 74, 81, 82, 84, 86] M M := qFr.rfl
  show zG n (0, 0) d 155 (0, [.inr (.inr (some 8)), .inl a1, .inl a2, .inl a3, .inl a4, .inl a5, .inl a6], []) M _
  refine zG_wp (pc := 5) (L := [.inr (.inr (some 8)), .inl a1, .inl a2, .inl a3, .inl a4, .inl a5, .inl a6]) (st := []) 2 hd0 hz zp_174 (qm_174_8 (by first | exact zdk hd rfl | omega) hC  a1 (by first | with_reducible exact ha1 | omega)) (by rfl) (fun x2 hx2 => ?_)
  have j29 : zG n (0, 0) d 155 (29, [.inr (.inr (some 8)), .inl a1, .inl a2, .inl a3, .inl a4, .inl a5, .inl a6], []) M (fun v M' => qWf qCI [62, 64, 65, 66, 72, 73, 74, 81, 82, 84, 86] M M' ∧ qRi (fun x => (-2147483648) ≤ x ∧ x ≤ 60) v) := by
    exact zG_wr (r := some (.inl (-2))) 1 hd0 hz (by rfl) ⟨⟨hC, hW⟩, _, rfl, by omega⟩
  refine zG_wf_eq (pc := 5) (n' := 8) (t := 29) (L := [.inr (.inr (some 8)), .inl a1, .inl a2, .inl a3, .inl a4, .inl a5, .inl a6]) (st := []) (x := x2) 0 hd0 hz (by rfl) (fun hb3 => ?_) (fun hb3 => ?_)
  · exact j29
  · refine zG_wp (pc := 14) (L := [.inr (.inr (some 8)), .inl a1, .inl a2, .inl a3, .inl a4, .inl a5, .inl a6]) (st := [.inl 0, .inl a2]) 3 hd0 hz zp_177 (qm_177_8 (by first | exact zdk hd rfl | omega) hC  ) (by rfl) (fun x5 hx5 => ?_)
    refine zG_wp (pc := 17) (L := [.inr (.inr (some 8)), .inl a1, .inl a2, .inl a3, .inl a4, .inl a5, .inl a6]) (st := []) 0 hd0 hz zp_169 (qm_169 (by first | exact zdk hd rfl | omega) hC  a2 (by first | with_reducible exact ha2 | omega) 0 (by first | decide | omega) x5 (by omega)) (by rfl) (fun x7 hx7 => ?_)
    refine zG_wf_eq (pc := 17) (n' := 20) (t := 29) (L := [.inr (.inr (some 8)), .inl a1, .inl a2, .inl a3, .inl a4, .inl a5, .inl a6]) (st := []) (x := x7) 0 hd0 hz (by rfl) (fun hb8 => ?_) (fun hb8 => ?_)
    · exact j29
    · refine zG_wp (pc := 26) (L := [.inr (.inr (some 8)), .inl a1, .inl a2, .inl a3, .inl a4, .inl a5, .inl a6]) (st := []) 3 hd0 hz zp_169 (qm_169 (by first | exact zdk hd rfl | omega) hC  a3 (by first | with_reducible exact ha3 | omega) 0 (by first | decide | omega) 2 (by first | decide | omega)) (by rfl) (fun x10 hx10 => ?_)
      refine zG_wf_ne (pc := 26) (n' := 29) (t := 32) (L := [.inr (.inr (some 8)), .inl a1, .inl a2, .inl a3, .inl a4, .inl a5, .inl a6]) (st := []) (x := x10) 0 hd0 hz (by rfl) (fun hb11 => ?_) (fun hb11 => ?_)
      · refine zG_wp (pc := 39) (L := [.inr (.inr (some 8)), .inl a1, .inl a2, .inl a3, .inl a4, .inl a5, .inl a6]) (st := []) 3 hd0 hz zp_169 (qm_169 (by first | exact zdk hd rfl | omega) hC  a4 (by first | with_reducible exact ha4 | omega) 1 (by first | decide | omega) 4 (by first | decide | omega)) (by rfl) (fun x13 hx13 => ?_)
        have j58 : zG n (0, 0) d 155 (58, [.inr (.inr (some 8)), .inl a1, .inl a2, .inl a3, .inl a4, .inl a5, .inl a6], []) M (fun v M' => qWf qCI [62, 64, 65, 66, 72, 73, 74, 81, 82, 84, 86] M M' ∧ qRi (fun x => (-2147483648) ≤ x ∧ x ≤ 60) v) := by
          exact zG_wr (r := some (.inl (-2))) 1 hd0 hz (by rfl) ⟨⟨hC, hW⟩, _, rfl, by omega⟩
        refine zG_wf_eq (pc := 39) (n' := 42) (t := 58) (L := [.inr (.inr (some 8)), .inl a1, .inl a2, .inl a3, .inl a4, .inl a5, .inl a6]) (st := []) (x := x13) 0 hd0 hz (by rfl) (fun hb14 => ?_) (fun hb14 => ?_)
        · exact j58
        · refine zG_wp (pc := 47) (L := [.inr (.inr (some 8)), .inl a1, .inl a2, .inl a3, .inl a4, .inl a5, .inl a6]) (st := []) 1 hd0 hz zp_170 (qm_170 (by first | exact zdk hd rfl | omega) hC  a5 (by first | with_reducible exact ha5 | omega)) (by rfl) (fun x16 hx16 => ?_)
          refine zG_wf_eq (pc := 47) (n' := 50) (t := 58) (L := [.inr (.inr (some 8)), .inl a1, .inl a2, .inl a3, .inl a4, .inl a5, .inl a6]) (st := []) (x := x16) 0 hd0 hz (by rfl) (fun hb17 => ?_) (fun hb17 => ?_)
          · exact j58
          · refine zG_wp (pc := 55) (L := [.inr (.inr (some 8)), .inl a1, .inl a2, .inl a3, .inl a4, .inl a5, .inl a6]) (st := []) 1 hd0 hz zp_170 (qm_170 (by first | exact zdk hd rfl | omega) hC  a6 (by first | with_reducible exact ha6 | omega)) (by rfl) (fun x19 hx19 => ?_)
            refine zG_wf_ne (pc := 55) (n' := 58) (t := 61) (L := [.inr (.inr (some 8)), .inl a1, .inl a2, .inl a3, .inl a4, .inl a5, .inl a6]) (st := []) (x := x19) 0 hd0 hz (by rfl) (fun hb20 => ?_) (fun hb20 => ?_)
            · refine zG_wv (pc := 71) (L := [.inr (.inr (some 8)), .inl a1, .inl a2, .inl a3, .inl a4, .inl a5, .inl a6]) (st := []) 4 hd0 hz zp_41 (qm_41_60 (by first | exact zdk hd rfl | omega) hC  a6 (by first | with_reducible exact ha6 | omega) (-1) (by first | decide | omega)) (by rfl) (fun M21 hr => ?_)
              obtain ⟨hCM21, hFM21⟩ := hr
              have hWM21 : qFr [62, 64, 65, 66, 72, 73, 74, 81, 82, 84, 86] M M21 := hW.tr hFM21 (by decide)
              refine zG_wn (pc := 86) (L := [.inr (.inr (some 8)), .inl a1, .inl a2, .inl a3, .inl a4, .inl a5, .inl a6]) (st := [.inl a2, .inr (.inr (some 81))]) 7 hd0 hz zp_32 (qm_32_76 (by first | exact zdk hd rfl | omega) hCM21  a1 (by first | with_reducible exact ha1 | omega) a5 (by first | with_reducible exact ha5 | omega)) (by rfl) (fun x24 M23 hr hx24 => ?_)
              obtain ⟨hCM23, hFM23⟩ := hr
              have hWM23 : qFr [62, 64, 65, 66, 72, 73, 74, 81, 82, 84, 86] M M23 := hWM21.tr hFM23 (by decide)
              refine zG_wv (pc := 91) (L := [.inr (.inr (some 8)), .inl a1, .inl a2, .inl a3, .inl a4, .inl a5, .inl a6]) (st := []) 1 hd0 hz zp_112 (qm_112_81 (by first | exact zdk hd rfl | omega) hCM23  a2 (by first | with_reducible exact ha2 | omega) x24 (by omega) a4 (by first | with_reducible exact ha4 | omega)) (by rfl) (fun M25 hr => ?_)
              obtain ⟨hCM25, hFM25⟩ := hr
              have hWM25 : qFr [62, 64, 65, 66, 72, 73, 74, 81, 82, 84, 86] M M25 := hWM23.tr hFM25 (by decide)
              refine zG_wn (pc := 99) (L := [.inr (.inr (some 8)), .inl a1, .inl a2, .inl a3, .inl a4, .inl a5, .inl a6]) (st := []) 3 hd0 hz zp_113 (qm_113_81 (by first | exact zdk hd rfl | omega) hCM25  a3 (by first | with_reducible exact ha3 | omega)) (by rfl) (fun x28 M27 hr hx28 => ?_)
              obtain ⟨hCM27, hFM27⟩ := hr
              have hWM27 : qFr [62, 64, 65, 66, 72, 73, 74, 81, 82, 84, 86] M M27 := hWM25.tr hFM27 (by decide)
              exact zG_wr (r := some (.inl x28)) 0 hd0 hz (by rfl) ⟨⟨hCM27, hWM27⟩, _, rfl, by omega⟩
            · exact j58
      · exact j29
theorem qm_115_81 {n d : Nat} {M : zM} (hd : 67 ≤ d) (hC : qCI M) (a1 : Int) (ha1 : (-2147483648) ≤ a1 ∧ a1 ≤ 2147483647) (a2 : Int) (ha2 : (-2147483648) ≤ a2 ∧ a2 ≤ 2147483647) (a3 : Int) (ha3 : (-2147483648) ≤ a3 ∧ a3 ≤ 2147483647) : qOkM n d 115 [.inr (.inr (some 81)), .inl a1, .inl a2, .inl a3] 8 qCI [82, 84, 86] M (qRi (fun x => 0 ≤ x ∧ x ≤ 2147483647)) := by
  have hz := zp_115
  have hd0 : 0 < d := by omega
  have hW : qFr [82, 84, 86] M M := qFr.rfl
  show zG n (0, 0) d 115 (0, [.inr (.inr (some 81)), .inl a1, .inl a2, .inl a3, zN, zN, zN, zN], []) M _
  refine zG_wp (pc := 6) (L := [.inr (.inr (some 81)), .inl a1, .inl a2, .inl a3, zN, zN, zN, zN]) (st := []) 3 hd0 hz zp_117 (qm_117_81 (by first | exact zdk hd rfl | omega) hC  a1 (by first | with_reducible exact ha1 | omega) a2 (by first | with_reducible exact ha2 | omega)) (by rfl) (fun x2 hx2 => ?_)
  have r3 := hC.rng 81 5 (by decide) (by decide)
  refine zG_wp (pc := 17) (L := [.inr (.inr (some 81)), .inl a1, .inl a2, .inl a3, .inl x2, zN, zN, zN]) (st := [.inl (M 81 5)]) 4 hd0 hz zp_296 (qm_296 (by first | exact zdk hd rfl | omega) hC  x2 (by omega)) (by rfl) (fun x5 hx5 => ?_)
  obtain ⟨x6, hx6⟩ : ∃ x : Int, x = (if x5 < (M 81 5) then x5 else (M 81 5)) := ⟨_, rfl⟩
  have hx6r := qite hx6
  obtain ⟨x7, hx7⟩ : ∃ x : Int, x = w32 (a2 + 1) := ⟨_, rfl⟩
  have hx7r : x7 = (a2 + 1 + 2147483648) % 4294967296 - 2147483648 := hx7
  refine zG_w (c' := (26, [.inr (.inr (some 81)), .inl a1, .inl a2, .inl a3, .inl x2, .inl x6, zN, zN], [.inl 3, .inl x7])) 6 hd0 hz (by subst hx7; subst hx6; rfl) ?_
  refine zG_irem hd0 hz rfl (by omega) ?_
  have hx8 := qtmod_in x7 3 (by first | decide | omega)
  generalize x7.tmod 3 = x8 at hx8 ⊢
  show zG n (0, 0) d 115 (27, [.inr (.inr (some 81)), .inl a1, .inl a2, .inl a3, .inl x2, .inl x6, zN, zN], [.inl x8]) M _
  refine zG_w (c' := (33, [.inr (.inr (some 81)), .inl a1, .inl a2, .inl a3, .inl x2, .inl x6, .inl x8, .inl x2], [])) 3 hd0 hz (by rfl) ?_
  have j33 : ∀ (N : Nat) (v9 : Int) (M10 : zM) , (v9 : Int).toNat < N → (-2147483648) ≤ v9 ∧ v9 ≤ 2147483647 → qCI M10 → qFr [82, 84, 86] M M10 → zG n (0, 0) d 115 (33, [.inr (.inr (some 81)), .inl a1, .inl a2, .inl a3, .inl x2, .inl x6, .inl x8, .inl v9], []) M10 (fun v M' => qWf qCI [82, 84, 86] M M' ∧ qRi (fun x => 0 ≤ x ∧ x ≤ 2147483647) v) := by
    intro N
    induction N with
    | zero => intro v9 M10 hN hv9 hCM10 hWM10; exact absurd hN (Nat.not_lt_zero _)
    | succ N ih33 =>
      intro v9 M10 hN hv9 hCM10 hWM10
      replace hN : v9 < (N : Int) + 1 := by omega
      refine zG_wf_le (pc := 35) (n' := 38) (t := 80) (L := [.inr (.inr (some 81)), .inl a1, .inl a2, .inl a3, .inl x2, .inl x6, .inl x8, .inl v9]) (st := []) (x := v9) 1 hd0 hz (by rfl) (fun hb11 => ?_) (fun hb11 => ?_)
      · exact zG_wr (r := some (.inl 0)) 1 hd0 hz (by rfl) ⟨⟨hCM10, hWM10⟩, _, rfl, by omega⟩
      · refine zG_wp (pc := 43) (L := [.inr (.inr (some 81)), .inl a1, .inl a2, .inl a3, .inl x2, .inl x6, .inl x8, .inl v9]) (st := []) 1 hd0 hz zp_296 (qm_296 (by first | exact zdk hd rfl | omega) hCM10  v9 (by first | with_reducible exact hv9 | omega)) (by rfl) (fun x13 hx13 => ?_)
        refine zG_w (c' := (45, [.inr (.inr (some 81)), .inl a1, .inl a2, .inl a3, .inl x2, .inl x6, .inl x8, .inl v9], [.inl x6, .inl x13])) 1 hd0 hz (by rfl) ?_
        have j68 : ∀ (M14 : zM) , qCI M14 → qFr [82, 84, 86] M M14 → zG n (0, 0) d 115 (68, [.inr (.inr (some 81)), .inl a1, .inl a2, .inl a3, .inl x2, .inl x6, .inl x8, .inl v9], []) M14 (fun v M' => qWf qCI [82, 84, 86] M M' ∧ qRi (fun x => 0 ≤ x ∧ x ≤ 2147483647) v) := by
          intro M14 hCM14 hWM14
          obtain ⟨x15, hx15⟩ : ∃ x : Int, x = w32 (v9 - 1) := ⟨_, rfl⟩
          have hx15e : x15 = v9 - 1 := by rw [hx15]; exact w32_id (by omega)
          obtain ⟨x16, hx16⟩ : ∃ x : Int, x = zband x15 x2 := ⟨_, rfl⟩
          have hx16r := qband_l x15 x2 (by omega) (by omega); rw [← hx16] at hx16r
          refine zG_w (c' := (33, [.inr (.inr (some 81)), .inl a1, .inl a2, .inl a3, .inl x2, .inl x6, .inl x8, .inl x16], [])) 7 hd0 hz (by subst hx16; subst hx15; rfl) ?_
          exact ih33 x16 M14 (by omega) (by omega) hCM14 hWM14
        refine zG_wi_ne (pc := 45) (n' := 48) (t := 68) (L := [.inr (.inr (some 81)), .inl a1, .inl a2, .inl a3, .inl x2, .inl x6, .inl x8, .inl v9]) (st := []) (x := x13) (y := x6) 0 hd0 hz (by rfl) (fun hb17 => ?_) (fun hb17 => ?_)
        · exact j68 M10 hCM10 hWM10
        · obtain ⟨x18, hx18⟩ : ∃ x : Int, x = zbxor v9 (-1) := ⟨_, rfl⟩
          have hx18r : qin x18 := by rw [hx18]; exact qb32 _
          obtain ⟨x19, hx19⟩ : ∃ x : Int, x = zband a1 x18 := ⟨_, rfl⟩
          have hx19r : qin x19 := by rw [hx19]; exact qb32 _
          refine zG_wn (pc := 61) (L := [.inr (.inr (some 81)), .inl a1, .inl a2, .inl a3, .inl x2, .inl x6, .inl x8, .inl v9]) (st := []) 8 hd0 hz zp_116 (qm_116_81 (by first | exact zdk hd rfl | omega) hCM10  x19 (by omega) x8 (by omega) 1 (by first | decide | omega)) (by subst hx19; subst hx18; rfl) (fun x21 M20 hr hx21 => ?_)
          obtain ⟨hCM20, hFM20⟩ := hr
          have hWM20 : qFr [82, 84, 86] M M20 := hWM10.tr hFM20 (by decide)
          refine zG_wi_gt (pc := 62) (n' := 65) (t := 68) (L := [.inr (.inr (some 81)), .inl a1, .inl a2, .inl a3, .inl x2, .inl x6, .inl x8, .inl v9]) (st := []) (x := x21) (y := a3) 1 hd0 hz (by rfl) (fun hb22 => ?_) (fun hb22 => ?_)
          · exact j68 M20 hCM20 hWM20
          · exact zG_wr (r := some (.inl v9)) 1 hd0 hz (by rfl) ⟨⟨hCM20, hWM20⟩, _, rfl, by omega⟩
  exact j33 ((x2 : Int).toNat + 1) x2 M (by omega) (by omega) hC hW
theorem qm_114_81 {n d : Nat} {M : zM} (hd : 68 ≤ d) (hC : qCI M) (a1 : Int) (ha1 : (-2147483648) ≤ a1 ∧ a1 ≤ 2147483647) (a2 : Int) (ha2 : (-2147483648) ≤ a2 ∧ a2 ≤ 2147483647) (a3 : Int) (ha3 : (-2147483648) ≤ a3 ∧ a3 ≤ 2147483647) : qOkM n d 114 [.inr (.inr (some 81)), .inl a1, .inl a2, .inl a3] 7 qCI [82, 84, 86] M (qRi (fun x => (-1) ≤ x ∧ x ≤ 2147483647)) := by
  have hz := zp_114
  have hd0 : 0 < d := by omega
  have hW : qFr [82, 84, 86] M M := qFr.rfl
  show zG n (0, 0) d 114 (0, [.inr (.inr (some 81)), .inl a1, .inl a2, .inl a3, zN, zN, zN], []) M _
  refine zG_wi_lt (pc := 2) (n' := 5) (t := 7) (L := [.inr (.inr (some 81)), .inl a1, .inl a2, .inl a3, zN, zN, zN]) (st := []) (x := a3) (y := a2) 2 hd0 hz (by rfl) (fun hb1 => ?_) (fun hb1 => ?_)
  · have r2 := hC.rng 81 4 (by decide) (by decide)
    refine zG_w (c' := (19, [.inr (.inr (some 81)), .inl a1, .inl a2, .inl a3, .inl (M 81 4), .inl 0, .inl 0], [])) 7 hd0 hz (by rfl) ?_
    have j19 : ∀ (N : Nat) (v3 v4 v5 : Int) (M6 : zM) , (a3 - v5 + 1 : Int).toNat < N → (-2147483648) ≤ v3 ∧ v3 ≤ 2147483647 → 0 ≤ v4 ∧ v4 ≤ 2147483647 → 0 ≤ v5 ∧ v5 ≤ 2147483647 → qCI M6 → qFr [82, 84, 86] M M6 → zG n (0, 0) d 114 (19, [.inr (.inr (some 81)), .inl a1, .inl a2, .inl a3, .inl v3, .inl v4, .inl v5], []) M6 (fun v M' => qWf qCI [82, 84, 86] M M' ∧ qRi (fun x => (-1) ≤ x ∧ x ≤ 2147483647) v) := by
      intro N
      induction N with
      | zero => intro v3 v4 v5 M6 hN hv3 hv4 hv5 hCM6 hWM6; exact absurd hN (Nat.not_lt_zero _)
      | succ N ih19 =>
        intro v3 v4 v5 M6 hN hv3 hv4 hv5 hCM6 hWM6
        replace hN : a3 - v5 + 1 < (N : Int) + 1 := by omega
        refine zG_wi_gt (pc := 22) (n' := 25) (t := 60) (L := [.inr (.inr (some 81)), .inl a1, .inl a2, .inl a3, .inl v3, .inl v4, .inl v5]) (st := []) (x := v5) (y := a3) 2 hd0 hz (by rfl) (fun hb7 => ?_) (fun hb7 => ?_)
        · exact zG_wr (r := some (.inl v4)) 1 hd0 hz (by rfl) ⟨⟨hCM6, hWM6⟩, _, rfl, by omega⟩
        · obtain ⟨x8, hx8⟩ : ∃ x : Int, x = w32 (a1 + v5) := ⟨_, rfl⟩
          have hx8r : x8 = (a1 + v5 + 2147483648) % 4294967296 - 2147483648 := hx8
          refine zG_w (c' := (33, [.inr (.inr (some 81)), .inl a1, .inl a2, .inl a3, .inl v3, .inl v4, .inl v5], [.inl 3, .inl x8, .inl v3, .inr (.inr (some 81))])) 6 hd0 hz (by subst hx8; rfl) ?_
          refine zG_irem hd0 hz rfl (by omega) ?_
          have hx9 := qtmod_in x8 3 (by first | decide | omega)
          generalize x8.tmod 3 = x9 at hx9 ⊢
          show zG n (0, 0) d 114 (34, [.inr (.inr (some 81)), .inl a1, .inl a2, .inl a3, .inl v3, .inl v4, .inl v5], [.inl x9, .inl v3, .inr (.inr (some 81))]) M6 _
          obtain ⟨x10, hx10⟩ : ∃ x : Int, x = w32 (a2 - v5) := ⟨_, rfl⟩
          have hx10r : x10 = (a2 - v5 + 2147483648) % 4294967296 - 2147483648 := hx10
          obtain ⟨x11, hx11⟩ : ∃ x : Int, x = w32 (x10 - 1) := ⟨_, rfl⟩
          have hx11r : x11 = (x10 - 1 + 2147483648) % 4294967296 - 2147483648 := hx11
          refine zG_wn (pc := 43) (L := [.inr (.inr (some 81)), .inl a1, .inl a2, .inl a3, .inl v3, .inl v4, .inl v5]) (st := []) 5 hd0 hz zp_115 (qm_115_81 (by first | exact zdk hd rfl | omega) hCM6  v3 (by first | with_reducible exact hv3 | omega) x9 (by omega) x11 (by omega)) (by subst hx11; subst hx10; rfl) (fun x13 M12 hr hx13 => ?_)
          obtain ⟨hCM12, hFM12⟩ := hr
          have hWM12 : qFr [82, 84, 86] M M12 := hWM6.tr hFM12 (by decide)
          obtain ⟨x14, hx14⟩ : ∃ x : Int, x = zbxor x13 (-1) := ⟨_, rfl⟩
          have hx14r : qin x14 := by rw [hx14]; exact qb32 _
          obtain ⟨x15, hx15⟩ : ∃ x : Int, x = zband v3 x14 := ⟨_, rfl⟩
          have hx15r : qin x15 := by rw [hx15]; exact qb32 _
          obtain ⟨x16, hx16⟩ : ∃ x : Int, x = w32 (v5 + 1) := ⟨_, rfl⟩
          have hx16e : x16 = v5 + 1 := by rw [hx16]; exact w32_id (by omega)
          refine zG_w (c' := (19, [.inr (.inr (some 81)), .inl a1, .inl a2, .inl a3, .inl x15, .inl x13, .inl x16], [])) 9 hd0 hz (by subst hx16; subst hx15; subst hx14; rfl) ?_
          exact ih19 x15 x13 x16 M12 (by omega) (by omega) (by omega) (by omega) hCM12 hWM12
    exact j19 ((a3 - 0 + 1 : Int).toNat + 1) (M 81 4) 0 0 M (by omega) (by omega) (by omega) (by omega) hC hW
  · exact zG_wr (r := some (.inl (-1))) 1 hd0 hz (by rfl) ⟨⟨hC, hW⟩, _, rfl, by omega⟩
theorem qm_156_8 {n d : Nat} {M : zM} (hd : 69 ≤ d) (hC : qCI M) (a1 : Int) (ha1 : (-2147483648) ≤ a1 ∧ a1 ≤ 2147483647) (a2 : Int) (ha2 : (-2147483648) ≤ a2 ∧ a2 ≤ 2147483647) (a3 : Int) (ha3 : (-2147483648) ≤ a3 ∧ a3 ≤ 2147483647) (a4 : Int) (ha4 : (-2147483648) ≤ a4 ∧ a4 ≤ 2147483647) (a5 : Int) (ha5 : (-2147483648) ≤ a5 ∧ a5 ≤ 2147483647) (a6 : Int) (ha6 : (-2147483648) ≤ a6 ∧ a6 ≤ 2147483647) (a7 : Int) (ha7 : (-2147483648) ≤ a7 ∧ a7 ≤ 2147483647) : qOkM n d 156 [.inr (.inr (some 8)), .inl a1, .inl a2, .inl a3, .inl a4, .inl a5, .inl a6, .inl a7] 9 qCI [62, 64, 65, 66, 72, 73, 74, 81, 82, 84, 86] M (qRi (fun x => (-2147483648) ≤ x ∧ x ≤ 2147483647)) := by
  have hz := zp_156
  have hd0 : 0 < d := by omega
  have hW : qFr [62, 64, 65, 66, 72, 73, 74, 81, 82, 84, 86] M M := qFr.rfl
  show zG n (0, 0) d 156 (0, [.inr (.inr (some 8)), .inl a1, .inl a2, .inl a3, .inl a4, .inl a5, .inl a6, .inl a7, zN], []) M _
  refine zG_wf_ge (pc := 2) (n' := 5) (t := 8) (L := [.inr (.inr (some 8)), .inl a1, .inl a2, .inl a3, .inl a4, .inl a5, .inl a6, .inl a7, zN]) (st := []) (x := a7) 1 hd0 hz (by rfl) (fun hb1 => ?_) (fun hb1 => ?_)
  · refine zG_wn (pc := 21) (L := [.inr (.inr (some 8)), .inl a1, .inl a2, .inl a3, .inl a4, .inl a5, .inl a6, .inl a7, zN]) (st := []) 7 hd0 hz zp_155 (qm_155_8 (by first | exact zdk hd rfl | omega) hC  a1 (by first | with_reducible exact ha1 | omega) a2 (by first | with_reducible exact ha2 | omega) a3 (by first | with_reducible exact ha3 | omega) a4 (by first | with_reducible exact ha4 | omega) a5 (by first | with_reducible exact ha5 | omega) a6 (by first | with_reducible exact ha6 | omega)) (by rfl) (fun x3 M2 hr hx3 => ?_)
    obtain ⟨hCM2, hFM2⟩ := hr
    have hWM2 : qFr [62, 64, 65, 66, 72, 73, 74, 81, 82, 84, 86] M M2 := hW.tr hFM2 (by decide)
    refine zG_w (c' := (25, [.inr (.inr (some 8)), .inl a1, .inl a2, .inl a3, .inl a4, .inl a5, .inl a6, .inl a7, .inl x3], [.inl x3])) 2 hd0 hz (by rfl) ?_
    have j45 : ∀ (v4 : Int) (M5 : zM) , (-2147483648) ≤ v4 ∧ v4 ≤ 2147483647 → qCI M5 → qFr [62, 64, 65, 66, 72, 73, 74, 81, 82, 84, 86] M M5 → zG n (0, 0) d 156 (45, [.inr (.inr (some 8)), .inl a1, .inl a2, .inl a3, .inl a4, .inl a5, .inl a6, .inl a7, .inl x3], [.inl v4]) M5 (fun v M' => qWf qCI [62, 64, 65, 66, 72, 73, 74, 81, 82, 84, 86] M M' ∧ qRi (fun x => (-2147483648) ≤ x ∧ x ≤ 2147483647) v) := by
      intro v4 M5 hv4 hCM5 hWM5
      exact zG_wr (r := some (.inl v4)) 0 hd0 hz (by rfl) ⟨⟨hCM5, hWM5⟩, _, rfl, by omega⟩
    refine zG_wf_ge (pc := 25) (n' := 28) (t := 33) (L := [.inr (.inr (some 8)), .inl a1, .inl a2, .inl a3, .inl a4, .inl a5, .inl a6, .inl a7, .inl x3]) (st := []) (x := x3) 0 hd0 hz (by rfl) (fun hb6 => ?_) (fun hb6 => ?_)
    · refine zG_wn (pc := 45) (L := [.inr (.inr (some 8)), .inl a1, .inl a2, .inl a3, .inl a4, .inl a5, .inl a6, .inl a7, .inl x3]) (st := []) 5 hd0 hz zp_114 (qm_114_81 (by first | exact zdk hd rfl | omega) hCM2  a3 (by first | with_reducible exact ha3 | omega) x3 (by omega) a7 (by first | with_reducible exact ha7 | omega)) (by rfl) (fun x8 M7 hr hx8 => ?_)
      obtain ⟨hCM7, hFM7⟩ := hr
      have hWM7 : qFr [62, 64, 65, 66, 72, 73, 74, 81, 82, 84, 86] M M7 := hWM2.tr hFM7 (by decide)
      exact j45 x8 M7 (by omega) hCM7 hWM7
    · refine zG_w (c' := (45, [.inr (.inr (some 8)), .inl a1, .inl a2, .inl a3, .inl a4, .inl a5, .inl a6, .inl a7, .inl x3], [.inl x3])) 2 hd0 hz (by rfl) ?_
      exact j45 x3 M2 (by omega) hCM2 hWM2
  · exact zG_wr (r := some (.inl (-2))) 1 hd0 hz (by rfl) ⟨⟨hC, hW⟩, _, rfl, by omega⟩
theorem qm_157_8 {n d : Nat} {M : zM} (hd : 3 ≤ d) (hC : qCI M) (a1 : Int) (ha1 : (-2147483648) ≤ a1 ∧ a1 ≤ 2147483647) (a2 : Int) (ha2 : (-2147483648) ≤ a2 ∧ a2 ≤ 2147483647) (a3 : Int) (ha3 : 0 ≤ a3 ∧ a3 ≤ 1) : qOkM n d 157 [.inr (.inr (some 8)), .inl a1, .inl a2, .inl a3] 6 qCI [13] M (qRi (fun x => (-3) ≤ x ∧ x ≤ 1)) := by
  have hz := zp_157
  have hd0 : 0 < d := by omega
  have hW : qFr [13] M M := qFr.rfl
  show zG n (0, 0) d 157 (0, [.inr (.inr (some 8)), .inl a1, .inl a2, .inl a3, zN, zN], []) M _
  refine zG_wp (pc := 5) (L := [.inr (.inr (some 8)), .inl a1, .inl a2, .inl a3, zN, zN]) (st := []) 2 hd0 hz zp_174 (qm_174_8 (by first | exact zdk hd rfl | omega) hC  a1 (by first | with_reducible exact ha1 | omega)) (by rfl) (fun x2 hx2 => ?_)
  have j16 : zG n (0, 0) d 157 (16, [.inr (.inr (some 8)), .inl a1, .inl a2, .inl a3, zN, zN], []) M (fun v M' => qWf qCI [13] M M' ∧ qRi (fun x => (-3) ≤ x ∧ x ≤ 1) v) := by
    exact zG_wr (r := some (.inl (-2))) 1 hd0 hz (by rfl) ⟨⟨hC, hW⟩, _, rfl, by omega⟩
  refine zG_wf_eq (pc := 5) (n' := 8) (t := 16) (L := [.inr (.inr (some 8)), .inl a1, .inl a2, .inl a3, zN, zN]) (st := []) (x := x2) 0 hd0 hz (by rfl) (fun hb3 => ?_) (fun hb3 => ?_)
  · exact j16
  · refine zG_wp (pc := 13) (L := [.inr (.inr (some 8)), .inl a1, .inl a2, .inl a3, zN, zN]) (st := []) 2 hd0 hz zp_175 (qm_175_8 (by first | exact zdk hd rfl | omega) hC  a2 (by first | with_reducible exact ha2 | omega)) (by rfl) (fun x5 hx5 => ?_)
    refine zG_wf_ne (pc := 13) (n' := 16) (t := 19) (L := [.inr (.inr (some 8)), .inl a1, .inl a2, .inl a3, zN, zN]) (st := []) (x := x5) 0 hd0 hz (by rfl) (fun hb6 => ?_) (fun hb6 => ?_)
    · refine zG_wp (pc := 31) (L := [.inr (.inr (some 8)), .inl a1, .inl a2, .inl a3, zN, zN]) (st := []) 5 hd0 hz zp_106 (qw_get (by first | exact zdk hd rfl | omega) hC (⟨by decide, rfl, rfl⟩ : qT n 12 20 3) a1 (by first | with_reducible exact ha1 | omega) 2 (by first | decide | omega)) (by rfl) (fun x8 hx8 => ?_)
      obtain ⟨x9, hx9⟩ : ∃ x : Int, x = zbshr x8 a2 := ⟨_, rfl⟩
      have hx9r : qin x9 := by rw [hx9]; exact qb32 _
      obtain ⟨x10, hx10⟩ : ∃ x : Int, x = zband x9 1 := ⟨_, rfl⟩
      have hx10r := qband_r x9 1 (by first | decide | omega) (by omega); rw [← hx10] at hx10r
      refine zG_w (c' := (40, [.inr (.inr (some 8)), .inl a1, .inl a2, .inl a3, .inl x8, zN], [.inl 1, .inl x10])) 7 hd0 hz (by subst hx10; subst hx9; rfl) ?_
      have j48 : ∀ (v11 : Int) , 0 ≤ v11 ∧ v11 ≤ 1 → zG n (0, 0) d 157 (48, [.inr (.inr (some 8)), .inl a1, .inl a2, .inl a3, .inl x8, zN], [.inl v11]) M (fun v M' => qWf qCI [13] M M' ∧ qRi (fun x => (-3) ≤ x ∧ x ≤ 1) v) := by
        intro v11 hv11
        refine zG_wi_ne (pc := 53) (n' := 56) (t := 59) (L := [.inr (.inr (some 8)), .inl a1, .inl a2, .inl a3, .inl x8, .inl v11]) (st := []) (x := v11) (y := a3) 3 hd0 hz (by rfl) (fun hb12 => ?_) (fun hb12 => ?_)
        · obtain ⟨x13, hx13⟩ : ∃ x : Int, x = zbshl 1 a2 := ⟨_, rfl⟩
          have hx13r : qin x13 := by rw [hx13]; exact qb32 _
          obtain ⟨x14, hx14⟩ : ∃ x : Int, x = zbxor x8 x13 := ⟨_, rfl⟩
          have hx14r : qin x14 := by rw [hx14]; exact qb32 _
          refine zG_wv (pc := 77) (L := [.inr (.inr (some 8)), .inl a1, .inl a2, .inl a3, .inl x8, .inl v11]) (st := []) 10 hd0 hz zp_107 (qw_set (by first | exact zdk hd rfl | omega) hC (⟨by decide, rfl, rfl⟩ : qT n 12 20 3) a1 (by first | with_reducible exact ha1 | omega) 2 (by first | decide | omega) x14 (by omega)) (by subst hx14; subst hx13; rfl) (fun M15 hr => ?_)
          obtain ⟨hCM15, hFM15⟩ := hr
          have hWM15 : qFr [13] M M15 := hW.tr hFM15 (by decide)
          exact zG_wr (r := some (.inl 1)) 1 hd0 hz (by rfl) ⟨⟨hCM15, hWM15⟩, _, rfl, by omega⟩
        · exact zG_wr (r := some (.inl (-3))) 1 hd0 hz (by rfl) ⟨⟨hC, hW⟩, _, rfl, by omega⟩
      refine zG_wi_ne (pc := 40) (n' := 43) (t := 47) (L := [.inr (.inr (some 8)), .inl a1, .inl a2, .inl a3, .inl x8, zN]) (st := []) (x := x10) (y := 1) 0 hd0 hz (by rfl) (fun hb17 => ?_) (fun hb17 => ?_)
      · refine zG_w (c' := (48, [.inr (.inr (some 8)), .inl a1, .inl a2, .inl a3, .inl x8, zN], [.inl 0])) 1 hd0 hz (by rfl) ?_
        exact j48 0 (by first | decide | omega)
      · refine zG_w (c' := (48, [.inr (.inr (some 8)), .inl a1, .inl a2, .inl a3, .inl x8, zN], [.inl 1])) 2 hd0 hz (by rfl) ?_
        exact j48 1 (by first | decide | omega)
    · exact j16
theorem qm_70_87 {n d : Nat} {M : zM} (hd : 2 ≤ d) (hC : qCI M) (a1 : Int) (ha1 : (-2147483648) ≤ a1 ∧ a1 ≤ 2147483647) : qOkP n d 70 [.inr (.inr (some 87)), .inl a1] 4 M (qRi (fun x => (-2147483648) ≤ x ∧ x ≤ 2147483647)) := by
  have hz := zp_70
  have hd0 : 0 < d := by omega
  show zG n (0, 0) d 70 (0, [.inr (.inr (some 87)), .inl a1, zN, zN], []) M _
  refine zG_w (c' := (4, [.inr (.inr (some 87)), .inl a1, .inl 0, .inl 0], [])) 4 hd0 hz (by rfl) ?_
  have j4 : ∀ (N : Nat) (v1 v2 : Int) , (20 - v2 : Int).toNat < N → (-2147483648) ≤ v1 ∧ v1 ≤ 2147483647 → 0 ≤ v2 ∧ v2 ≤ 20 → zG n (0, 0) d 70 (4, [.inr (.inr (some 87)), .inl a1, .inl v1, .inl v2], []) M (fun v M' => M' = M ∧ qRi (fun x => (-2147483648) ≤ x ∧ x ≤ 2147483647) v) := by
    intro N
    induction N with
    | zero => intro v1 v2 hN hv1 hv2; exact absurd hN (Nat.not_lt_zero _)
    | succ N ih4 =>
      intro v1 v2 hN hv1 hv2
      replace hN : 20 - v2 < (N : Int) + 1 := by omega
      refine zG_wp (pc := 15) (L := [.inr (.inr (some 87)), .inl a1, .inl v1, .inl v2]) (st := [.inl v2]) 4 hd0 hz zp_101 (qw_size (by first | exact zdk hd rfl | omega) hC (⟨by decide, rfl, rfl⟩ : qT n 12 20 3) ) (by rfl) (fun x4 hx4 => ?_)
      refine zG_wi_ge (pc := 15) (n' := 18) (t := 50) (L := [.inr (.inr (some 87)), .inl a1, .inl v1, .inl v2]) (st := []) (x := v2) (y := x4) 0 hd0 hz (by rfl) (fun hb5 => ?_) (fun hb5 => ?_)
      · exact zG_wr (r := some (.inl v1)) 1 hd0 hz (by rfl) ⟨rfl, _, rfl, by omega⟩
      · refine zG_wp (pc := 30) (L := [.inr (.inr (some 87)), .inl a1, .inl v1, .inl v2]) (st := []) 5 hd0 hz zp_106 (qw_get (by first | exact zdk hd rfl | omega) hC (⟨by decide, rfl, rfl⟩ : qT n 12 20 3) v2 (by first | with_reducible exact hv2 | omega) 2 (by first | decide | omega)) (by rfl) (fun x7 hx7 => ?_)
        obtain ⟨x8, hx8⟩ : ∃ x : Int, x = zbshr x7 a1 := ⟨_, rfl⟩
        have hx8r : qin x8 := by rw [hx8]; exact qb32 _
        obtain ⟨x9, hx9⟩ : ∃ x : Int, x = zband x8 1 := ⟨_, rfl⟩
        have hx9r := qband_r x8 1 (by first | decide | omega) (by omega); rw [← hx9] at hx9r
        refine zG_w (c' := (35, [.inr (.inr (some 87)), .inl a1, .inl v1, .inl v2], [.inl 1, .inl x9])) 5 hd0 hz (by subst hx9; subst hx8; rfl) ?_
        have j44 : ∀ (v10 : Int) , (-2147483648) ≤ v10 ∧ v10 ≤ 2147483647 → zG n (0, 0) d 70 (44, [.inr (.inr (some 87)), .inl a1, .inl v10, .inl v2], []) M (fun v M' => M' = M ∧ qRi (fun x => (-2147483648) ≤ x ∧ x ≤ 2147483647) v) := by
          intro v10 hv10
          obtain ⟨x11, hx11⟩ : ∃ x : Int, x = w32 (v2 + 1) := ⟨_, rfl⟩
          have hx11e : x11 = v2 + 1 := by rw [hx11]; exact w32_id (by omega)
          refine zG_w (c' := (4, [.inr (.inr (some 87)), .inl a1, .inl v10, .inl x11], [])) 2 hd0 hz (by subst hx11; rfl) ?_
          exact ih4 v10 x11 (by omega) (by omega) (by omega)
        refine zG_wi_ne (pc := 35) (n' := 38) (t := 44) (L := [.inr (.inr (some 87)), .inl a1, .inl v1, .inl v2]) (st := []) (x := x9) (y := 1) 0 hd0 hz (by rfl) (fun hb12 => ?_) (fun hb12 => ?_)
        · exact j44 v1 (by first | with_reducible exact hv1 | omega)
        · obtain ⟨x13, hx13⟩ : ∃ x : Int, x = zbshl 1 v2 := ⟨_, rfl⟩
          have hx13r : qin x13 := by rw [hx13]; exact qb32 _
          obtain ⟨x14, hx14⟩ : ∃ x : Int, x = zbor v1 x13 := ⟨_, rfl⟩
          have hx14r : qin x14 := by rw [hx14]; exact qb32 _
          refine zG_w (c' := (44, [.inr (.inr (some 87)), .inl a1, .inl x14, .inl v2], [])) 6 hd0 hz (by subst hx14; subst hx13; rfl) ?_
          exact j44 x14 (by omega)
  exact j4 ((20 - 0 : Int).toNat + 1) 0 0 (by first | decide | omega) (by omega) (by omega)
theorem qm_72_87 {n d : Nat} {M : zM} (hd : 2 ≤ d) (hC : qCI M) (a1 : Int) (ha1 : 0 ≤ a1 ∧ a1 ≤ 8) (a2 : Int) (ha2 : 0 ≤ a2 ∧ a2 ≤ 8) : qOkP n d 72 [.inr (.inr (some 87)), .inl a1, .inl a2] 3 M (qRi (fun x => 0 ≤ x ∧ x ≤ 1)) := by
  have hz := zp_72
  have hd0 : 0 < d := by omega
  show zG n (0, 0) d 72 (0, [.inr (.inr (some 87)), .inl a1, .inl a2], []) M _
  refine zG_w (c' := (5, [.inr (.inr (some 87)), .inl a1, .inl a2], [.inl a1, .inr (.inr (some 90))])) 3 hd0 hz (by rfl) ?_
  refine zG_iald hd0 hz rfl rfl (.inl rfl) (by omega) ?_
  have hx1 := hC.rng 90 (a1 : Int).toNat (by decide) (by decide)
  generalize M 90 (a1 : Int).toNat = x1 at hx1 ⊢
  show zG n (0, 0) d 72 (6, [.inr (.inr (some 87)), .inl a1, .inl a2], [.inl x1]) M _
  refine zG_w (c' := (11, [.inr (.inr (some 87)), .inl a1, .inl a2], [.inl a2, .inr (.inr (some 88)), .inl x1])) 3 hd0 hz (by rfl) ?_
  refine zG_iald hd0 hz rfl rfl (.inl rfl) (by omega) ?_
  have hx2 := hC.rng 88 (a2 : Int).toNat (by decide) (by decide)
  generalize M 88 (a2 : Int).toNat = x2 at hx2 ⊢
  show zG n (0, 0) d 72 (12, [.inr (.inr (some 87)), .inl a1, .inl a2], [.inl x2, .inl x1]) M _
  obtain ⟨x3, hx3⟩ : ∃ x : Int, x = zband x1 x2 := ⟨_, rfl⟩
  have hx3r : qin x3 := by rw [hx3]; exact qb32 _
  refine zG_w (c' := (13, [.inr (.inr (some 87)), .inl a1, .inl a2], [.inl x3])) 1 hd0 hz (by subst hx3; rfl) ?_
  have j44 : ∀ (v4 : Int) , 0 ≤ v4 ∧ v4 ≤ 1 → zG n (0, 0) d 72 (44, [.inr (.inr (some 87)), .inl a1, .inl a2], [.inl v4]) M (fun v M' => M' = M ∧ qRi (fun x => 0 ≤ x ∧ x ≤ 1) v) := by
    intro v4 hv4
    exact zG_zret hd0 hz rfl (by omega) ⟨rfl, _, rfl, by omega⟩
  have j43 : zG n (0, 0) d 72 (43, [.inr (.inr (some 87)), .inl a1, .inl a2], []) M (fun v M' => M' = M ∧ qRi (fun x => 0 ≤ x ∧ x ≤ 1) v) := by
    refine zG_w (c' := (44, [.inr (.inr (some 87)), .inl a1, .inl a2], [.inl 0])) 1 hd0 hz (by rfl) ?_
    exact j44 0 (by first | decide | omega)
  refine zG_wf_ne (pc := 13) (n' := 16) (t := 43) (L := [.inr (.inr (some 87)), .inl a1, .inl a2]) (st := []) (x := x3) 0 hd0 hz (by rfl) (fun hb5 => ?_) (fun hb5 => ?_)
  · exact j43
  · refine zG_w (c' := (21, [.inr (.inr (some 87)), .inl a1, .inl a2], [.inl a1, .inr (.inr (some 91))])) 3 hd0 hz (by rfl) ?_
    refine zG_iald hd0 hz rfl rfl (.inl rfl) (by omega) ?_
    have hx6 := hC.rng 91 (a1 : Int).toNat (by decide) (by decide)
    generalize M 91 (a1 : Int).toNat = x6 at hx6 ⊢
    show zG n (0, 0) d 72 (22, [.inr (.inr (some 87)), .inl a1, .inl a2], [.inl x6]) M _
    refine zG_w (c' := (27, [.inr (.inr (some 87)), .inl a1, .inl a2], [.inl a2, .inr (.inr (some 88)), .inl x6])) 3 hd0 hz (by rfl) ?_
    refine zG_iald hd0 hz rfl rfl (.inl rfl) (by omega) ?_
    have hx7 := hC.rng 88 (a2 : Int).toNat (by decide) (by decide)
    generalize M 88 (a2 : Int).toNat = x7 at hx7 ⊢
    show zG n (0, 0) d 72 (28, [.inr (.inr (some 87)), .inl a1, .inl a2], [.inl x7, .inl x6]) M _
    refine zG_wp (pc := 31) (L := [.inr (.inr (some 87)), .inl a1, .inl a2]) (st := [.inl x6]) 0 hd0 hz zp_296 (qm_296 (by first | exact zdk hd rfl | omega) hC  x7 (by omega)) (by rfl) (fun x9 hx9 => ?_)
    obtain ⟨x10, hx10⟩ : ∃ x : Int, x = w32 (x6 + x9) := ⟨_, rfl⟩
    have hx10r : x10 = (x6 + x9 + 2147483648) % 4294967296 - 2147483648 := hx10
    have r11 := hC.rng 87 6 (by decide) (by decide)
    refine zG_wi_gt (pc := 36) (n' := 39) (t := 43) (L := [.inr (.inr (some 87)), .inl a1, .inl a2]) (st := []) (x := x10) (y := (M 87 6)) 3 hd0 hz (by subst hx10; rfl) (fun hb12 => ?_) (fun hb12 => ?_)
    · exact j43
    · refine zG_w (c' := (44, [.inr (.inr (some 87)), .inl a1, .inl a2], [.inl 1])) 2 hd0 hz (by rfl) ?_
      exact j44 1 (by first | decide | omega)
theorem qr_71_87 : ∀ (K : Nat) {n d : Nat} {M : zM} (hd : 3 + K ≤ d) (hC : qCI M) (a1 : Int) (ha1 : 0 ≤ a1 ∧ a1 ≤ 9) (a2 : Int) (ha2 : (-2147483648) ≤ a2 ∧ a2 ≤ 2147483647) (a3 : Int) (ha3 : (-2147483648) ≤ a3 ∧ a3 ≤ 2147483647) (hK : (9 - a1 : Int).toNat < K), qOkM n d 71 [.inr (.inr (some 87)), .inl a1, .inl a2, .inl a3] 7 qCI [89, 90, 91] M (qRi (fun x => 0 ≤ x ∧ x ≤ 1)) := by
  intro K
  induction K with
  | zero => intro n d M hd hC a1 ha1 a2 ha2 a3 ha3 hK; exact absurd hK (Nat.not_lt_zero _)
  | succ K ihR =>
    intro n d M hd hC a1 ha1 a2 ha2 a3 ha3 hK
    have hz := zp_71
    have hd0 : 0 < d := by omega
    have hW : qFr [89, 90, 91] M M := qFr.rfl
    show zG n (0, 0) d 71 (0, [.inr (.inr (some 87)), .inl a1, .inl a2, .inl a3, zN, zN, zN], []) M _
    have r1 := hC.pp
    refine zG_w (c' := (5, [.inr (.inr (some 87)), .inl a1, .inl a2, .inl a3, zN, zN, zN], [.inl (M 87 5), .inl a1])) 3 hd0 hz (by rfl) ?_
    have j14 : zG n (0, 0) d 71 (14, [.inr (.inr (some 87)), .inl a1, .inl a2, .inl a3, zN, zN, zN], []) M (fun v M' => qWf qCI [89, 90, 91] M M' ∧ qRi (fun x => 0 ≤ x ∧ x ≤ 1) v) := by
      exact zG_wr (r := some (.inl 1)) 1 hd0 hz (by rfl) ⟨⟨hC, hW⟩, _, rfl, by omega⟩
    refine zG_wi_ge (pc := 5) (n' := 8) (t := 14) (L := [.inr (.inr (some 87)), .inl a1, .inl a2, .inl a3, zN, zN, zN]) (st := []) (x := a1) (y := (M 87 5)) 0 hd0 hz (by rfl) (fun hb2 => ?_) (fun hb2 => ?_)
    · exact j14
    · refine zG_wi_lt (pc := 11) (n' := 14) (t := 16) (L := [.inr (.inr (some 87)), .inl a1, .inl a2, .inl a3, zN, zN, zN]) (st := []) (x := a1) (y := 9) 2 hd0 hz (by rfl) (fun hb3 => ?_) (fun hb3 => ?_)
      · refine zG_w (c' := (19, [.inr (.inr (some 87)), .inl a1, .inl a2, .inl a3, .inl 0, zN, zN], [])) 2 hd0 hz (by rfl) ?_
        have j19 : ∀ (N : Nat) (v4 : Int) (M5 : zM) , (9 - v4 : Int).toNat < N → 0 ≤ v4 ∧ v4 ≤ 9 → qCI M5 → qFr [89, 90, 91] M M5 → zG n (0, 0) d 71 (19, [.inr (.inr (some 87)), .inl a1, .inl a2, .inl a3, .inl v4, zN, zN], []) M5 (fun v M' => qWf qCI [89, 90, 91] M M' ∧ qRi (fun x => 0 ≤ x ∧ x ≤ 1) v) := by
          intro N
          induction N with
          | zero => intro v4 M5 hN hv4 hCM5 hWM5; exact absurd hN (Nat.not_lt_zero _)
          | succ N ih19 =>
            intro v4 M5 hN hv4 hCM5 hWM5
            replace hN : 9 - v4 < (N : Int) + 1 := by omega
            refine zG_w (c' := (22, [.inr (.inr (some 87)), .inl a1, .inl a2, .inl a3, .inl v4, zN, zN], [.inl a2, .inl v4])) 2 hd0 hz (by rfl) ?_
            have j176 : zG n (0, 0) d 71 (176, [.inr (.inr (some 87)), .inl a1, .inl a2, .inl a3, .inl v4, zN, zN], []) M5 (fun v M' => qWf qCI [89, 90, 91] M M' ∧ qRi (fun x => 0 ≤ x ∧ x ≤ 1) v) := by
              exact zG_wr (r := some (.inl 0)) 1 hd0 hz (by rfl) ⟨⟨hCM5, hWM5⟩, _, rfl, by omega⟩
            refine zG_wi_gt (pc := 22) (n' := 25) (t := 176) (L := [.inr (.inr (some 87)), .inl a1, .inl a2, .inl a3, .inl v4, zN, zN]) (st := []) (x := v4) (y := a2) 0 hd0 hz (by rfl) (fun hb6 => ?_) (fun hb6 => ?_)
            · exact j176
            · refine zG_wi_ge (pc := 28) (n' := 31) (t := 176) (L := [.inr (.inr (some 87)), .inl a1, .inl a2, .inl a3, .inl v4, zN, zN]) (st := []) (x := v4) (y := a3) 2 hd0 hz (by rfl) (fun hb7 => ?_) (fun hb7 => ?_)
              · exact j176
              · refine zG_wi_ge (pc := 35) (n' := 38) (t := 176) (L := [.inr (.inr (some 87)), .inl a1, .inl a2, .inl a3, .inl v4, zN, zN]) (st := []) (x := v4) (y := 9) 2 hd0 hz (by rfl) (fun hb8 => ?_) (fun hb8 => ?_)
                · exact j176
                · refine zG_w (c' := (41, [.inr (.inr (some 87)), .inl a1, .inl a2, .inl a3, .inl v4, zN, zN], [.inl a2, .inl v4])) 2 hd0 hz (by rfl) ?_
                  have j60 : ∀ (M9 : zM) , qCI M9 → qFr [89, 90, 91] M M9 → zG n (0, 0) d 71 (60, [.inr (.inr (some 87)), .inl a1, .inl a2, .inl a3, .inl v4, zN, zN], []) M9 (fun v M' => qWf qCI [89, 90, 91] M M' ∧ qRi (fun x => 0 ≤ x ∧ x ≤ 1) v) := by
                    intro M9 hCM9 hWM9
                    refine zG_wp (pc := 67) (L := [.inr (.inr (some 87)), .inl a1, .inl a2, .inl a3, .inl v4, zN, zN]) (st := []) 3 hd0 hz zp_72 (qm_72_87 (by first | exact zdk hd rfl | omega) hCM9  v4 (by first | with_reducible exact hv4 | omega) a1 (by first | with_reducible exact ha1 | omega)) (by rfl) (fun x11 hx11 => ?_)
                    have j170 : ∀ (M12 : zM) , qCI M12 → qFr [89, 90, 91] M M12 → zG n (0, 0) d 71 (170, [.inr (.inr (some 87)), .inl a1, .inl a2, .inl a3, .inl v4, zN, zN], []) M12 (fun v M' => qWf qCI [89, 90, 91] M M' ∧ qRi (fun x => 0 ≤ x ∧ x ≤ 1) v) := by
                      intro M12 hCM12 hWM12
                      obtain ⟨x13, hx13⟩ : ∃ x : Int, x = w32 (v4 + 1) := ⟨_, rfl⟩
                      have hx13e : x13 = v4 + 1 := by rw [hx13]; exact w32_id (by omega)
                      refine zG_w (c' := (19, [.inr (.inr (some 87)), .inl a1, .inl a2, .inl a3, .inl x13, zN, zN], [])) 2 hd0 hz (by subst hx13; rfl) ?_
                      exact ih19 x13 M12 (by omega) (by omega) hCM12 hWM12
                    refine zG_wf_eq (pc := 67) (n' := 70) (t := 170) (L := [.inr (.inr (some 87)), .inl a1, .inl a2, .inl a3, .inl v4, zN, zN]) (st := []) (x := x11) 0 hd0 hz (by rfl) (fun hb14 => ?_) (fun hb14 => ?_)
                    · exact j170 M9 hCM9 hWM9
                    · refine zG_w (c' := (76, [.inr (.inr (some 87)), .inl a1, .inl a2, .inl a3, .inl v4, zN, zN], [.inl v4, .inr (.inr (some 90))])) 3 hd0 hz (by rfl) ?_
                      refine zG_iald hd0 hz rfl rfl (.inl rfl) (by omega) ?_
                      have hx15 := hCM9.rng 90 (v4 : Int).toNat (by decide) (by decide)
                      generalize M9 90 (v4 : Int).toNat = x15 at hx15 ⊢
                      show zG n (0, 0) d 71 (77, [.inr (.inr (some 87)), .inl a1, .inl a2, .inl a3, .inl v4, zN, zN], [.inl x15]) M9 _
                      refine zG_w (c' := (85, [.inr (.inr (some 87)), .inl a1, .inl a2, .inl a3, .inl v4, .inl x15, zN], [.inl v4, .inr (.inr (some 91))])) 4 hd0 hz (by rfl) ?_
                      refine zG_iald hd0 hz rfl rfl (.inl rfl) (by omega) ?_
                      have hx16 := hCM9.rng 91 (v4 : Int).toNat (by decide) (by decide)
                      generalize M9 91 (v4 : Int).toNat = x16 at hx16 ⊢
                      show zG n (0, 0) d 71 (86, [.inr (.inr (some 87)), .inl a1, .inl a2, .inl a3, .inl v4, .inl x15, zN], [.inl x16]) M9 _
                      refine zG_w (c' := (95, [.inr (.inr (some 87)), .inl a1, .inl a2, .inl a3, .inl v4, .inl x15, .inl x16], [.inl v4, .inl a1, .inr (.inr (some 89))])) 5 hd0 hz (by rfl) ?_
                      refine zG_iast hd0 hz rfl rfl (by omega) ?_
                      obtain ⟨M17, hM17⟩ : ∃ X : zM, X = zput M9 89 (a1 : Int).toNat v4 := ⟨_, rfl⟩
                      rw [← hM17]
                      have hCM17 : qCI M17 := by rw [hM17]; exact hCM9.put (r := 89) rfl (.inl (by omega))
                      have hWM17 : qFr [89, 90, 91] M M17 := by rw [hM17]; exact hWM9.put (by decide)
                      show zG n (0, 0) d 71 (96, [.inr (.inr (some 87)), .inl a1, .inl a2, .inl a3, .inl v4, .inl x15, .inl x16], []) M17 _
                      refine zG_w (c' := (109, [.inr (.inr (some 87)), .inl a1, .inl a2, .inl a3, .inl v4, .inl x15, .inl x16], [.inl a1, .inr (.inr (some 88)), .inl x15, .inl v4, .inr (.inr (some 90))])) 7 hd0 hz (by rfl) ?_
                      refine zG_iald hd0 hz rfl rfl (.inl rfl) (by omega) ?_
                      have hx18 := hCM17.rng 88 (a1 : Int).toNat (by decide) (by decide)
                      generalize M17 88 (a1 : Int).toNat = x18 at hx18 ⊢
                      show zG n (0, 0) d 71 (110, [.inr (.inr (some 87)), .inl a1, .inl a2, .inl a3, .inl v4, .inl x15, .inl x16], [.inl x18, .inl x15, .inl v4, .inr (.inr (some 90))]) M17 _
                      obtain ⟨x19, hx19⟩ : ∃ x : Int, x = zbor x15 x18 := ⟨_, rfl⟩
                      have hx19r : qin x19 := by rw [hx19]; exact qb32 _
                      refine zG_w (c' := (111, [.inr (.inr (some 87)), .inl a1, .inl a2, .inl a3, .inl v4, .inl x15, .inl x16], [.inl x19, .inl v4, .inr (.inr (some 90))])) 1 hd0 hz (by subst hx19; rfl) ?_
                      refine zG_iast hd0 hz rfl rfl (by omega) ?_
                      obtain ⟨M20, hM20⟩ : ∃ X : zM, X = zput M17 90 (v4 : Int).toNat x19 := ⟨_, rfl⟩
                      rw [← hM20]
                      have hCM20 : qCI M20 := by rw [hM20]; exact hCM17.put (r := 90) rfl (.inl (by omega))
                      have hWM20 : qFr [89, 90, 91] M M20 := by rw [hM20]; exact hWM17.put (by decide)
                      show zG n (0, 0) d 71 (112, [.inr (.inr (some 87)), .inl a1, .inl a2, .inl a3, .inl v4, .inl x15, .inl x16], []) M20 _
                      refine zG_w (c' := (125, [.inr (.inr (some 87)), .inl a1, .inl a2, .inl a3, .inl v4, .inl x15, .inl x16], [.inl a1, .inr (.inr (some 88)), .inl x16, .inl v4, .inr (.inr (some 91))])) 7 hd0 hz (by rfl) ?_
                      refine zG_iald hd0 hz rfl rfl (.inl rfl) (by omega) ?_
                      have hx21 := hCM20.rng 88 (a1 : Int).toNat (by decide) (by decide)
                      generalize M20 88 (a1 : Int).toNat = x21 at hx21 ⊢
                      show zG n (0, 0) d 71 (126, [.inr (.inr (some 87)), .inl a1, .inl a2, .inl a3, .inl v4, .inl x15, .inl x16], [.inl x21, .inl x16, .inl v4, .inr (.inr (some 91))]) M20 _
                      refine zG_wp (pc := 129) (L := [.inr (.inr (some 87)), .inl a1, .inl a2, .inl a3, .inl v4, .inl x15, .inl x16]) (st := [.inl x16, .inl v4, .inr (.inr (some 91))]) 0 hd0 hz zp_296 (qm_296 (by first | exact zdk hd rfl | omega) hCM20  x21 (by omega)) (by rfl) (fun x23 hx23 => ?_)
                      obtain ⟨x24, hx24⟩ : ∃ x : Int, x = w32 (x16 + x23) := ⟨_, rfl⟩
                      have hx24r : x24 = (x16 + x23 + 2147483648) % 4294967296 - 2147483648 := hx24
                      refine zG_w (c' := (130, [.inr (.inr (some 87)), .inl a1, .inl a2, .inl a3, .inl v4, .inl x15, .inl x16], [.inl x24, .inl v4, .inr (.inr (some 91))])) 1 hd0 hz (by subst hx24; rfl) ?_
                      refine zG_iast hd0 hz rfl rfl (by omega) ?_
                      obtain ⟨M25, hM25⟩ : ∃ X : zM, X = zput M20 91 (v4 : Int).toNat x24 := ⟨_, rfl⟩
                      rw [← hM25]
                      have hCM25 : qCI M25 := by rw [hM25]; exact hCM20.put (r := 91) rfl (.inl (by omega))
                      have hWM25 : qFr [89, 90, 91] M M25 := by rw [hM25]; exact hWM20.put (by decide)
                      show zG n (0, 0) d 71 (131, [.inr (.inr (some 87)), .inl a1, .inl a2, .inl a3, .inl v4, .inl x15, .inl x16], []) M25 _
                      obtain ⟨x26, hx26⟩ : ∃ x : Int, x = w32 (a1 + 1) := ⟨_, rfl⟩
                      have hx26e : x26 = a1 + 1 := by rw [hx26]; exact w32_id (by omega)
                      obtain ⟨x27, hx27⟩ : ∃ x : Int, x = w32 (v4 + 1) := ⟨_, rfl⟩
                      have hx27e : x27 = v4 + 1 := by rw [hx27]; exact w32_id (by omega)
                      obtain ⟨x28, hx28⟩ : ∃ x : Int, x = (if a2 < x27 then x27 else a2) := ⟨_, rfl⟩
                      have hx28r := qite hx28
                      refine zG_wn (pc := 147) (L := [.inr (.inr (some 87)), .inl a1, .inl a2, .inl a3, .inl v4, .inl x15, .inl x16]) (st := []) 10 hd0 hz zp_71 (ihR (by omega) hCM25  x26 (by omega) x28 (by omega) a3 (by first | with_reducible exact ha3 | omega) (by omega)) (by subst hx28; subst hx27; subst hx26; rfl) (fun x30 M29 hr hx30 => ?_)
                      obtain ⟨hCM29, hFM29⟩ := hr
                      have hWM29 : qFr [89, 90, 91] M M29 := hWM25.tr hFM29 (by decide)
                      refine zG_wf_eq (pc := 147) (n' := 150) (t := 152) (L := [.inr (.inr (some 87)), .inl a1, .inl a2, .inl a3, .inl v4, .inl x15, .inl x16]) (st := []) (x := x30) 0 hd0 hz (by rfl) (fun hb31 => ?_) (fun hb31 => ?_)
                      · refine zG_w (c' := (160, [.inr (.inr (some 87)), .inl a1, .inl a2, .inl a3, .inl v4, .inl x15, .inl x16], [.inl x15, .inl v4, .inr (.inr (some 90))])) 4 hd0 hz (by rfl) ?_
                        refine zG_iast hd0 hz rfl rfl (by omega) ?_
                        obtain ⟨M32, hM32⟩ : ∃ X : zM, X = zput M29 90 (v4 : Int).toNat x15 := ⟨_, rfl⟩
                        rw [← hM32]
                        have hCM32 : qCI M32 := by rw [hM32]; exact hCM29.put (r := 90) rfl (.inl (by omega))
                        have hWM32 : qFr [89, 90, 91] M M32 := by rw [hM32]; exact hWM29.put (by decide)
                        show zG n (0, 0) d 71 (161, [.inr (.inr (some 87)), .inl a1, .inl a2, .inl a3, .inl v4, .inl x15, .inl x16], []) M32 _
                        refine zG_w (c' := (169, [.inr (.inr (some 87)), .inl a1, .inl a2, .inl a3, .inl v4, .inl x15, .inl x16], [.inl x16, .inl v4, .inr (.inr (some 91))])) 4 hd0 hz (by rfl) ?_
                        refine zG_iast hd0 hz rfl rfl (by omega) ?_
                        obtain ⟨M33, hM33⟩ : ∃ X : zM, X = zput M32 91 (v4 : Int).toNat x16 := ⟨_, rfl⟩
                        rw [← hM33]
                        have hCM33 : qCI M33 := by rw [hM33]; exact hCM32.put (r := 91) rfl (.inl (by omega))
                        have hWM33 : qFr [89, 90, 91] M M33 := by rw [hM33]; exact hWM32.put (by decide)
                        show zG n (0, 0) d 71 (170, [.inr (.inr (some 87)), .inl a1, .inl a2, .inl a3, .inl v4, .inl x15, .inl x16], []) M33 _
                        exact zG_weak (j170 M33 hCM33 hWM33) ⟨.inr rfl, .inr rfl, .inr rfl, .inr rfl, .inr rfl, .inl rfl, .inl rfl, trivial⟩
                      · exact zG_wr (r := some (.inl 1)) 1 hd0 hz (by rfl) ⟨⟨hCM29, hWM29⟩, _, rfl, by omega⟩
                  refine zG_wi_ne (pc := 41) (n' := 44) (t := 60) (L := [.inr (.inr (some 87)), .inl a1, .inl a2, .inl a3, .inl v4, zN, zN]) (st := []) (x := v4) (y := a2) 0 hd0 hz (by rfl) (fun hb34 => ?_) (fun hb34 => ?_)
                  · exact j60 M5 hCM5 hWM5
                  · refine zG_w (c' := (51, [.inr (.inr (some 87)), .inl a1, .inl a2, .inl a3, .inl v4, zN, zN], [.inl 0, .inl v4, .inr (.inr (some 90))])) 4 hd0 hz (by rfl) ?_
                    refine zG_iast hd0 hz rfl rfl (by omega) ?_
                    obtain ⟨M35, hM35⟩ : ∃ X : zM, X = zput M5 90 (v4 : Int).toNat 0 := ⟨_, rfl⟩
                    rw [← hM35]
                    have hCM35 : qCI M35 := by rw [hM35]; exact hCM5.put (r := 90) rfl (.inl (by omega))
                    have hWM35 : qFr [89, 90, 91] M M35 := by rw [hM35]; exact hWM5.put (by decide)
                    show zG n (0, 0) d 71 (52, [.inr (.inr (some 87)), .inl a1, .inl a2, .inl a3, .inl v4, zN, zN], []) M35 _
                    refine zG_w (c' := (59, [.inr (.inr (some 87)), .inl a1, .inl a2, .inl a3, .inl v4, zN, zN], [.inl 0, .inl v4, .inr (.inr (some 91))])) 4 hd0 hz (by rfl) ?_
                    refine zG_iast hd0 hz rfl rfl (by omega) ?_
                    obtain ⟨M36, hM36⟩ : ∃ X : zM, X = zput M35 91 (v4 : Int).toNat 0 := ⟨_, rfl⟩
                    rw [← hM36]
                    have hCM36 : qCI M36 := by rw [hM36]; exact hCM35.put (r := 91) rfl (.inl (by omega))
                    have hWM36 : qFr [89, 90, 91] M M36 := by rw [hM36]; exact hWM35.put (by decide)
                    show zG n (0, 0) d 71 (60, [.inr (.inr (some 87)), .inl a1, .inl a2, .inl a3, .inl v4, zN, zN], []) M36 _
                    exact j60 M36 hCM36 hWM36
        exact j19 ((9 - 0 : Int).toNat + 1) 0 M (by omega) (by omega) hC hW
      · exfalso; omega
theorem qm_71_87 {n d : Nat} {M : zM} (hd : 13 ≤ d) (hC : qCI M) (a1 : Int) (ha1 : 0 ≤ a1 ∧ a1 ≤ 9) (a2 : Int) (ha2 : (-2147483648) ≤ a2 ∧ a2 ≤ 2147483647) (a3 : Int) (ha3 : (-2147483648) ≤ a3 ∧ a3 ≤ 2147483647) : qOkM n d 71 [.inr (.inr (some 87)), .inl a1, .inl a2, .inl a3] 7 qCI [89, 90, 91] M (qRi (fun x => 0 ≤ x ∧ x ≤ 1)) := qr_71_87 10 (by first | decide | omega) hC a1 ha1 a2 ha2 a3 ha3 (by omega)
theorem qm_68_87 {n d : Nat} {M : zM} (hd : 14 ≤ d) (hC : qCI M) (a1 : Int) (ha1 : (-2147483648) ≤ a1 ∧ a1 ≤ 2147483647) (a2 : Int) (ha2 : (-2147483648) ≤ a2 ∧ a2 ≤ 2147483647) : qOkM n d 68 [.inr (.inr (some 87)), .inl a1, .inl a2] 4 qCI [87, 88, 89, 90, 91] M (qRi (fun x => (-1) ≤ x ∧ x ≤ 9)) := by
  have hz := zp_68
  have hd0 : 0 < d := by omega
  have hW : qFr [87, 88, 89, 90, 91] M M := qFr.rfl
  show zG n (0, 0) d 68 (0, [.inr (.inr (some 87)), .inl a1, .inl a2, zN], []) M _
  refine zG_w (c' := (2, [.inr (.inr (some 87)), .inl a1, .inl a2, zN], [.inl a2, .inr (.inr (some 87))])) 2 hd0 hz (by rfl) ?_
  refine zG_putf (.inl rfl) hd0 hz rfl (by decide) rfl rfl ?_
  obtain ⟨M1, hM1⟩ : ∃ X : zM, X = zput M 87 6 a2 := ⟨_, rfl⟩
  rw [← hM1]
  have hCM1 : qCI M1 := by rw [hM1]; exact hC.put (r := 87) (k := 6) rfl (.inl (by omega))
  have hWM1 : qFr [87, 88, 89, 90, 91] M M1 := by rw [hM1]; exact hW.put (by decide)
  have e2 : M1 87 6 = a2 := by rw [hM1]; exact qput_eq
  show zG n (0, 0) d 68 (5, [.inr (.inr (some 87)), .inl a1, .inl a2, zN], []) M1 _
  refine zG_w (c' := (7, [.inr (.inr (some 87)), .inl a1, .inl a2, zN], [.inl 0, .inr (.inr (some 87))])) 2 hd0 hz (by rfl) ?_
  refine zG_putf (.inl rfl) hd0 hz rfl (by decide) rfl rfl ?_
  obtain ⟨M3, hM3⟩ : ∃ X : zM, X = zput M1 87 5 0 := ⟨_, rfl⟩
  rw [← hM3]
  have hCM3 : qCI M3 := by rw [hM3]; exact hCM1.putPp (by omega)
  have hWM3 : qFr [87, 88, 89, 90, 91] M M3 := by rw [hM3]; exact hWM1.put (by decide)
  have e4 : M3 87 6 = M1 87 6 := by rw [hM3]; exact qput_nk (by decide)
  have e5 : M3 87 5 = 0 := by rw [hM3]; exact qput_eq
  show zG n (0, 0) d 68 (10, [.inr (.inr (some 87)), .inl a1, .inl a2, zN], []) M3 _
  refine zG_w (c' := (12, [.inr (.inr (some 87)), .inl a1, .inl a2, .inl 0], [])) 2 hd0 hz (by rfl) ?_
  have j12 : ∀ (N : Nat) (v6 : Int) (M7 : zM) , (14 - v6 : Int).toNat < N → 0 ≤ v6 ∧ v6 ≤ 14 → qCI M7 → qFr [87, 88, 89, 90, 91] M M7 → zG n (0, 0) d 68 (12, [.inr (.inr (some 87)), .inl a1, .inl a2, .inl v6], []) M7 (fun v M' => qWf qCI [87, 88, 89, 90, 91] M M' ∧ qRi (fun x => (-1) ≤ x ∧ x ≤ 9) v) := by
    intro N
    induction N with
    | zero => intro v6 M7 hN hv6 hCM7 hWM7; exact absurd hN (Nat.not_lt_zero _)
    | succ N ih12 =>
      intro v6 M7 hN hv6 hCM7 hWM7
      replace hN : 14 - v6 < (N : Int) + 1 := by omega
      refine zG_w (c' := (15, [.inr (.inr (some 87)), .inl a1, .inl a2, .inl v6], [.inl 14, .inl v6])) 2 hd0 hz (by rfl) ?_
      have j69 : zG n (0, 0) d 68 (69, [.inr (.inr (some 87)), .inl a1, .inl a2, .inl v6], []) M7 (fun v M' => qWf qCI [87, 88, 89, 90, 91] M M' ∧ qRi (fun x => (-1) ≤ x ∧ x ≤ 9) v) := by
        refine zG_w (c' := (71, [.inr (.inr (some 87)), .inl a1, .inl a2, .inl 0], [])) 2 hd0 hz (by rfl) ?_
        have j71 : ∀ (N : Nat) (v8 : Int) , (9 - v8 : Int).toNat < N → 0 ≤ v8 ∧ v8 ≤ 9 → zG n (0, 0) d 68 (71, [.inr (.inr (some 87)), .inl a1, .inl a2, .inl v8], []) M7 (fun v M' => qWf qCI [87, 88, 89, 90, 91] M M' ∧ qRi (fun x => (-1) ≤ x ∧ x ≤ 9) v) := by
          intro N
          induction N with
          | zero => intro v8 hN hv8; exact absurd hN (Nat.not_lt_zero _)
          | succ N ih71 =>
            intro v8 hN hv8
            replace hN : 9 - v8 < (N : Int) + 1 := by omega
            have r9 := hCM7.pp
            refine zG_w (c' := (76, [.inr (.inr (some 87)), .inl a1, .inl a2, .inl v8], [.inl (M7 87 5), .inl v8])) 3 hd0 hz (by rfl) ?_
            have j112 : zG n (0, 0) d 68 (112, [.inr (.inr (some 87)), .inl a1, .inl a2, .inl v8], []) M7 (fun v M' => qWf qCI [87, 88, 89, 90, 91] M M' ∧ qRi (fun x => (-1) ≤ x ∧ x ≤ 9) v) := by
              refine zG_w (c' := (114, [.inr (.inr (some 87)), .inl a1, .inl a2, .inl 0], [])) 2 hd0 hz (by rfl) ?_
              have j114 : ∀ (N : Nat) (v10 : Int) (M11 : zM) , (10 - v10 : Int).toNat < N → 0 ≤ v10 ∧ v10 ≤ 10 → qCI M11 → qFr [87, 88, 89, 90, 91] M M11 → zG n (0, 0) d 68 (114, [.inr (.inr (some 87)), .inl a1, .inl a2, .inl v10], []) M11 (fun v M' => qWf qCI [87, 88, 89, 90, 91] M M' ∧ qRi (fun x => (-1) ≤ x ∧ x ≤ 9) v) := by
                intro N
                induction N with
                | zero => intro v10 M11 hN hv10 hCM11 hWM11; exact absurd hN (Nat.not_lt_zero _)
                | succ N ih114 =>
                  intro v10 M11 hN hv10 hCM11 hWM11
                  replace hN : 10 - v10 < (N : Int) + 1 := by omega
                  have r12 := hCM11.pp
                  refine zG_wi_gt (pc := 119) (n' := 122) (t := 140) (L := [.inr (.inr (some 87)), .inl a1, .inl a2, .inl v10]) (st := []) (x := v10) (y := (M11 87 5)) 3 hd0 hz (by rfl) (fun hb13 => ?_) (fun hb13 => ?_)
                  · exact zG_wr (r := some (.inl (-1))) 1 hd0 hz (by rfl) ⟨⟨hCM11, hWM11⟩, _, rfl, by omega⟩
                  · refine zG_wn (pc := 129) (L := [.inr (.inr (some 87)), .inl a1, .inl a2, .inl v10]) (st := []) 4 hd0 hz zp_71 (qm_71_87 (by first | exact zdk hd rfl | omega) hCM11  0 (by first | decide | omega) 0 (by first | decide | omega) v10 (by first | with_reducible exact hv10 | omega)) (by rfl) (fun x15 M14 hr hx15 => ?_)
                    obtain ⟨hCM14, hFM14⟩ := hr
                    have hWM14 : qFr [87, 88, 89, 90, 91] M M14 := hWM11.tr hFM14 (by decide)
                    have e16 : M14 87 5 = M11 87 5 := hFM14 87 5 (by decide)
                    refine zG_wf_eq (pc := 129) (n' := 132) (t := 134) (L := [.inr (.inr (some 87)), .inl a1, .inl a2, .inl v10]) (st := []) (x := x15) 0 hd0 hz (by rfl) (fun hb17 => ?_) (fun hb17 => ?_)
                    · obtain ⟨x18, hx18⟩ : ∃ x : Int, x = w32 (v10 + 1) := ⟨_, rfl⟩
                      have hx18e : x18 = v10 + 1 := by rw [hx18]; exact w32_id (by omega)
                      refine zG_w (c' := (114, [.inr (.inr (some 87)), .inl a1, .inl a2, .inl x18], [])) 2 hd0 hz (by subst hx18; rfl) ?_
                      exact ih114 x18 M14 (by omega) (by omega) hCM14 hWM14
                    · exact zG_wr (r := some (.inl v10)) 1 hd0 hz (by rfl) ⟨⟨hCM14, hWM14⟩, _, rfl, by omega⟩
              exact j114 ((10 - 0 : Int).toNat + 1) 0 M7 (by omega) (by omega) hCM7 hWM7
            refine zG_wi_ge (pc := 76) (n' := 79) (t := 112) (L := [.inr (.inr (some 87)), .inl a1, .inl a2, .inl v8]) (st := []) (x := v8) (y := (M7 87 5)) 0 hd0 hz (by rfl) (fun hb19 => ?_) (fun hb19 => ?_)
            · exact j112
            · refine zG_wi_ge (pc := 85) (n' := 88) (t := 112) (L := [.inr (.inr (some 87)), .inl a1, .inl a2, .inl v8]) (st := []) (x := v8) (y := 9) 4 hd0 hz (by rfl) (fun hb20 => ?_) (fun hb20 => ?_)
              · exfalso; omega
              · refine zG_w (c' := (93, [.inr (.inr (some 87)), .inl a1, .inl a2, .inl v8], [.inl v8, .inr (.inr (some 88))])) 3 hd0 hz (by rfl) ?_
                refine zG_iald hd0 hz rfl rfl (.inl rfl) (by omega) ?_
                have hx21 := hCM7.rng 88 (v8 : Int).toNat (by decide) (by decide)
                generalize M7 88 (v8 : Int).toNat = x21 at hx21 ⊢
                show zG n (0, 0) d 68 (94, [.inr (.inr (some 87)), .inl a1, .inl a2, .inl v8], [.inl x21]) M7 _
                refine zG_wp (pc := 97) (L := [.inr (.inr (some 87)), .inl a1, .inl a2, .inl v8]) (st := []) 0 hd0 hz zp_296 (qm_296 (by first | exact zdk hd rfl | omega) hCM7  x21 (by omega)) (by rfl) (fun x23 hx23 => ?_)
                have r24 := hCM7.rng 87 6 (by decide) (by decide)
                refine zG_wi_le (pc := 101) (n' := 104) (t := 106) (L := [.inr (.inr (some 87)), .inl a1, .inl a2, .inl v8]) (st := []) (x := x23) (y := (M7 87 6)) 2 hd0 hz (by rfl) (fun hb25 => ?_) (fun hb25 => ?_)
                · obtain ⟨x26, hx26⟩ : ∃ x : Int, x = w32 (v8 + 1) := ⟨_, rfl⟩
                  have hx26e : x26 = v8 + 1 := by rw [hx26]; exact w32_id (by omega)
                  refine zG_w (c' := (71, [.inr (.inr (some 87)), .inl a1, .inl a2, .inl x26], [])) 2 hd0 hz (by subst hx26; rfl) ?_
                  exact ih71 x26 (by omega) (by omega)
                · exact zG_wr (r := some (.inl (-1))) 1 hd0 hz (by rfl) ⟨⟨hCM7, hWM7⟩, _, rfl, by omega⟩
        exact j71 ((9 - 0 : Int).toNat + 1) 0 (by first | decide | omega) (by omega)
      refine zG_wi_ge (pc := 15) (n' := 18) (t := 69) (L := [.inr (.inr (some 87)), .inl a1, .inl a2, .inl v6]) (st := []) (x := v6) (y := 14) 0 hd0 hz (by rfl) (fun hb27 => ?_) (fun hb27 => ?_)
      · exact j69
      · have r28 := hCM7.pp
        refine zG_wi_ge (pc := 27) (n' := 30) (t := 69) (L := [.inr (.inr (some 87)), .inl a1, .inl a2, .inl v6]) (st := []) (x := (M7 87 5)) (y := 9) 5 hd0 hz (by rfl) (fun hb29 => ?_) (fun hb29 => ?_)
        · exact j69
        · obtain ⟨x30, hx30⟩ : ∃ x : Int, x = zbshr a1 v6 := ⟨_, rfl⟩
          have hx30r : qin x30 := by rw [hx30]; exact qb32 _
          obtain ⟨x31, hx31⟩ : ∃ x : Int, x = zband x30 1 := ⟨_, rfl⟩
          have hx31r := qband_r x30 1 (by first | decide | omega) (by omega); rw [← hx31] at hx31r
          refine zG_w (c' := (36, [.inr (.inr (some 87)), .inl a1, .inl a2, .inl v6], [.inl 1, .inl x31])) 6 hd0 hz (by subst hx31; subst hx30; rfl) ?_
          have j63 : ∀ (M32 : zM) , qCI M32 → qFr [87, 88, 89, 90, 91] M M32 → zG n (0, 0) d 68 (63, [.inr (.inr (some 87)), .inl a1, .inl a2, .inl v6], []) M32 (fun v M' => qWf qCI [87, 88, 89, 90, 91] M M' ∧ qRi (fun x => (-1) ≤ x ∧ x ≤ 9) v) := by
            intro M32 hCM32 hWM32
            obtain ⟨x33, hx33⟩ : ∃ x : Int, x = w32 (v6 + 1) := ⟨_, rfl⟩
            have hx33e : x33 = v6 + 1 := by rw [hx33]; exact w32_id (by omega)
            refine zG_w (c' := (12, [.inr (.inr (some 87)), .inl a1, .inl a2, .inl x33], [])) 2 hd0 hz (by subst hx33; rfl) ?_
            exact ih12 x33 M32 (by omega) (by omega) hCM32 hWM32
          refine zG_wi_ne (pc := 36) (n' := 39) (t := 63) (L := [.inr (.inr (some 87)), .inl a1, .inl a2, .inl v6]) (st := []) (x := x31) (y := 1) 0 hd0 hz (by rfl) (fun hb34 => ?_) (fun hb34 => ?_)
          · exact j63 M7 hCM7 hWM7
          · refine zG_wp (pc := 52) (L := [.inr (.inr (some 87)), .inl a1, .inl a2, .inl v6]) (st := [.inl (M7 87 5), .inr (.inr (some 88))]) 6 hd0 hz zp_70 (qm_70_87 (by first | exact zdk hd rfl | omega) hCM7  v6 (by first | with_reducible exact hv6 | omega)) (by rfl) (fun x36 hx36 => ?_)
            refine zG_iast hd0 hz rfl rfl (by omega) ?_
            obtain ⟨M37, hM37⟩ : ∃ X : zM, X = zput M7 88 ((M7 87 5) : Int).toNat x36 := ⟨_, rfl⟩
            rw [← hM37]
            have hCM37 : qCI M37 := by rw [hM37]; exact hCM7.put (r := 88) rfl (.inl (by omega))
            have hWM37 : qFr [87, 88, 89, 90, 91] M M37 := by rw [hM37]; exact hWM7.put (by decide)
            have e38 : M37 87 5 = M7 87 5 := by rw [hM37]; exact qput_ne (by decide)
            show zG n (0, 0) d 68 (53, [.inr (.inr (some 87)), .inl a1, .inl a2, .inl v6], []) M37 _
            obtain ⟨x39, hx39⟩ : ∃ x : Int, x = w32 ((M37 87 5) + 1) := ⟨_, rfl⟩
            have hx39e : x39 = (M37 87 5) + 1 := by rw [hx39]; exact w32_id (by omega)
            refine zG_w (c' := (60, [.inr (.inr (some 87)), .inl a1, .inl a2, .inl v6], [.inl x39, .inr (.inr (some 87))])) 5 hd0 hz (by subst hx39; rfl) ?_
            refine zG_putf (.inl rfl) hd0 hz rfl (by decide) rfl rfl ?_
            obtain ⟨M40, hM40⟩ : ∃ X : zM, X = zput M37 87 5 x39 := ⟨_, rfl⟩
            rw [← hM40]
            have hCM40 : qCI M40 := by rw [hM40]; exact hCM37.putPp (by omega)
            have hWM40 : qFr [87, 88, 89, 90, 91] M M40 := by rw [hM40]; exact hWM37.put (by decide)
            have e41 : M40 87 5 = x39 := by rw [hM40]; exact qput_eq
            show zG n (0, 0) d 68 (63, [.inr (.inr (some 87)), .inl a1, .inl a2, .inl v6], []) M40 _
            exact j63 M40 hCM40 hWM40
  exact j12 ((14 - 0 : Int).toNat + 1) 0 M3 (by omega) (by omega) hCM3 hWM3
theorem qm_158_8 {n d : Nat} {M : zM} (hd : 15 ≤ d) (hC : qCI M) (a1 : Int) (ha1 : (-2147483648) ≤ a1 ∧ a1 ≤ 2147483647) (a2 : Int) (ha2 : (-2147483648) ≤ a2 ∧ a2 ≤ 2147483647) : qOkM n d 158 [.inr (.inr (some 8)), .inl a1, .inl a2] 3 qCI [87, 88, 89, 90, 91] M (qRi (fun x => (-3) ≤ x ∧ x ≤ 9)) := by
  have hz := zp_158
  have hd0 : 0 < d := by omega
  have hW : qFr [87, 88, 89, 90, 91] M M := qFr.rfl
  show zG n (0, 0) d 158 (0, [.inr (.inr (some 8)), .inl a1, .inl a2], []) M _
  refine zG_wp (pc := 6) (L := [.inr (.inr (some 8)), .inl a1, .inl a2]) (st := [.inl 0, .inl a1]) 3 hd0 hz zp_177 (qm_177_8 (by first | exact zdk hd rfl | omega) hC  ) (by rfl) (fun x2 hx2 => ?_)
  refine zG_wp (pc := 9) (L := [.inr (.inr (some 8)), .inl a1, .inl a2]) (st := []) 0 hd0 hz zp_169 (qm_169 (by first | exact zdk hd rfl | omega) hC  a1 (by first | with_reducible exact ha1 | omega) 0 (by first | decide | omega) x2 (by omega)) (by rfl) (fun x4 hx4 => ?_)
  have j23 : zG n (0, 0) d 158 (23, [.inr (.inr (some 8)), .inl a1, .inl a2], []) M (fun v M' => qWf qCI [87, 88, 89, 90, 91] M M' ∧ qRi (fun x => (-3) ≤ x ∧ x ≤ 9) v) := by
    exact zG_wr (r := some (.inl (-2))) 1 hd0 hz (by rfl) ⟨⟨hC, hW⟩, _, rfl, by omega⟩
  refine zG_wf_eq (pc := 9) (n' := 12) (t := 23) (L := [.inr (.inr (some 8)), .inl a1, .inl a2]) (st := []) (x := x4) 0 hd0 hz (by rfl) (fun hb5 => ?_) (fun hb5 => ?_)
  · exact j23
  · refine zG_wp (pc := 20) (L := [.inr (.inr (some 8)), .inl a1, .inl a2]) (st := []) 3 hd0 hz zp_169 (qm_169 (by first | exact zdk hd rfl | omega) hC  a2 (by first | with_reducible exact ha2 | omega) 1 (by first | decide | omega) 200 (by first | decide | omega)) (by rfl) (fun x7 hx7 => ?_)
    refine zG_wf_ne (pc := 20) (n' := 23) (t := 26) (L := [.inr (.inr (some 8)), .inl a1, .inl a2]) (st := []) (x := x7) 0 hd0 hz (by rfl) (fun hb8 => ?_) (fun hb8 => ?_)
    · refine zG_wp (pc := 30) (L := [.inr (.inr (some 8)), .inl a1, .inl a2]) (st := []) 1 hd0 hz zp_296 (qm_296 (by first | exact zdk hd rfl | omega) hC  a1 (by first | with_reducible exact ha1 | omega)) (by rfl) (fun x10 hx10 => ?_)
      refine zG_w (c' := (32, [.inr (.inr (some 8)), .inl a1, .inl a2], [.inl 9, .inl x10])) 1 hd0 hz (by rfl) ?_
      have j49 : ∀ (v11 : Int) (M12 : zM) , (-3) ≤ v11 ∧ v11 ≤ 9 → qCI M12 → qFr [87, 88, 89, 90, 91] M M12 → zG n (0, 0) d 158 (49, [.inr (.inr (some 8)), .inl a1, .inl a2], [.inl v11]) M12 (fun v M' => qWf qCI [87, 88, 89, 90, 91] M M' ∧ qRi (fun x => (-3) ≤ x ∧ x ≤ 9) v) := by
        intro v11 M12 hv11 hCM12 hWM12
        exact zG_wr (r := some (.inl v11)) 0 hd0 hz (by rfl) ⟨⟨hCM12, hWM12⟩, _, rfl, by omega⟩
      refine zG_wi_le (pc := 32) (n' := 35) (t := 40) (L := [.inr (.inr (some 8)), .inl a1, .inl a2]) (st := []) (x := x10) (y := 9) 0 hd0 hz (by rfl) (fun hb13 => ?_) (fun hb13 => ?_)
      · refine zG_wn (pc := 49) (L := [.inr (.inr (some 8)), .inl a1, .inl a2]) (st := []) 4 hd0 hz zp_68 (qm_68_87 (by first | exact zdk hd rfl | omega) hC  a1 (by first | with_reducible exact ha1 | omega) a2 (by first | with_reducible exact ha2 | omega)) (by rfl) (fun x15 M14 hr hx15 => ?_)
        obtain ⟨hCM14, hFM14⟩ := hr
        have hWM14 : qFr [87, 88, 89, 90, 91] M M14 := hW.tr hFM14 (by decide)
        exact j49 x15 M14 (by omega) hCM14 hWM14
      · refine zG_w (c' := (49, [.inr (.inr (some 8)), .inl a1, .inl a2], [.inl (-3)])) 2 hd0 hz (by rfl) ?_
        exact j49 (-3) M (by omega) hC hW
    · exact j23
theorem qm_69_87 {n d : Nat} {M : zM} (hd : 1 ≤ d) (hC : qCI M) (a1 : Int) (ha1 : (-2147483648) ≤ a1 ∧ a1 ≤ 2147483647) : qOkP n d 69 [.inr (.inr (some 87)), .inl a1] 2 M (qRi (fun x => (-2147483648) ≤ x ∧ x ≤ 2147483647)) := by
  have hz := zp_69
  have hd0 : 0 < d := by omega
  show zG n (0, 0) d 69 (0, [.inr (.inr (some 87)), .inl a1], []) M _
  refine zG_w (c' := (1, [.inr (.inr (some 87)), .inl a1], [.inl a1])) 1 hd0 hz (by rfl) ?_
  have j31 : ∀ (v1 : Int) , (-2147483648) ≤ v1 ∧ v1 ≤ 2147483647 → zG n (0, 0) d 69 (31, [.inr (.inr (some 87)), .inl a1], [.inl v1]) M (fun v M' => M' = M ∧ qRi (fun x => (-2147483648) ≤ x ∧ x ≤ 2147483647) v) := by
    intro v1 hv1
    exact zG_wr (r := some (.inl v1)) 0 hd0 hz (by rfl) ⟨rfl, _, rfl, by omega⟩
  have j30 : zG n (0, 0) d 69 (30, [.inr (.inr (some 87)), .inl a1], []) M (fun v M' => M' = M ∧ qRi (fun x => (-2147483648) ≤ x ∧ x ≤ 2147483647) v) := by
    refine zG_w (c' := (31, [.inr (.inr (some 87)), .inl a1], [.inl (-1)])) 1 hd0 hz (by rfl) ?_
    exact j31 (-1) (by first | decide | omega)
  refine zG_wf_lt (pc := 1) (n' := 4) (t := 30) (L := [.inr (.inr (some 87)), .inl a1]) (st := []) (x := a1) 0 hd0 hz (by rfl) (fun hb2 => ?_) (fun hb2 => ?_)
  · exact j30
  · have r3 := hC.pp
    refine zG_wi_ge (pc := 9) (n' := 12) (t := 30) (L := [.inr (.inr (some 87)), .inl a1]) (st := []) (x := a1) (y := (M 87 5)) 3 hd0 hz (by rfl) (fun hb4 => ?_) (fun hb4 => ?_)
    · exact j30
    · refine zG_wi_ge (pc := 18) (n' := 21) (t := 30) (L := [.inr (.inr (some 87)), .inl a1]) (st := []) (x := a1) (y := 9) 4 hd0 hz (by rfl) (fun hb5 => ?_) (fun hb5 => ?_)
      · exfalso; omega
      · refine zG_w (c' := (26, [.inr (.inr (some 87)), .inl a1], [.inl a1, .inr (.inr (some 89))])) 3 hd0 hz (by rfl) ?_
        refine zG_iald hd0 hz rfl rfl (.inl rfl) (by omega) ?_
        have hx6 := hC.rng 89 (a1 : Int).toNat (by decide) (by decide)
        generalize M 89 (a1 : Int).toNat = x6 at hx6 ⊢
        show zG n (0, 0) d 69 (27, [.inr (.inr (some 87)), .inl a1], [.inl x6]) M _
        refine zG_w (c' := (31, [.inr (.inr (some 87)), .inl a1], [.inl x6])) 1 hd0 hz (by rfl) ?_
        exact j31 x6 (by omega)
theorem qm_159_8 {n d : Nat} {M : zM} (hd : 16 ≤ d) (hC : qCI M) (a1 : Int) (ha1 : (-2147483648) ≤ a1 ∧ a1 ≤ 2147483647) (a2 : Int) (ha2 : (-2147483648) ≤ a2 ∧ a2 ≤ 2147483647) (a3 : Int) (ha3 : (-2147483648) ≤ a3 ∧ a3 ≤ 2147483647) : qOkM n d 159 [.inr (.inr (some 8)), .inl a1, .inl a2, .inl a3] 5 qCI [87, 88, 89, 90, 91] M (qRi (fun x => (-2147483648) ≤ x ∧ x ≤ 2147483647)) := by
  have hz := zp_159
  have hd0 : 0 < d := by omega
  have hW : qFr [87, 88, 89, 90, 91] M M := qFr.rfl
  show zG n (0, 0) d 159 (0, [.inr (.inr (some 8)), .inl a1, .inl a2, .inl a3, zN], []) M _
  refine zG_wp (pc := 5) (L := [.inr (.inr (some 8)), .inl a1, .inl a2, .inl a3, zN]) (st := []) 2 hd0 hz zp_175 (qm_175_8 (by first | exact zdk hd rfl | omega) hC  a3 (by first | with_reducible exact ha3 | omega)) (by rfl) (fun x2 hx2 => ?_)
  have j16 : zG n (0, 0) d 159 (16, [.inr (.inr (some 8)), .inl a1, .inl a2, .inl a3, zN], []) M (fun v M' => qWf qCI [87, 88, 89, 90, 91] M M' ∧ qRi (fun x => (-2147483648) ≤ x ∧ x ≤ 2147483647) v) := by
    exact zG_wr (r := some (.inl (-2))) 1 hd0 hz (by rfl) ⟨⟨hC, hW⟩, _, rfl, by omega⟩
  refine zG_wf_eq (pc := 5) (n' := 8) (t := 16) (L := [.inr (.inr (some 8)), .inl a1, .inl a2, .inl a3, zN]) (st := []) (x := x2) 0 hd0 hz (by rfl) (fun hb3 => ?_) (fun hb3 => ?_)
  · exact j16
  · obtain ⟨x4, hx4⟩ : ∃ x : Int, x = zbshr a1 a3 := ⟨_, rfl⟩
    have hx4r : qin x4 := by rw [hx4]; exact qb32 _
    obtain ⟨x5, hx5⟩ : ∃ x : Int, x = zband x4 1 := ⟨_, rfl⟩
    have hx5r := qband_r x4 1 (by first | decide | omega) (by omega); rw [← hx5] at hx5r
    refine zG_wf_ne (pc := 13) (n' := 16) (t := 19) (L := [.inr (.inr (some 8)), .inl a1, .inl a2, .inl a3, zN]) (st := []) (x := x5) 5 hd0 hz (by subst hx5; subst hx4; rfl) (fun hb6 => ?_) (fun hb6 => ?_)
    · refine zG_wn (pc := 25) (L := [.inr (.inr (some 8)), .inl a1, .inl a2, .inl a3, zN]) (st := []) 3 hd0 hz zp_158 (qm_158_8 (by first | exact zdk hd rfl | omega) hC  a1 (by first | with_reducible exact ha1 | omega) a2 (by first | with_reducible exact ha2 | omega)) (by rfl) (fun x8 M7 hr hx8 => ?_)
      obtain ⟨hCM7, hFM7⟩ := hr
      have hWM7 : qFr [87, 88, 89, 90, 91] M M7 := hW.tr hFM7 (by decide)
      refine zG_w (c' := (29, [.inr (.inr (some 8)), .inl a1, .inl a2, .inl a3, .inl x8], [.inl x8])) 2 hd0 hz (by rfl) ?_
      have j54 : ∀ (v9 : Int) , (-2147483648) ≤ v9 ∧ v9 ≤ 2147483647 → zG n (0, 0) d 159 (54, [.inr (.inr (some 8)), .inl a1, .inl a2, .inl a3, .inl x8], [.inl v9]) M7 (fun v M' => qWf qCI [87, 88, 89, 90, 91] M M' ∧ qRi (fun x => (-2147483648) ≤ x ∧ x ≤ 2147483647) v) := by
        intro v9 hv9
        exact zG_wr (r := some (.inl v9)) 0 hd0 hz (by rfl) ⟨⟨hCM7, hWM7⟩, _, rfl, by omega⟩
      refine zG_wf_ge (pc := 29) (n' := 32) (t := 37) (L := [.inr (.inr (some 8)), .inl a1, .inl a2, .inl a3, .inl x8]) (st := []) (x := x8) 0 hd0 hz (by rfl) (fun hb10 => ?_) (fun hb10 => ?_)
      · obtain ⟨x11, hx11⟩ : ∃ x : Int, x = zbshl 1 a3 := ⟨_, rfl⟩
        have hx11r : qin x11 := by rw [hx11]; exact qb32 _
        obtain ⟨x12, hx12⟩ : ∃ x : Int, x = w32 (x11 - 1) := ⟨_, rfl⟩
        have hx12r : x12 = (x11 - 1 + 2147483648) % 4294967296 - 2147483648 := hx12
        obtain ⟨x13, hx13⟩ : ∃ x : Int, x = zband a1 x12 := ⟨_, rfl⟩
        have hx13r : qin x13 := by rw [hx13]; exact qb32 _
        refine zG_wp (pc := 51) (L := [.inr (.inr (some 8)), .inl a1, .inl a2, .inl a3, .inl x8]) (st := [.inr (.inr (some 87))]) 9 hd0 hz zp_296 (qm_296 (by first | exact zdk hd rfl | omega) hCM7  x13 (by omega)) (by subst hx13; subst hx12; subst hx11; rfl) (fun x15 hx15 => ?_)
        refine zG_wp (pc := 54) (L := [.inr (.inr (some 8)), .inl a1, .inl a2, .inl a3, .inl x8]) (st := []) 0 hd0 hz zp_69 (qm_69_87 (by first | exact zdk hd rfl | omega) hCM7  x15 (by omega)) (by rfl) (fun x17 hx17 => ?_)
        exact j54 x17 (by omega)
      · refine zG_w (c' := (54, [.inr (.inr (some 8)), .inl a1, .inl a2, .inl a3, .inl x8], [.inl x8])) 2 hd0 hz (by rfl) ?_
        exact j54 x8 (by omega)
    · exact j16
theorem qm_43_60 {n d : Nat} {M : zM} (hd : 2 ≤ d) (hC : qCI M) (a1 : Int) (ha1 : (-2147483648) ≤ a1 ∧ a1 ≤ 2147483647) : qOkP n d 43 [.inr (.inr (some 60)), .inl a1] 2 M (qRi (fun x => (-2147483648) ≤ x ∧ x ≤ 2147483647)) := by
  have hz := zp_43
  have hd0 : 0 < d := by omega
  show zG n (0, 0) d 43 (0, [.inr (.inr (some 60)), .inl a1], []) M _
  refine zG_wp (pc := 9) (L := [.inr (.inr (some 60)), .inl a1]) (st := []) 4 hd0 hz zp_106 (qw_get (by first | exact zdk hd rfl | omega) hC (⟨by decide, rfl, rfl⟩ : qT n 61 250 4) a1 (by first | with_reducible exact ha1 | omega) 2 (by first | decide | omega)) (by rfl) (fun x2 hx2 => ?_)
  exact zG_wr (r := some (.inl x2)) 0 hd0 hz (by rfl) ⟨rfl, _, rfl, by omega⟩
theorem qm_7_92 {n d : Nat} {M : zM} (hd : 2 ≤ d) (hC : qCI M) (a1 : Int) (ha1 : (-2147483648) ≤ a1 ∧ a1 ≤ 2147483647) (a2 : Int) (ha2 : (-2147483648) ≤ a2 ∧ a2 ≤ 2147483647) : qOkM n d 7 [.inr (.inr (some 92)), .inl a1, .inl a2] 4 qCI [92] M qRn := by
  have hz := zp_7
  have hd0 : 0 < d := by omega
  have hW : qFr [92] M M := qFr.rfl
  show zG n (0, 0) d 7 (0, [.inr (.inr (some 92)), .inl a1, .inl a2, zN], []) M _
  refine zG_wp (pc := 13) (L := [.inr (.inr (some 92)), .inl a1, .inl a2, zN]) (st := []) 5 hd0 hz zp_106 (qw_get (by first | exact zdk hd rfl | omega) hC (⟨by decide, rfl, rfl⟩ : qT n 18 250 11) a1 (by first | with_reducible exact ha1 | omega) 7 (by first | decide | omega)) (by rfl) (fun x2 hx2 => ?_)
  refine zG_wp (pc := 26) (L := [.inr (.inr (some 92)), .inl a1, .inl a2, zN]) (st := [.inl x2]) 5 hd0 hz zp_106 (qw_get (by first | exact zdk hd rfl | omega) hC (⟨by decide, rfl, rfl⟩ : qT n 18 250 11) a2 (by first | with_reducible exact ha2 | omega) 7 (by first | decide | omega)) (by rfl) (fun x4 hx4 => ?_)
  obtain ⟨x5, hx5⟩ : ∃ x : Int, x = w32 (x2 - x4) := ⟨_, rfl⟩
  have hx5r : x5 = (x2 - x4 + 2147483648) % 4294967296 - 2147483648 := hx5
  have r6 := hC.rng 92 4 (by decide) (by decide)
  obtain ⟨x7, hx7⟩ : ∃ x : Int, x = w32 ((M 92 4) + 1) := ⟨_, rfl⟩
  have hx7r : x7 = ((M 92 4) + 1 + 2147483648) % 4294967296 - 2147483648 := hx7
  refine zG_w (c' := (35, [.inr (.inr (some 92)), .inl a1, .inl a2, .inl x5], [.inl x7, .inr (.inr (some 92))])) 7 hd0 hz (by subst hx7; subst hx5; rfl) ?_
  refine zG_putf (.inl rfl) hd0 hz rfl (by decide) rfl rfl ?_
  obtain ⟨M8, hM8⟩ : ∃ X : zM, X = zput M 92 4 x7 := ⟨_, rfl⟩
  rw [← hM8]
  have hCM8 : qCI M8 := by rw [hM8]; exact hC.put (r := 92) (k := 4) rfl (.inl (by omega))
  have hWM8 : qFr [92] M M8 := by rw [hM8]; exact hW.put (by decide)
  have e9 : M8 92 4 = x7 := by rw [hM8]; exact qput_eq
  show zG n (0, 0) d 7 (38, [.inr (.inr (some 92)), .inl a1, .inl a2, .inl x5], []) M8 _
  have r10 := hCM8.rng 92 7 (by decide) (by decide)
  obtain ⟨x11, hx11⟩ : ∃ x : Int, x = w32 ((M8 92 7) + x5) := ⟨_, rfl⟩
  have hx11r : x11 = ((M8 92 7) + x5 + 2147483648) % 4294967296 - 2147483648 := hx11
  refine zG_w (c' := (45, [.inr (.inr (some 92)), .inl a1, .inl a2, .inl x5], [.inl x11, .inr (.inr (some 92))])) 5 hd0 hz (by subst hx11; rfl) ?_
  refine zG_putf (.inl rfl) hd0 hz rfl (by decide) rfl rfl ?_
  obtain ⟨M12, hM12⟩ : ∃ X : zM, X = zput M8 92 7 x11 := ⟨_, rfl⟩
  rw [← hM12]
  have hCM12 : qCI M12 := by rw [hM12]; exact hCM8.put (r := 92) (k := 7) rfl (.inl (by omega))
  have hWM12 : qFr [92] M M12 := by rw [hM12]; exact hWM8.put (by decide)
  have e13 : M12 92 4 = M8 92 4 := by rw [hM12]; exact qput_nk (by decide)
  have e14 : M12 92 7 = x11 := by rw [hM12]; exact qput_eq
  show zG n (0, 0) d 7 (48, [.inr (.inr (some 92)), .inl a1, .inl a2, .inl x5], []) M12 _
  have r15 := hCM12.rng 92 5 (by decide) (by decide)
  refine zG_w (c' := (54, [.inr (.inr (some 92)), .inl a1, .inl a2, .inl x5], [.inl x5, .inl (M12 92 5), .inr (.inr (some 92))])) 4 hd0 hz (by rfl) ?_
  have j62 : ∀ (v16 v17 : Int) , (-2147483648) ≤ v16 ∧ v16 ≤ 2147483647 → 0 ≤ v17 ∧ v17 ≤ 1 → zG n (0, 0) d 7 (62, [.inr (.inr (some 92)), .inl a1, .inl a2, .inl x5], [.inl v17, .inl v16, .inr (.inr (some 92))]) M12 (fun v M' => qWf qCI [92] M M' ∧ qRn v) := by
    intro v16 v17 hv16 hv17
    obtain ⟨x18, hx18⟩ : ∃ x : Int, x = w32 (v16 + v17) := ⟨_, rfl⟩
    have hx18r : x18 = (v16 + v17 + 2147483648) % 4294967296 - 2147483648 := hx18
    refine zG_w (c' := (63, [.inr (.inr (some 92)), .inl a1, .inl a2, .inl x5], [.inl x18, .inr (.inr (some 92))])) 1 hd0 hz (by subst hx18; rfl) ?_
    refine zG_putf (.inl rfl) hd0 hz rfl (by decide) rfl rfl ?_
    obtain ⟨M19, hM19⟩ : ∃ X : zM, X = zput M12 92 5 x18 := ⟨_, rfl⟩
    rw [← hM19]
    have hCM19 : qCI M19 := by rw [hM19]; exact hCM12.put (r := 92) (k := 5) rfl (.inl (by omega))
    have hWM19 : qFr [92] M M19 := by rw [hM19]; exact hWM12.put (by decide)
    have e20 : M19 92 4 = M12 92 4 := by rw [hM19]; exact qput_nk (by decide)
    have e21 : M19 92 7 = M12 92 7 := by rw [hM19]; exact qput_nk (by decide)
    have e22 : M19 92 5 = x18 := by rw [hM19]; exact qput_eq
    show zG n (0, 0) d 7 (66, [.inr (.inr (some 92)), .inl a1, .inl a2, .inl x5], []) M19 _
    have r23 := hCM19.rng 92 6 (by decide) (by decide)
    refine zG_w (c' := (72, [.inr (.inr (some 92)), .inl a1, .inl a2, .inl x5], [.inl x5, .inl (M19 92 6), .inr (.inr (some 92))])) 4 hd0 hz (by rfl) ?_
    have j80 : ∀ (v24 v25 : Int) , (-2147483648) ≤ v24 ∧ v24 ≤ 2147483647 → 0 ≤ v25 ∧ v25 ≤ 1 → zG n (0, 0) d 7 (80, [.inr (.inr (some 92)), .inl a1, .inl a2, .inl x5], [.inl v25, .inl v24, .inr (.inr (some 92))]) M19 (fun v M' => qWf qCI [92] M M' ∧ qRn v) := by
      intro v24 v25 hv24 hv25
      obtain ⟨x26, hx26⟩ : ∃ x : Int, x = w32 (v24 + v25) := ⟨_, rfl⟩
      have hx26r : x26 = (v24 + v25 + 2147483648) % 4294967296 - 2147483648 := hx26
      refine zG_w (c' := (81, [.inr (.inr (some 92)), .inl a1, .inl a2, .inl x5], [.inl x26, .inr (.inr (some 92))])) 1 hd0 hz (by subst hx26; rfl) ?_
      refine zG_putf (.inl rfl) hd0 hz rfl (by decide) rfl rfl ?_
      obtain ⟨M27, hM27⟩ : ∃ X : zM, X = zput M19 92 6 x26 := ⟨_, rfl⟩
      rw [← hM27]
      have hCM27 : qCI M27 := by rw [hM27]; exact hCM19.put (r := 92) (k := 6) rfl (.inl (by omega))
      have hWM27 : qFr [92] M M27 := by rw [hM27]; exact hWM19.put (by decide)
      have e28 : M27 92 4 = M19 92 4 := by rw [hM27]; exact qput_nk (by decide)
      have e29 : M27 92 7 = M19 92 7 := by rw [hM27]; exact qput_nk (by decide)
      have e30 : M27 92 5 = M19 92 5 := by rw [hM27]; exact qput_nk (by decide)
      have e31 : M27 92 6 = x26 := by rw [hM27]; exact qput_eq
      show zG n (0, 0) d 7 (84, [.inr (.inr (some 92)), .inl a1, .inl a2, .inl x5], []) M27 _
      exact zG_wr (r := none) 0 hd0 hz (by rfl) ⟨⟨hCM27, hWM27⟩, rfl⟩
    refine zG_wf_le (pc := 72) (n' := 75) (t := 79) (L := [.inr (.inr (some 92)), .inl a1, .inl a2, .inl x5]) (st := [.inl (M19 92 6), .inr (.inr (some 92))]) (x := x5) 0 hd0 hz (by rfl) (fun hb32 => ?_) (fun hb32 => ?_)
    · refine zG_w (c' := (80, [.inr (.inr (some 92)), .inl a1, .inl a2, .inl x5], [.inl 0, .inl (M19 92 6), .inr (.inr (some 92))])) 1 hd0 hz (by rfl) ?_
      exact j80 (M19 92 6) 0 (by first | decide | omega) (by omega)
    · refine zG_w (c' := (80, [.inr (.inr (some 92)), .inl a1, .inl a2, .inl x5], [.inl 1, .inl (M19 92 6), .inr (.inr (some 92))])) 2 hd0 hz (by rfl) ?_
      exact j80 (M19 92 6) 1 (by first | decide | omega) (by omega)
  refine zG_wf_eq (pc := 54) (n' := 57) (t := 61) (L := [.inr (.inr (some 92)), .inl a1, .inl a2, .inl x5]) (st := [.inl (M12 92 5), .inr (.inr (some 92))]) (x := x5) 0 hd0 hz (by rfl) (fun hb33 => ?_) (fun hb33 => ?_)
  · refine zG_w (c' := (62, [.inr (.inr (some 92)), .inl a1, .inl a2, .inl x5], [.inl 0, .inl (M12 92 5), .inr (.inr (some 92))])) 1 hd0 hz (by rfl) ?_
    exact j62 (M12 92 5) 0 (by first | decide | omega) (by omega)
  · refine zG_w (c' := (62, [.inr (.inr (some 92)), .inl a1, .inl a2, .inl x5], [.inl 1, .inl (M12 92 5), .inr (.inr (some 92))])) 2 hd0 hz (by rfl) ?_
    exact j62 (M12 92 5) 1 (by first | decide | omega) (by omega)
theorem qm_6_92 {n d : Nat} {M : zM} (hd : 3 ≤ d) (hC : qCI M) (a1 : Int) (ha1 : (-2147483648) ≤ a1 ∧ a1 ≤ 2147483647) : qOkM n d 6 [.inr (.inr (some 92)), .inl a1] 3 qCI [92] M qRn := by
  have hz := zp_6
  have hd0 : 0 < d := by omega
  have hW : qFr [92] M M := qFr.rfl
  show zG n (0, 0) d 6 (0, [.inr (.inr (some 92)), .inl a1, zN], []) M _
  refine zG_w (c' := (2, [.inr (.inr (some 92)), .inl a1, zN], [.inl 0, .inr (.inr (some 92))])) 2 hd0 hz (by rfl) ?_
  refine zG_putf (.inl rfl) hd0 hz rfl (by decide) rfl rfl ?_
  obtain ⟨M1, hM1⟩ : ∃ X : zM, X = zput M 92 4 0 := ⟨_, rfl⟩
  rw [← hM1]
  have hCM1 : qCI M1 := by rw [hM1]; exact hC.put (r := 92) (k := 4) rfl (.inl (by omega))
  have hWM1 : qFr [92] M M1 := by rw [hM1]; exact hW.put (by decide)
  have e2 : M1 92 4 = 0 := by rw [hM1]; exact qput_eq
  show zG n (0, 0) d 6 (5, [.inr (.inr (some 92)), .inl a1, zN], []) M1 _
  refine zG_w (c' := (7, [.inr (.inr (some 92)), .inl a1, zN], [.inl 0, .inr (.inr (some 92))])) 2 hd0 hz (by rfl) ?_
  refine zG_putf (.inl rfl) hd0 hz rfl (by decide) rfl rfl ?_
  obtain ⟨M3, hM3⟩ : ∃ X : zM, X = zput M1 92 5 0 := ⟨_, rfl⟩
  rw [← hM3]
  have hCM3 : qCI M3 := by rw [hM3]; exact hCM1.put (r := 92) (k := 5) rfl (.inl (by omega))
  have hWM3 : qFr [92] M M3 := by rw [hM3]; exact hWM1.put (by decide)
  have e4 : M3 92 4 = M1 92 4 := by rw [hM3]; exact qput_nk (by decide)
  have e5 : M3 92 5 = 0 := by rw [hM3]; exact qput_eq
  show zG n (0, 0) d 6 (10, [.inr (.inr (some 92)), .inl a1, zN], []) M3 _
  refine zG_w (c' := (12, [.inr (.inr (some 92)), .inl a1, zN], [.inl 0, .inr (.inr (some 92))])) 2 hd0 hz (by rfl) ?_
  refine zG_putf (.inl rfl) hd0 hz rfl (by decide) rfl rfl ?_
  obtain ⟨M6, hM6⟩ : ∃ X : zM, X = zput M3 92 6 0 := ⟨_, rfl⟩
  rw [← hM6]
  have hCM6 : qCI M6 := by rw [hM6]; exact hCM3.put (r := 92) (k := 6) rfl (.inl (by omega))
  have hWM6 : qFr [92] M M6 := by rw [hM6]; exact hWM3.put (by decide)
  have e7 : M6 92 4 = M3 92 4 := by rw [hM6]; exact qput_nk (by decide)
  have e8 : M6 92 5 = M3 92 5 := by rw [hM6]; exact qput_nk (by decide)
  have e9 : M6 92 6 = 0 := by rw [hM6]; exact qput_eq
  show zG n (0, 0) d 6 (15, [.inr (.inr (some 92)), .inl a1, zN], []) M6 _
  refine zG_w (c' := (17, [.inr (.inr (some 92)), .inl a1, zN], [.inl 0, .inr (.inr (some 92))])) 2 hd0 hz (by rfl) ?_
  refine zG_putf (.inl rfl) hd0 hz rfl (by decide) rfl rfl ?_
  obtain ⟨M10, hM10⟩ : ∃ X : zM, X = zput M6 92 7 0 := ⟨_, rfl⟩
  rw [← hM10]
  have hCM10 : qCI M10 := by rw [hM10]; exact hCM6.put (r := 92) (k := 7) rfl (.inl (by omega))
  have hWM10 : qFr [92] M M10 := by rw [hM10]; exact hWM6.put (by decide)
  have e11 : M10 92 4 = M6 92 4 := by rw [hM10]; exact qput_nk (by decide)
  have e12 : M10 92 5 = M6 92 5 := by rw [hM10]; exact qput_nk (by decide)
  have e13 : M10 92 6 = M6 92 6 := by rw [hM10]; exact qput_nk (by decide)
  have e14 : M10 92 7 = 0 := by rw [hM10]; exact qput_eq
  show zG n (0, 0) d 6 (20, [.inr (.inr (some 92)), .inl a1, zN], []) M10 _
  refine zG_w (c' := (22, [.inr (.inr (some 92)), .inl a1, .inl 0], [])) 2 hd0 hz (by rfl) ?_
  have j22 : ∀ (N : Nat) (v15 : Int) (M16 : zM) , (250 - v15 : Int).toNat < N → 0 ≤ v15 ∧ v15 ≤ 250 → qCI M16 → qFr [92] M M16 → zG n (0, 0) d 6 (22, [.inr (.inr (some 92)), .inl a1, .inl v15], []) M16 (fun v M' => qWf qCI [92] M M' ∧ qRn v) := by
    intro N
    induction N with
    | zero => intro v15 M16 hN hv15 hCM16 hWM16; exact absurd hN (Nat.not_lt_zero _)
    | succ N ih22 =>
      intro v15 M16 hN hv15 hCM16 hWM16
      replace hN : 250 - v15 < (N : Int) + 1 := by omega
      refine zG_wp (pc := 33) (L := [.inr (.inr (some 92)), .inl a1, .inl v15]) (st := [.inl v15]) 4 hd0 hz zp_101 (qw_size (by first | exact zdk hd rfl | omega) hCM16 (⟨by decide, rfl, rfl⟩ : qT n 18 250 11) ) (by rfl) (fun x18 hx18 => ?_)
      refine zG_wi_ge (pc := 33) (n' := 36) (t := 140) (L := [.inr (.inr (some 92)), .inl a1, .inl v15]) (st := []) (x := v15) (y := x18) 0 hd0 hz (by rfl) (fun hb19 => ?_) (fun hb19 => ?_)
      · exact zG_ret hd0 hz rfl rfl ⟨⟨hCM16, hWM16⟩, rfl⟩
      · refine zG_wp (pc := 44) (L := [.inr (.inr (some 92)), .inl a1, .inl v15]) (st := []) 3 hd0 hz zp_42 (qm_42_60 (by first | exact zdk hd rfl | omega) hCM16  v15 (by first | with_reducible exact hv15 | omega)) (by rfl) (fun x21 hx21 => ?_)
        have j134 : ∀ (M22 : zM) , qCI M22 → qFr [92] M M22 → zG n (0, 0) d 6 (134, [.inr (.inr (some 92)), .inl a1, .inl v15], []) M22 (fun v M' => qWf qCI [92] M M' ∧ qRn v) := by
          intro M22 hCM22 hWM22
          obtain ⟨x23, hx23⟩ : ∃ x : Int, x = w32 (v15 + 1) := ⟨_, rfl⟩
          have hx23e : x23 = v15 + 1 := by rw [hx23]; exact w32_id (by omega)
          refine zG_w (c' := (22, [.inr (.inr (some 92)), .inl a1, .inl x23], [])) 2 hd0 hz (by subst hx23; rfl) ?_
          exact ih22 x23 M22 (by omega) (by omega) hCM22 hWM22
        refine zG_wf_eq (pc := 44) (n' := 47) (t := 134) (L := [.inr (.inr (some 92)), .inl a1, .inl v15]) (st := []) (x := x21) 0 hd0 hz (by rfl) (fun hb24 => ?_) (fun hb24 => ?_)
        · exact j134 M16 hCM16 hWM16
        · refine zG_wp (pc := 60) (L := [.inr (.inr (some 92)), .inl a1, .inl v15]) (st := []) 5 hd0 hz zp_106 (qw_get (by first | exact zdk hd rfl | omega) hCM16 (⟨by decide, rfl, rfl⟩ : qT n 18 250 11) v15 (by first | with_reducible exact hv15 | omega) 8 (by first | decide | omega)) (by rfl) (fun x26 hx26 => ?_)
          refine zG_wi_ne (pc := 61) (n' := 64) (t := 134) (L := [.inr (.inr (some 92)), .inl a1, .inl v15]) (st := []) (x := x26) (y := a1) 1 hd0 hz (by rfl) (fun hb27 => ?_) (fun hb27 => ?_)
          · exact j134 M16 hCM16 hWM16
          · refine zG_wp (pc := 73) (L := [.inr (.inr (some 92)), .inl a1, .inl v15]) (st := []) 4 hd0 hz zp_19 (qm_19_9 (by first | exact zdk hd rfl | omega) hCM16  0 (by first | decide | omega) v15 (by first | with_reducible exact hv15 | omega)) (by rfl) (fun x29 hx29 => ?_)
            have j104 : zG n (0, 0) d 6 (104, [.inr (.inr (some 92)), .inl a1, .inl v15], []) M16 (fun v M' => qWf qCI [92] M M' ∧ qRn v) := by
              refine zG_wp (pc := 113) (L := [.inr (.inr (some 92)), .inl a1, .inl v15]) (st := []) 4 hd0 hz zp_19 (qm_19_9 (by first | exact zdk hd rfl | omega) hCM16  1 (by first | decide | omega) v15 (by first | with_reducible exact hv15 | omega)) (by rfl) (fun x31 hx31 => ?_)
              refine zG_wf_eq (pc := 113) (n' := 116) (t := 134) (L := [.inr (.inr (some 92)), .inl a1, .inl v15]) (st := []) (x := x31) 0 hd0 hz (by rfl) (fun hb32 => ?_) (fun hb32 => ?_)
              · exact j134 M16 hCM16 hWM16
              · refine zG_wp (pc := 131) (L := [.inr (.inr (some 92)), .inl a1, .inl v15]) (st := [.inl v15, .inr (.inr (some 92))]) 7 hd0 hz zp_106 (qw_get (by first | exact zdk hd rfl | omega) hCM16 (⟨by decide, rfl, rfl⟩ : qT n 18 250 11) v15 (by first | with_reducible exact hv15 | omega) 6 (by first | decide | omega)) (by rfl) (fun x34 hx34 => ?_)
                refine zG_wv (pc := 134) (L := [.inr (.inr (some 92)), .inl a1, .inl v15]) (st := []) 0 hd0 hz zp_7 (qm_7_92 (by first | exact zdk hd rfl | omega) hCM16  v15 (by first | with_reducible exact hv15 | omega) x34 (by omega)) (by rfl) (fun M35 hr => ?_)
                obtain ⟨hCM35, hFM35⟩ := hr
                have hWM35 : qFr [92] M M35 := hWM16.tr hFM35 (by decide)
                exact j134 M35 hCM35 hWM35
            refine zG_wf_eq (pc := 73) (n' := 76) (t := 104) (L := [.inr (.inr (some 92)), .inl a1, .inl v15]) (st := []) (x := x29) 0 hd0 hz (by rfl) (fun hb37 => ?_) (fun hb37 => ?_)
            · exact j104
            · refine zG_wp (pc := 84) (L := [.inr (.inr (some 92)), .inl a1, .inl v15]) (st := []) 3 hd0 hz zp_43 (qm_43_60 (by first | exact zdk hd rfl | omega) hCM16  v15 (by first | with_reducible exact hv15 | omega)) (by rfl) (fun x39 hx39 => ?_)
              refine zG_wi_eq (pc := 85) (n' := 88) (t := 104) (L := [.inr (.inr (some 92)), .inl a1, .inl v15]) (st := []) (x := x39) (y := (-1)) 1 hd0 hz (by rfl) (fun hb40 => ?_) (fun hb40 => ?_)
              · exact j104
              · refine zG_wp (pc := 98) (L := [.inr (.inr (some 92)), .inl a1, .inl v15]) (st := [.inl v15, .inr (.inr (some 92))]) 5 hd0 hz zp_43 (qm_43_60 (by first | exact zdk hd rfl | omega) hCM16  v15 (by first | with_reducible exact hv15 | omega)) (by rfl) (fun x42 hx42 => ?_)
                refine zG_wv (pc := 101) (L := [.inr (.inr (some 92)), .inl a1, .inl v15]) (st := []) 0 hd0 hz zp_7 (qm_7_92 (by first | exact zdk hd rfl | omega) hCM16  v15 (by first | with_reducible exact hv15 | omega) x42 (by omega)) (by rfl) (fun M43 hr => ?_)
                obtain ⟨hCM43, hFM43⟩ := hr
                have hWM43 : qFr [92] M M43 := hWM16.tr hFM43 (by decide)
                refine zG_w (c' := (134, [.inr (.inr (some 92)), .inl a1, .inl v15], [])) 1 hd0 hz (by rfl) ?_
                exact j134 M43 hCM43 hWM43
  exact j22 ((250 - 0 : Int).toNat + 1) 0 M10 (by omega) (by omega) hCM10 hWM10
theorem qm_298_93 {n d : Nat} {M : zM} (hd : 1 ≤ d) (hC : qCI M) (a1 : Int) : qOkM n d 298 [.inr (.inr (some 93)), .inr (.inl (a1))] 5 qCI [93] M qRn := by
  have hz := zp_298
  have hd0 : 0 < d := by omega
  have hW : qFr [93] M M := qFr.rfl
  show zG n (0, 0) d 298 (0, [.inr (.inr (some 93)), .inr (.inl (a1)), zN, zN, zN], []) M _
  refine zG_w (c' := (6, [.inr (.inr (some 93)), .inr (.inl (a1)), zN, .inl 0, .inl 10], [])) 5 hd0 hz (by rfl) ?_
  have j6 : ∀ (N : Nat) (v1 : Int) (M2 : zM) , (10 - v1 : Int).toNat < N → 0 ≤ v1 ∧ v1 ≤ 10 → qCI M2 → qFr [93] M M2 → zG n (0, 0) d 298 (6, [.inr (.inr (some 93)), .inr (.inl (a1)), zN, .inl v1, .inl 10], []) M2 (fun v M' => qWf qCI [93] M M' ∧ qRn v) := by
    intro N
    induction N with
    | zero => intro v1 M2 hN hv1 hCM2 hWM2; exact absurd hN (Nat.not_lt_zero _)
    | succ N ih6 =>
      intro v1 M2 hN hv1 hCM2 hWM2
      replace hN : 10 - v1 < (N : Int) + 1 := by omega
      refine zG_wi_ge (pc := 9) (n' := 12) (t := 22) (L := [.inr (.inr (some 93)), .inr (.inl (a1)), zN, .inl v1, .inl 10]) (st := []) (x := v1) (y := 10) 2 hd0 hz (by rfl) (fun hb3 => ?_) (fun hb3 => ?_)
      · exact zG_ret hd0 hz rfl rfl ⟨⟨hCM2, hWM2⟩, rfl⟩
      · refine zG_w (c' := (15, [.inr (.inr (some 93)), .inr (.inl (a1)), zN, .inl v1, .inl 10], [.inr (.inl (a1)), .inl v1, .inr (.inr (some 93))])) 3 hd0 hz (by rfl) ?_
        refine zG_last hd0 hz rfl rfl (by omega) ?_
        obtain ⟨M4, hM4⟩ : ∃ X : zM, X = zput M2 93 (v1 : Int).toNat a1 := ⟨_, rfl⟩
        rw [← hM4]
        have hCM4 : qCI M4 := by rw [hM4]; exact hCM2.put (r := 93) rfl (.inr (.inl (by decide)))
        have hWM4 : qFr [93] M M4 := by rw [hM4]; exact hWM2.put (by decide)
        show zG n (0, 0) d 298 (16, [.inr (.inr (some 93)), .inr (.inl (a1)), zN, .inl v1, .inl 10], []) M4 _
        obtain ⟨x5, hx5⟩ : ∃ x : Int, x = w32 (v1 + 1) := ⟨_, rfl⟩
        have hx5e : x5 = v1 + 1 := by rw [hx5]; exact w32_id (by omega)
        refine zG_w (c' := (6, [.inr (.inr (some 93)), .inr (.inl (a1)), zN, .inl x5, .inl 10], [])) 2 hd0 hz (by subst hx5; rfl) ?_
        exact ih6 x5 M4 (by omega) (by omega) hCM4 hWM4
  exact j6 ((10 - 0 : Int).toNat + 1) 0 M (by omega) (by omega) hC hW
theorem qm_298_94 {n d : Nat} {M : zM} (hd : 1 ≤ d) (hC : qCI M) (a1 : Int) : qOkM n d 298 [.inr (.inr (some 94)), .inr (.inl (a1))] 5 qCI [94] M qRn := by
  have hz := zp_298
  have hd0 : 0 < d := by omega
  have hW : qFr [94] M M := qFr.rfl
  show zG n (0, 0) d 298 (0, [.inr (.inr (some 94)), .inr (.inl (a1)), zN, zN, zN], []) M _
  refine zG_w (c' := (6, [.inr (.inr (some 94)), .inr (.inl (a1)), zN, .inl 0, .inl 10], [])) 5 hd0 hz (by rfl) ?_
  have j6 : ∀ (N : Nat) (v1 : Int) (M2 : zM) , (10 - v1 : Int).toNat < N → 0 ≤ v1 ∧ v1 ≤ 10 → qCI M2 → qFr [94] M M2 → zG n (0, 0) d 298 (6, [.inr (.inr (some 94)), .inr (.inl (a1)), zN, .inl v1, .inl 10], []) M2 (fun v M' => qWf qCI [94] M M' ∧ qRn v) := by
    intro N
    induction N with
    | zero => intro v1 M2 hN hv1 hCM2 hWM2; exact absurd hN (Nat.not_lt_zero _)
    | succ N ih6 =>
      intro v1 M2 hN hv1 hCM2 hWM2
      replace hN : 10 - v1 < (N : Int) + 1 := by omega
      refine zG_wi_ge (pc := 9) (n' := 12) (t := 22) (L := [.inr (.inr (some 94)), .inr (.inl (a1)), zN, .inl v1, .inl 10]) (st := []) (x := v1) (y := 10) 2 hd0 hz (by rfl) (fun hb3 => ?_) (fun hb3 => ?_)
      · exact zG_ret hd0 hz rfl rfl ⟨⟨hCM2, hWM2⟩, rfl⟩
      · refine zG_w (c' := (15, [.inr (.inr (some 94)), .inr (.inl (a1)), zN, .inl v1, .inl 10], [.inr (.inl (a1)), .inl v1, .inr (.inr (some 94))])) 3 hd0 hz (by rfl) ?_
        refine zG_last hd0 hz rfl rfl (by omega) ?_
        obtain ⟨M4, hM4⟩ : ∃ X : zM, X = zput M2 94 (v1 : Int).toNat a1 := ⟨_, rfl⟩
        rw [← hM4]
        have hCM4 : qCI M4 := by rw [hM4]; exact hCM2.put (r := 94) rfl (.inr (.inl (by decide)))
        have hWM4 : qFr [94] M M4 := by rw [hM4]; exact hWM2.put (by decide)
        show zG n (0, 0) d 298 (16, [.inr (.inr (some 94)), .inr (.inl (a1)), zN, .inl v1, .inl 10], []) M4 _
        obtain ⟨x5, hx5⟩ : ∃ x : Int, x = w32 (v1 + 1) := ⟨_, rfl⟩
        have hx5e : x5 = v1 + 1 := by rw [hx5]; exact w32_id (by omega)
        refine zG_w (c' := (6, [.inr (.inr (some 94)), .inr (.inl (a1)), zN, .inl x5, .inl 10], [])) 2 hd0 hz (by subst hx5; rfl) ?_
        exact ih6 x5 M4 (by omega) (by omega) hCM4 hWM4
  exact j6 ((10 - 0 : Int).toNat + 1) 0 M (by omega) (by omega) hC hW
theorem qm_13_93 {n d : Nat} {M : zM} (hd : 1 ≤ d) (hC : qCI M) (a1 : Int) (ha1 : (-2147483648) ≤ a1 ∧ a1 ≤ 2147483647) : qOkM n d 13 [.inr (.inr (some 93)), .inl a1] 5 qCI [93] M qRn := by
  have hz := zp_13
  have hd0 : 0 < d := by omega
  have hW : qFr [93] M M := qFr.rfl
  show zG n (0, 0) d 13 (0, [.inr (.inr (some 93)), .inl a1, zN, zN, zN], []) M _
  refine zG_w (c' := (5, [.inr (.inr (some 93)), .inl a1, .inr (.inl (0)), zN, .inl 0], [])) 4 hd0 hz (by rfl) ?_
  have j5 : ∀ (N : Nat) (v1 v2 : Int) (M3 : zM) , (10 - v2 : Int).toNat < N → 0 ≤ v2 ∧ v2 ≤ 10 → qCI M3 → qFr [93] M M3 → zG n (0, 0) d 13 (5, [.inr (.inr (some 93)), .inl a1, .inr (.inl (v1)), zN, .inl v2], []) M3 (fun v M' => qWf qCI [93] M M' ∧ qRn v) := by
    intro N
    induction N with
    | zero => intro v1 v2 M3 hN hv2 hCM3 hWM3; exact absurd hN (Nat.not_lt_zero _)
    | succ N ih5 =>
      intro v1 v2 M3 hN hv2 hCM3 hWM3
      replace hN : 10 - v2 < (N : Int) + 1 := by omega
      refine zG_wi_ge (pc := 9) (n' := 12) (t := 42) (L := [.inr (.inr (some 93)), .inl a1, .inr (.inl (v1)), zN, .inl v2]) (st := []) (x := v2) (y := 10) 3 hd0 hz (by rfl) (fun hb4 => ?_) (fun hb4 => ?_)
      · exact zG_ret hd0 hz rfl rfl ⟨⟨hCM3, hWM3⟩, rfl⟩
      · refine zG_w (c' := (16, [.inr (.inr (some 93)), .inl a1, .inr (.inl (v1)), zN, .inl v2], [.inl v2, .inr (.inr (some 93)), .inr (.inl (v1))])) 3 hd0 hz (by rfl) ?_
        refine zG_lald hd0 hz rfl rfl (.inl rfl) (by omega) ?_
        generalize M3 93 (v2 : Int).toNat = x5
        show zG n (0, 0) d 13 (17, [.inr (.inr (some 93)), .inl a1, .inr (.inl (v1)), zN, .inl v2], [.inr (.inl (x5)), .inr (.inl (v1))]) M3 _
        obtain ⟨x6, hx6⟩ : ∃ x : Int, x = w64 (x5 * a1) := ⟨_, rfl⟩
        obtain ⟨x7, hx7⟩ : ∃ x : Int, x = w64 (v1 + x6) := ⟨_, rfl⟩
        obtain ⟨x8, hx8⟩ : ∃ x : Int, x = zlband x7 1073741823 := ⟨_, rfl⟩
        refine zG_w (c' := (30, [.inr (.inr (some 93)), .inl a1, .inr (.inl (x7)), zN, .inl v2], [.inr (.inl (x8)), .inl v2, .inr (.inr (some 93))])) 10 hd0 hz (by subst hx8; subst hx7; subst hx6; rfl) ?_
        refine zG_last hd0 hz rfl rfl (by omega) ?_
        obtain ⟨M9, hM9⟩ : ∃ X : zM, X = zput M3 93 (v2 : Int).toNat x8 := ⟨_, rfl⟩
        rw [← hM9]
        have hCM9 : qCI M9 := by rw [hM9]; exact hCM3.put (r := 93) rfl (.inr (.inl (by decide)))
        have hWM9 : qFr [93] M M9 := by rw [hM9]; exact hWM3.put (by decide)
        show zG n (0, 0) d 13 (31, [.inr (.inr (some 93)), .inl a1, .inr (.inl (x7)), zN, .inl v2], []) M9 _
        obtain ⟨x10, hx10⟩ : ∃ x : Int, x = zlshr x7 30 := ⟨_, rfl⟩
        obtain ⟨x11, hx11⟩ : ∃ x : Int, x = w32 (v2 + 1) := ⟨_, rfl⟩
        have hx11e : x11 = v2 + 1 := by rw [hx11]; exact w32_id (by omega)
        refine zG_w (c' := (5, [.inr (.inr (some 93)), .inl a1, .inr (.inl (x10)), zN, .inl x11], [])) 6 hd0 hz (by subst hx11; subst hx10; rfl) ?_
        exact ih5 x10 x11 M9 (by omega) (by omega) hCM9 hWM9
  exact j5 ((10 - 0 : Int).toNat + 1) 0 0 M (by omega) (by omega) hC hW
theorem qm_14_93 {n d : Nat} {M : zM} (hd : 1 ≤ d) (hC : qCI M) (a1 : Int) (ha1 : (-2147483648) ≤ a1 ∧ a1 ≤ 2147483647) : qOkM n d 14 [.inr (.inr (some 93)), .inl a1] 5 qCI [93] M qRn := by
  have hz := zp_14
  have hd0 : 0 < d := by omega
  have hW : qFr [93] M M := qFr.rfl
  show zG n (0, 0) d 14 (0, [.inr (.inr (some 93)), .inl a1, zN, zN, zN], []) M _
  refine zG_w (c' := (8, [.inr (.inr (some 93)), .inl a1, .inr (.inl (0)), zN, .inl 9], [])) 7 hd0 hz (by rfl) ?_
  have j8 : ∀ (N : Nat) (v1 v2 : Int) (M3 : zM) , (v2 + 1 : Int).toNat < N → (-1) ≤ v2 ∧ v2 ≤ 9 → qCI M3 → qFr [93] M M3 → zG n (0, 0) d 14 (8, [.inr (.inr (some 93)), .inl a1, .inr (.inl (v1)), zN, .inl v2], []) M3 (fun v M' => qWf qCI [93] M M' ∧ qRn v) := by
    intro N
    induction N with
    | zero => intro v1 v2 M3 hN hv2 hCM3 hWM3; exact absurd hN (Nat.not_lt_zero _)
    | succ N ih8 =>
      intro v1 v2 M3 hN hv2 hCM3 hWM3
      replace hN : v2 + 1 < (N : Int) + 1 := by omega
      refine zG_w (c' := (10, [.inr (.inr (some 93)), .inl a1, .inr (.inl (v1)), zN, .inl v2], [.inl v2])) 1 hd0 hz (by rfl) ?_
      have j46 : zG n (0, 0) d 14 (46, [.inr (.inr (some 93)), .inl a1, .inr (.inl (v1)), zN, .inl v2], []) M3 (fun v M' => qWf qCI [93] M M' ∧ qRn v) := by
        exact zG_wr (r := none) 0 hd0 hz (by rfl) ⟨⟨hCM3, hWM3⟩, rfl⟩
      refine zG_wf_lt (pc := 10) (n' := 13) (t := 46) (L := [.inr (.inr (some 93)), .inl a1, .inr (.inl (v1)), zN, .inl v2]) (st := []) (x := v2) 0 hd0 hz (by rfl) (fun hb4 => ?_) (fun hb4 => ?_)
      · exact j46
      · refine zG_wf_le (pc := 14) (n' := 17) (t := 46) (L := [.inr (.inr (some 93)), .inl a1, .inr (.inl (v1)), zN, .inl v2]) (st := []) (x := a1) 1 hd0 hz (by rfl) (fun hb5 => ?_) (fun hb5 => ?_)
        · exact j46
        · refine zG_w (c' := (20, [.inr (.inr (some 93)), .inl a1, .inr (.inl (v1)), zN, .inl v2], [.inl 30, .inr (.inl (v1))])) 2 hd0 hz (by rfl) ?_
          refine zG_lshl hd0 hz rfl (fun x6 => ?_)
          show zG n (0, 0) d 14 (21, [.inr (.inr (some 93)), .inl a1, .inr (.inl (v1)), zN, .inl v2], [.inr (.inl (x6))]) M3 _
          refine zG_w (c' := (24, [.inr (.inr (some 93)), .inl a1, .inr (.inl (v1)), zN, .inl v2], [.inl v2, .inr (.inr (some 93)), .inr (.inl (x6))])) 2 hd0 hz (by rfl) ?_
          refine zG_lald hd0 hz rfl rfl (.inl rfl) (by omega) ?_
          generalize M3 93 (v2 : Int).toNat = x7
          show zG n (0, 0) d 14 (25, [.inr (.inr (some 93)), .inl a1, .inr (.inl (v1)), zN, .inl v2], [.inr (.inl (x7)), .inr (.inl (x6))]) M3 _
          obtain ⟨x8, hx8⟩ : ∃ x : Int, x = w64 (x6 + x7) := ⟨_, rfl⟩
          refine zG_w (c' := (33, [.inr (.inr (some 93)), .inl a1, .inr (.inl (x8)), zN, .inl v2], [.inr (.inl (a1)), .inr (.inl (x8)), .inl v2, .inr (.inr (some 93))])) 7 hd0 hz (by subst hx8; rfl) ?_
          refine zG_ldiv hd0 hz rfl (by omega) ?_
          generalize w64 (x8.tdiv a1) = x9
          show zG n (0, 0) d 14 (34, [.inr (.inr (some 93)), .inl a1, .inr (.inl (x8)), zN, .inl v2], [.inr (.inl (x9)), .inl v2, .inr (.inr (some 93))]) M3 _
          refine zG_last hd0 hz rfl rfl (by omega) ?_
          obtain ⟨M10, hM10⟩ : ∃ X : zM, X = zput M3 93 (v2 : Int).toNat x9 := ⟨_, rfl⟩
          rw [← hM10]
          have hCM10 : qCI M10 := by rw [hM10]; exact hCM3.put (r := 93) rfl (.inr (.inl (by decide)))
          have hWM10 : qFr [93] M M10 := by rw [hM10]; exact hWM3.put (by decide)
          show zG n (0, 0) d 14 (35, [.inr (.inr (some 93)), .inl a1, .inr (.inl (x8)), zN, .inl v2], []) M10 _
          refine zG_w (c' := (38, [.inr (.inr (some 93)), .inl a1, .inr (.inl (x8)), zN, .inl v2], [.inr (.inl (a1)), .inr (.inl (x8))])) 3 hd0 hz (by rfl) ?_
          refine zG_lrem hd0 hz rfl (by omega) ?_
          generalize x8.tmod a1 = x11
          show zG n (0, 0) d 14 (39, [.inr (.inr (some 93)), .inl a1, .inr (.inl (x8)), zN, .inl v2], [.inr (.inl (x11))]) M10 _
          obtain ⟨x12, hx12⟩ : ∃ x : Int, x = w32 (v2 + (-1)) := ⟨_, rfl⟩
          have hx12e : x12 = v2 + (-1) := by rw [hx12]; exact w32_id (by omega)
          refine zG_w (c' := (8, [.inr (.inr (some 93)), .inl a1, .inr (.inl (x11)), zN, .inl x12], [])) 3 hd0 hz (by subst hx12; rfl) ?_
          exact ih8 x11 x12 M10 (by omega) (by omega) hCM10 hWM10
  exact j8 ((9 + 1 : Int).toNat + 1) 0 9 M (by omega) (by omega) hC hW
theorem qm_15_92 {n d : Nat} {M : zM} (hd : 1 ≤ d) (hC : qCI M)  : qOkM n d 15 [.inr (.inr (some 92))] 4 qCI [94] M qRn := by
  have hz := zp_15
  have hd0 : 0 < d := by omega
  have hW : qFr [94] M M := qFr.rfl
  show zG n (0, 0) d 15 (0, [.inr (.inr (some 92)), zN, zN, zN], []) M _
  refine zG_w (c' := (4, [.inr (.inr (some 92)), .inr (.inl (0)), zN, .inl 0], [])) 4 hd0 hz (by rfl) ?_
  have j4 : ∀ (N : Nat) (v1 v2 : Int) (M3 : zM) , (10 - v2 : Int).toNat < N → 0 ≤ v2 ∧ v2 ≤ 10 → qCI M3 → qFr [94] M M3 → zG n (0, 0) d 15 (4, [.inr (.inr (some 92)), .inr (.inl (v1)), zN, .inl v2], []) M3 (fun v M' => qWf qCI [94] M M' ∧ qRn v) := by
    intro N
    induction N with
    | zero => intro v1 v2 M3 hN hv2 hCM3 hWM3; exact absurd hN (Nat.not_lt_zero _)
    | succ N ih4 =>
      intro v1 v2 M3 hN hv2 hCM3 hWM3
      replace hN : 10 - v2 < (N : Int) + 1 := by omega
      refine zG_w (c' := (10, [.inr (.inr (some 92)), .inr (.inl (v1)), zN, .inl v2], [.inl 10, .inl v2])) 4 hd0 hz (by rfl) ?_
      have j60 : zG n (0, 0) d 15 (60, [.inr (.inr (some 92)), .inr (.inl (v1)), zN, .inl v2], []) M3 (fun v M' => qWf qCI [94] M M' ∧ qRn v) := by
        exact zG_wr (r := none) 0 hd0 hz (by rfl) ⟨⟨hCM3, hWM3⟩, rfl⟩
      refine zG_wi_ge (pc := 10) (n' := 13) (t := 60) (L := [.inr (.inr (some 92)), .inr (.inl (v1)), zN, .inl v2]) (st := []) (x := v2) (y := 10) 0 hd0 hz (by rfl) (fun hb4 => ?_) (fun hb4 => ?_)
      · exact j60
      · refine zG_wi_ge (pc := 19) (n' := 22) (t := 60) (L := [.inr (.inr (some 92)), .inr (.inl (v1)), zN, .inl v2]) (st := []) (x := v2) (y := 10) 4 hd0 hz (by rfl) (fun hb5 => ?_) (fun hb5 => ?_)
        · exfalso; omega
        · refine zG_w (c' := (28, [.inr (.inr (some 92)), .inr (.inl (v1)), zN, .inl v2], [.inl v2, .inr (.inr (some 94)), .inr (.inl (v1))])) 4 hd0 hz (by rfl) ?_
          refine zG_lald hd0 hz rfl rfl (.inl rfl) (by omega) ?_
          generalize M3 94 (v2 : Int).toNat = x6
          show zG n (0, 0) d 15 (29, [.inr (.inr (some 92)), .inr (.inl (v1)), zN, .inl v2], [.inr (.inl (x6)), .inr (.inl (v1))]) M3 _
          refine zG_w (c' := (34, [.inr (.inr (some 92)), .inr (.inl (v1)), zN, .inl v2], [.inl v2, .inr (.inr (some 93)), .inr (.inl (x6)), .inr (.inl (v1))])) 3 hd0 hz (by rfl) ?_
          refine zG_lald hd0 hz rfl rfl (.inl rfl) (by omega) ?_
          generalize M3 93 (v2 : Int).toNat = x7
          show zG n (0, 0) d 15 (35, [.inr (.inr (some 92)), .inr (.inl (v1)), zN, .inl v2], [.inr (.inl (x7)), .inr (.inl (x6)), .inr (.inl (v1))]) M3 _
          obtain ⟨x8, hx8⟩ : ∃ x : Int, x = w64 (x6 + x7) := ⟨_, rfl⟩
          obtain ⟨x9, hx9⟩ : ∃ x : Int, x = w64 (v1 + x8) := ⟨_, rfl⟩
          obtain ⟨x10, hx10⟩ : ∃ x : Int, x = zlband x9 1073741823 := ⟨_, rfl⟩
          refine zG_w (c' := (48, [.inr (.inr (some 92)), .inr (.inl (x9)), zN, .inl v2], [.inr (.inl (x10)), .inl v2, .inr (.inr (some 94))])) 9 hd0 hz (by subst hx10; subst hx9; subst hx8; rfl) ?_
          refine zG_last hd0 hz rfl rfl (by omega) ?_
          obtain ⟨M11, hM11⟩ : ∃ X : zM, X = zput M3 94 (v2 : Int).toNat x10 := ⟨_, rfl⟩
          rw [← hM11]
          have hCM11 : qCI M11 := by rw [hM11]; exact hCM3.put (r := 94) rfl (.inr (.inl (by decide)))
          have hWM11 : qFr [94] M M11 := by rw [hM11]; exact hWM3.put (by decide)
          show zG n (0, 0) d 15 (49, [.inr (.inr (some 92)), .inr (.inl (x9)), zN, .inl v2], []) M11 _
          obtain ⟨x12, hx12⟩ : ∃ x : Int, x = zlshr x9 30 := ⟨_, rfl⟩
          obtain ⟨x13, hx13⟩ : ∃ x : Int, x = w32 (v2 + 1) := ⟨_, rfl⟩
          have hx13e : x13 = v2 + 1 := by rw [hx13]; exact w32_id (by omega)
          refine zG_w (c' := (4, [.inr (.inr (some 92)), .inr (.inl (x12)), zN, .inl x13], [])) 6 hd0 hz (by subst hx13; subst hx12; rfl) ?_
          exact ih4 x12 x13 M11 (by omega) (by omega) hCM11 hWM11
  exact j4 ((10 - 0 : Int).toNat + 1) 0 0 M (by omega) (by omega) hC hW
theorem qm_12_92 {n d : Nat} {M : zM} (hd : 2 ≤ d) (hC : qCI M) (a1 : Int) (ha1 : (-2147483648) ≤ a1 ∧ a1 ≤ 2147483647) : qOkM n d 12 [.inr (.inr (some 92)), .inl a1] 3 qCI [93, 94] M qRn := by
  have hz := zp_12
  have hd0 : 0 < d := by omega
  have hW : qFr [93, 94] M M := qFr.rfl
  show zG n (0, 0) d 12 (0, [.inr (.inr (some 92)), .inl a1, zN], []) M _
  refine zG_wv (pc := 8) (L := [.inr (.inr (some 92)), .inl a1, zN]) (st := []) 3 hd0 hz zp_298 (qm_298_93 (by first | exact zdk hd rfl | omega) hC  0) (by rfl) (fun M1 hr => ?_)
  obtain ⟨hCM1, hFM1⟩ := hr
  have hWM1 : qFr [93, 94] M M1 := hW.tr hFM1 (by decide)
  refine zG_wv (pc := 16) (L := [.inr (.inr (some 92)), .inl a1, zN]) (st := []) 3 hd0 hz zp_298 (qm_298_94 (by first | exact zdk hd rfl | omega) hCM1  0) (by rfl) (fun M3 hr => ?_)
  obtain ⟨hCM3, hFM3⟩ := hr
  have hWM3 : qFr [93, 94] M M3 := hWM1.tr hFM3 (by decide)
  refine zG_w (c' := (22, [.inr (.inr (some 92)), .inl a1, zN], [.inr (.inl (1)), .inl 0, .inr (.inr (some 93))])) 4 hd0 hz (by rfl) ?_
  refine zG_last hd0 hz rfl rfl (by omega) ?_
  obtain ⟨M5, hM5⟩ : ∃ X : zM, X = zput M3 93 (0 : Int).toNat 1 := ⟨_, rfl⟩
  rw [← hM5]
  have hCM5 : qCI M5 := by rw [hM5]; exact hCM3.put (r := 93) rfl (.inr (.inl (by decide)))
  have hWM5 : qFr [93, 94] M M5 := by rw [hM5]; exact hWM3.put (by decide)
  show zG n (0, 0) d 12 (23, [.inr (.inr (some 92)), .inl a1, zN], []) M5 _
  refine zG_w (c' := (29, [.inr (.inr (some 92)), .inl a1, zN], [.inr (.inl (1)), .inl 0, .inr (.inr (some 94))])) 4 hd0 hz (by rfl) ?_
  refine zG_last hd0 hz rfl rfl (by omega) ?_
  obtain ⟨M6, hM6⟩ : ∃ X : zM, X = zput M5 94 (0 : Int).toNat 1 := ⟨_, rfl⟩
  rw [← hM6]
  have hCM6 : qCI M6 := by rw [hM6]; exact hCM5.put (r := 94) rfl (.inr (.inl (by decide)))
  have hWM6 : qFr [93, 94] M M6 := by rw [hM6]; exact hWM5.put (by decide)
  show zG n (0, 0) d 12 (30, [.inr (.inr (some 92)), .inl a1, zN], []) M6 _
  refine zG_w (c' := (32, [.inr (.inr (some 92)), .inl a1, .inl 0], [])) 2 hd0 hz (by rfl) ?_
  have j32 : ∀ (N : Nat) (v7 : Int) (M8 : zM) , (a1 - v7 : Int).toNat < N → 0 ≤ v7 ∧ v7 ≤ 2147483647 → qCI M8 → qFr [93, 94] M M8 → zG n (0, 0) d 12 (32, [.inr (.inr (some 92)), .inl a1, .inl v7], []) M8 (fun v M' => qWf qCI [93, 94] M M' ∧ qRn v) := by
    intro N
    induction N with
    | zero => intro v7 M8 hN hv7 hCM8 hWM8; exact absurd hN (Nat.not_lt_zero _)
    | succ N ih32 =>
      intro v7 M8 hN hv7 hCM8 hWM8
      replace hN : a1 - v7 < (N : Int) + 1 := by omega
      refine zG_wi_ge (pc := 34) (n' := 37) (t := 70) (L := [.inr (.inr (some 92)), .inl a1, .inl v7]) (st := []) (x := v7) (y := a1) 2 hd0 hz (by rfl) (fun hb9 => ?_) (fun hb9 => ?_)
      · exact zG_ret hd0 hz rfl rfl ⟨⟨hCM8, hWM8⟩, rfl⟩
      · have r10 := hCM8.rng 92 5 (by decide) (by decide)
        obtain ⟨x11, hx11⟩ : ∃ x : Int, x = w32 ((M8 92 5) - v7) := ⟨_, rfl⟩
        have hx11r : x11 = ((M8 92 5) - v7 + 2147483648) % 4294967296 - 2147483648 := hx11
        refine zG_wv (pc := 50) (L := [.inr (.inr (some 92)), .inl a1, .inl v7]) (st := []) 6 hd0 hz zp_13 (qm_13_93 (by first | exact zdk hd rfl | omega) hCM8  x11 (by omega)) (by subst hx11; rfl) (fun M12 hr => ?_)
        obtain ⟨hCM12, hFM12⟩ := hr
        have hWM12 : qFr [93, 94] M M12 := hWM8.tr hFM12 (by decide)
        have e14 : M12 92 5 = M8 92 5 := hFM12 92 5 (by decide)
        obtain ⟨x15, hx15⟩ : ∃ x : Int, x = w32 (v7 + 1) := ⟨_, rfl⟩
        have hx15e : x15 = v7 + 1 := by rw [hx15]; exact w32_id (by omega)
        refine zG_wv (pc := 60) (L := [.inr (.inr (some 92)), .inl a1, .inl v7]) (st := []) 5 hd0 hz zp_14 (qm_14_93 (by first | exact zdk hd rfl | omega) hCM12  x15 (by omega)) (by subst hx15; rfl) (fun M16 hr => ?_)
        obtain ⟨hCM16, hFM16⟩ := hr
        have hWM16 : qFr [93, 94] M M16 := hWM12.tr hFM16 (by decide)
        have e18 : M16 92 5 = M12 92 5 := hFM16 92 5 (by decide)
        refine zG_wv (pc := 64) (L := [.inr (.inr (some 92)), .inl a1, .inl v7]) (st := []) 1 hd0 hz zp_15 (qm_15_92 (by first | exact zdk hd rfl | omega) hCM16  ) (by rfl) (fun M19 hr => ?_)
        obtain ⟨hCM19, hFM19⟩ := hr
        have hWM19 : qFr [93, 94] M M19 := hWM16.tr hFM19 (by decide)
        have e21 : M19 92 5 = M16 92 5 := hFM19 92 5 (by decide)
        obtain ⟨x22, hx22⟩ : ∃ x : Int, x = w32 (v7 + 1) := ⟨_, rfl⟩
        have hx22e : x22 = v7 + 1 := by rw [hx22]; exact w32_id (by omega)
        refine zG_w (c' := (32, [.inr (.inr (some 92)), .inl a1, .inl x22], [])) 2 hd0 hz (by subst hx22; rfl) ?_
        exact ih32 x22 M19 (by omega) (by omega) hCM19 hWM19
  exact j32 ((a1 - 0 : Int).toNat + 1) 0 M6 (by omega) (by omega) hCM6 hWM6
theorem qm_13_94 {n d : Nat} {M : zM} (hd : 1 ≤ d) (hC : qCI M) (a1 : Int) (ha1 : (-2147483648) ≤ a1 ∧ a1 ≤ 2147483647) : qOkM n d 13 [.inr (.inr (some 94)), .inl a1] 5 qCI [94] M qRn := by
  have hz := zp_13
  have hd0 : 0 < d := by omega
  have hW : qFr [94] M M := qFr.rfl
  show zG n (0, 0) d 13 (0, [.inr (.inr (some 94)), .inl a1, zN, zN, zN], []) M _
  refine zG_w (c' := (5, [.inr (.inr (some 94)), .inl a1, .inr (.inl (0)), zN, .inl 0], [])) 4 hd0 hz (by rfl) ?_
  have j5 : ∀ (N : Nat) (v1 v2 : Int) (M3 : zM) , (10 - v2 : Int).toNat < N → 0 ≤ v2 ∧ v2 ≤ 10 → qCI M3 → qFr [94] M M3 → zG n (0, 0) d 13 (5, [.inr (.inr (some 94)), .inl a1, .inr (.inl (v1)), zN, .inl v2], []) M3 (fun v M' => qWf qCI [94] M M' ∧ qRn v) := by
    intro N
    induction N with
    | zero => intro v1 v2 M3 hN hv2 hCM3 hWM3; exact absurd hN (Nat.not_lt_zero _)
    | succ N ih5 =>
      intro v1 v2 M3 hN hv2 hCM3 hWM3
      replace hN : 10 - v2 < (N : Int) + 1 := by omega
      refine zG_wi_ge (pc := 9) (n' := 12) (t := 42) (L := [.inr (.inr (some 94)), .inl a1, .inr (.inl (v1)), zN, .inl v2]) (st := []) (x := v2) (y := 10) 3 hd0 hz (by rfl) (fun hb4 => ?_) (fun hb4 => ?_)
      · exact zG_ret hd0 hz rfl rfl ⟨⟨hCM3, hWM3⟩, rfl⟩
      · refine zG_w (c' := (16, [.inr (.inr (some 94)), .inl a1, .inr (.inl (v1)), zN, .inl v2], [.inl v2, .inr (.inr (some 94)), .inr (.inl (v1))])) 3 hd0 hz (by rfl) ?_
        refine zG_lald hd0 hz rfl rfl (.inl rfl) (by omega) ?_
        generalize M3 94 (v2 : Int).toNat = x5
        show zG n (0, 0) d 13 (17, [.inr (.inr (some 94)), .inl a1, .inr (.inl (v1)), zN, .inl v2], [.inr (.inl (x5)), .inr (.inl (v1))]) M3 _
        obtain ⟨x6, hx6⟩ : ∃ x : Int, x = w64 (x5 * a1) := ⟨_, rfl⟩
        obtain ⟨x7, hx7⟩ : ∃ x : Int, x = w64 (v1 + x6) := ⟨_, rfl⟩
        obtain ⟨x8, hx8⟩ : ∃ x : Int, x = zlband x7 1073741823 := ⟨_, rfl⟩
        refine zG_w (c' := (30, [.inr (.inr (some 94)), .inl a1, .inr (.inl (x7)), zN, .inl v2], [.inr (.inl (x8)), .inl v2, .inr (.inr (some 94))])) 10 hd0 hz (by subst hx8; subst hx7; subst hx6; rfl) ?_
        refine zG_last hd0 hz rfl rfl (by omega) ?_
        obtain ⟨M9, hM9⟩ : ∃ X : zM, X = zput M3 94 (v2 : Int).toNat x8 := ⟨_, rfl⟩
        rw [← hM9]
        have hCM9 : qCI M9 := by rw [hM9]; exact hCM3.put (r := 94) rfl (.inr (.inl (by decide)))
        have hWM9 : qFr [94] M M9 := by rw [hM9]; exact hWM3.put (by decide)
        show zG n (0, 0) d 13 (31, [.inr (.inr (some 94)), .inl a1, .inr (.inl (x7)), zN, .inl v2], []) M9 _
        obtain ⟨x10, hx10⟩ : ∃ x : Int, x = zlshr x7 30 := ⟨_, rfl⟩
        obtain ⟨x11, hx11⟩ : ∃ x : Int, x = w32 (v2 + 1) := ⟨_, rfl⟩
        have hx11e : x11 = v2 + 1 := by rw [hx11]; exact w32_id (by omega)
        refine zG_w (c' := (5, [.inr (.inr (some 94)), .inl a1, .inr (.inl (x10)), zN, .inl x11], [])) 6 hd0 hz (by subst hx11; subst hx10; rfl) ?_
        exact ih5 x10 x11 M9 (by omega) (by omega) hCM9 hWM9
  exact j5 ((10 - 0 : Int).toNat + 1) 0 0 M (by omega) (by omega) hC hW
theorem qm_16_92 {n d : Nat} {M : zM} (hd : 1 ≤ d) (hC : qCI M) (a1 : Int) (ha1 : (-2147483648) ≤ a1 ∧ a1 ≤ 2147483647) : qOkP n d 16 [.inr (.inr (some 92)), .inl a1] 7 M (qRi (fun x => 0 ≤ x ∧ x ≤ 1)) := by
  have hz := zp_16
  have hd0 : 0 < d := by omega
  show zG n (0, 0) d 16 (0, [.inr (.inr (some 92)), .inl a1, zN, zN, zN, zN, zN], []) M _
  refine zG_w (c' := (3, [.inr (.inr (some 92)), .inl a1, zN, zN, zN, zN, zN], [.inl 30, .inl a1])) 2 hd0 hz (by rfl) ?_
  refine zG_idiv hd0 hz rfl (by omega) ?_
  have hx1 := qtdiv_in a1 30 (by first | decide | omega) (by omega)
  generalize w32 (a1.tdiv 30) = x1 at hx1 ⊢
  show zG n (0, 0) d 16 (4, [.inr (.inr (some 92)), .inl a1, zN, zN, zN, zN, zN], [.inl x1]) M _
  refine zG_w (c' := (9, [.inr (.inr (some 92)), .inl a1, .inl x1, zN, zN, zN, zN], [.inl 30, .inl a1, .inr (.inl (1))])) 4 hd0 hz (by rfl) ?_
  refine zG_irem hd0 hz rfl (by omega) ?_
  have hx2 := qtmod_in a1 30 (by first | decide | omega)
  generalize a1.tmod 30 = x2 at hx2 ⊢
  show zG n (0, 0) d 16 (10, [.inr (.inr (some 92)), .inl a1, .inl x1, zN, zN, zN, zN], [.inl x2, .inr (.inl (1))]) M _
  refine zG_lshl hd0 hz rfl (fun x3 => ?_)
  show zG n (0, 0) d 16 (11, [.inr (.inr (some 92)), .inl a1, .inl x1, zN, zN, zN, zN], [.inr (.inl (x3))]) M _
  refine zG_w (c' := (24, [.inr (.inr (some 92)), .inl a1, .inl x1, .inr (.inl (x3)), zN, .inl 0, .inl 9], [])) 9 hd0 hz (by rfl) ?_
  have j24 : ∀ (N : Nat) (v4 v5 : Int) , (v5 + 1 : Int).toNat < N → (-2147483648) ≤ v4 ∧ v4 ≤ 2147483647 → (-1) ≤ v5 ∧ v5 ≤ 9 → zG n (0, 0) d 16 (24, [.inr (.inr (some 92)), .inl a1, .inl x1, .inr (.inl (x3)), zN, .inl v4, .inl v5], []) M (fun v M' => M' = M ∧ qRi (fun x => 0 ≤ x ∧ x ≤ 1) v) := by
    intro N
    induction N with
    | zero => intro v4 v5 hN hv4 hv5; exact absurd hN (Nat.not_lt_zero _)
    | succ N ih24 =>
      intro v4 v5 hN hv4 hv5
      replace hN : v5 + 1 < (N : Int) + 1 := by omega
      refine zG_wf_lt (pc := 26) (n' := 29) (t := 121) (L := [.inr (.inr (some 92)), .inl a1, .inl x1, .inr (.inl (x3)), zN, .inl v4, .inl v5]) (st := []) (x := v5) 1 hd0 hz (by rfl) (fun hb6 => ?_) (fun hb6 => ?_)
      · refine zG_w (c' := (123, [.inr (.inr (some 92)), .inl a1, .inl x1, .inr (.inl (x3)), zN, .inl v4, .inl v5], [.inl v4])) 1 hd0 hz (by rfl) ?_
        have j131 : ∀ (v7 : Int) , 0 ≤ v7 ∧ v7 ≤ 1 → zG n (0, 0) d 16 (131, [.inr (.inr (some 92)), .inl a1, .inl x1, .inr (.inl (x3)), zN, .inl v4, .inl v5], [.inl v7]) M (fun v M' => M' = M ∧ qRi (fun x => 0 ≤ x ∧ x ≤ 1) v) := by
          intro v7 hv7
          exact zG_zret hd0 hz rfl (by omega) ⟨rfl, _, rfl, by omega⟩
        refine zG_wf_ne (pc := 123) (n' := 126) (t := 130) (L := [.inr (.inr (some 92)), .inl a1, .inl x1, .inr (.inl (x3)), zN, .inl v4, .inl v5]) (st := []) (x := v4) 0 hd0 hz (by rfl) (fun hb8 => ?_) (fun hb8 => ?_)
        · refine zG_w (c' := (131, [.inr (.inr (some 92)), .inl a1, .inl x1, .inr (.inl (x3)), zN, .inl v4, .inl v5], [.inl 0])) 1 hd0 hz (by rfl) ?_
          exact j131 0 (by first | decide | omega)
        · refine zG_w (c' := (131, [.inr (.inr (some 92)), .inl a1, .inl x1, .inr (.inl (x3)), zN, .inl v4, .inl v5], [.inl 1])) 2 hd0 hz (by rfl) ?_
          exact j131 1 (by first | decide | omega)
      · refine zG_w (c' := (32, [.inr (.inr (some 92)), .inl a1, .inl x1, .inr (.inl (x3)), zN, .inl v4, .inl v5], [.inl x1, .inl v5])) 2 hd0 hz (by rfl) ?_
        have j65 : zG n (0, 0) d 16 (65, [.inr (.inr (some 92)), .inl a1, .inl x1, .inr (.inl (x3)), zN, .inl v4, .inl v5], []) M (fun v M' => M' = M ∧ qRi (fun x => 0 ≤ x ∧ x ≤ 1) v) := by
          exact zG_wr (r := some (.inl 0)) 1 hd0 hz (by rfl) ⟨rfl, _, rfl, by omega⟩
        have j47 : zG n (0, 0) d 16 (47, [.inr (.inr (some 92)), .inl a1, .inl x1, .inr (.inl (x3)), zN, .inl v4, .inl v5], []) M (fun v M' => M' = M ∧ qRi (fun x => 0 ≤ x ∧ x ≤ 1) v) := by
          refine zG_w (c' := (50, [.inr (.inr (some 92)), .inl a1, .inl x1, .inr (.inl (x3)), zN, .inl v4, .inl v5], [.inl x1, .inl v5])) 2 hd0 hz (by rfl) ?_
          have j67 : zG n (0, 0) d 16 (67, [.inr (.inr (some 92)), .inl a1, .inl x1, .inr (.inl (x3)), zN, .inl v4, .inl v5], []) M (fun v M' => M' = M ∧ qRi (fun x => 0 ≤ x ∧ x ≤ 1) v) := by
            refine zG_w (c' := (70, [.inr (.inr (some 92)), .inl a1, .inl x1, .inr (.inl (x3)), zN, .inl v4, .inl v5], [.inl x1, .inl v5])) 2 hd0 hz (by rfl) ?_
            have j87 : zG n (0, 0) d 16 (87, [.inr (.inr (some 92)), .inl a1, .inl x1, .inr (.inl (x3)), zN, .inl v4, .inl v5], []) M (fun v M' => M' = M ∧ qRi (fun x => 0 ≤ x ∧ x ≤ 1) v) := by
              refine zG_w (c' := (92, [.inr (.inr (some 92)), .inl a1, .inl x1, .inr (.inl (x3)), zN, .inl v4, .inl v5], [.inl x1, .inl v5, .inl v4])) 3 hd0 hz (by rfl) ?_
              have j112 : ∀ (v9 v10 : Int) , (-2147483648) ≤ v9 ∧ v9 ≤ 2147483647 → 0 ≤ v10 ∧ v10 ≤ 1 → zG n (0, 0) d 16 (112, [.inr (.inr (some 92)), .inl a1, .inl x1, .inr (.inl (x3)), zN, .inl v4, .inl v5], [.inl v10, .inl v9]) M (fun v M' => M' = M ∧ qRi (fun x => 0 ≤ x ∧ x ≤ 1) v) := by
                intro v9 v10 hv9 hv10
                obtain ⟨x11, hx11⟩ : ∃ x : Int, x = zbor v9 v10 := ⟨_, rfl⟩
                have hx11r : qin x11 := by rw [hx11]; exact qb32 _
                obtain ⟨x12, hx12⟩ : ∃ x : Int, x = w32 (v5 + (-1)) := ⟨_, rfl⟩
                have hx12e : x12 = v5 + (-1) := by rw [hx12]; exact w32_id (by omega)
                refine zG_w (c' := (24, [.inr (.inr (some 92)), .inl a1, .inl x1, .inr (.inl (x3)), zN, .inl x11, .inl x12], [])) 4 hd0 hz (by subst hx12; subst hx11; rfl) ?_
                exact ih24 x11 x12 (by omega) (by omega) (by omega)
              have j111 : ∀ (v13 : Int) , (-2147483648) ≤ v13 ∧ v13 ≤ 2147483647 → zG n (0, 0) d 16 (111, [.inr (.inr (some 92)), .inl a1, .inl x1, .inr (.inl (x3)), zN, .inl v4, .inl v5], [.inl v13]) M (fun v M' => M' = M ∧ qRi (fun x => 0 ≤ x ∧ x ≤ 1) v) := by
                intro v13 hv13
                refine zG_w (c' := (112, [.inr (.inr (some 92)), .inl a1, .inl x1, .inr (.inl (x3)), zN, .inl v4, .inl v5], [.inl 0, .inl v13])) 1 hd0 hz (by rfl) ?_
                exact j112 v13 0 (by first | decide | omega) (by omega)
              refine zG_wi_ge (pc := 92) (n' := 95) (t := 111) (L := [.inr (.inr (some 92)), .inl a1, .inl x1, .inr (.inl (x3)), zN, .inl v4, .inl v5]) (st := [.inl v4]) (x := v5) (y := x1) 0 hd0 hz (by rfl) (fun hb14 => ?_) (fun hb14 => ?_)
              · exact j111 v4 (by first | with_reducible exact hv4 | omega)
              · refine zG_w (c' := (101, [.inr (.inr (some 92)), .inl a1, .inl x1, .inr (.inl (x3)), zN, .inl v4, .inl v5], [.inl v5, .inr (.inr (some 94)), .inl v4])) 3 hd0 hz (by rfl) ?_
                refine zG_lald hd0 hz rfl rfl (.inl rfl) (by omega) ?_
                generalize M 94 (v5 : Int).toNat = x15
                show zG n (0, 0) d 16 (102, [.inr (.inr (some 92)), .inl a1, .inl x1, .inr (.inl (x3)), zN, .inl v4, .inl v5], [.inr (.inl (x15)), .inl v4]) M _
                refine zG_w (c' := (103, [.inr (.inr (some 92)), .inl a1, .inl x1, .inr (.inl (x3)), zN, .inl v4, .inl v5], [.inr (.inl (0)), .inr (.inl (x15)), .inl v4])) 1 hd0 hz (by rfl) ?_
                refine zG_lc_eq hd0 hz rfl rfl (fun hb103 => ?_) (fun hb103 => ?_)
                · exact j111 v4 (by first | with_reducible exact hv4 | omega)
                · refine zG_w (c' := (112, [.inr (.inr (some 92)), .inl a1, .inl x1, .inr (.inl (x3)), zN, .inl v4, .inl v5], [.inl 1, .inl v4])) 2 hd0 hz (by rfl) ?_
                  exact j112 v4 1 (by first | decide | omega) (by omega)
            refine zG_wi_ne (pc := 70) (n' := 73) (t := 87) (L := [.inr (.inr (some 92)), .inl a1, .inl x1, .inr (.inl (x3)), zN, .inl v4, .inl v5]) (st := []) (x := v5) (y := x1) 0 hd0 hz (by rfl) (fun hb16 => ?_) (fun hb16 => ?_)
            · exact j87
            · refine zG_w (c' := (79, [.inr (.inr (some 92)), .inl a1, .inl x1, .inr (.inl (x3)), zN, .inl v4, .inl v5], [.inl v5, .inr (.inr (some 94))])) 3 hd0 hz (by rfl) ?_
              refine zG_lald hd0 hz rfl rfl (.inl rfl) (by omega) ?_
              generalize M 94 (v5 : Int).toNat = x17
              show zG n (0, 0) d 16 (80, [.inr (.inr (some 92)), .inl a1, .inl x1, .inr (.inl (x3)), zN, .inl v4, .inl v5], [.inr (.inl (x17))]) M _
              refine zG_w (c' := (81, [.inr (.inr (some 92)), .inl a1, .inl x1, .inr (.inl (x3)), zN, .inl v4, .inl v5], [.inr (.inl (x3)), .inr (.inl (x17))])) 1 hd0 hz (by rfl) ?_
              refine zG_lc_ge hd0 hz rfl rfl (fun hb81 => ?_) (fun hb81 => ?_)
              · exact j87
              · exact zG_wr (r := some (.inl 1)) 1 hd0 hz (by rfl) ⟨rfl, _, rfl, by omega⟩
          refine zG_wi_ne (pc := 50) (n' := 53) (t := 67) (L := [.inr (.inr (some 92)), .inl a1, .inl x1, .inr (.inl (x3)), zN, .inl v4, .inl v5]) (st := []) (x := v5) (y := x1) 0 hd0 hz (by rfl) (fun hb18 => ?_) (fun hb18 => ?_)
          · exact j67
          · refine zG_w (c' := (59, [.inr (.inr (some 92)), .inl a1, .inl x1, .inr (.inl (x3)), zN, .inl v4, .inl v5], [.inl v5, .inr (.inr (some 94))])) 3 hd0 hz (by rfl) ?_
            refine zG_lald hd0 hz rfl rfl (.inl rfl) (by omega) ?_
            generalize M 94 (v5 : Int).toNat = x19
            show zG n (0, 0) d 16 (60, [.inr (.inr (some 92)), .inl a1, .inl x1, .inr (.inl (x3)), zN, .inl v4, .inl v5], [.inr (.inl (x19))]) M _
            refine zG_w (c' := (61, [.inr (.inr (some 92)), .inl a1, .inl x1, .inr (.inl (x3)), zN, .inl v4, .inl v5], [.inr (.inl (x3)), .inr (.inl (x19))])) 1 hd0 hz (by rfl) ?_
            refine zG_lc_le hd0 hz rfl rfl (fun hb61 => ?_) (fun hb61 => ?_)
            · exact j67
            · exact j65
        refine zG_wi_le (pc := 32) (n' := 35) (t := 47) (L := [.inr (.inr (some 92)), .inl a1, .inl x1, .inr (.inl (x3)), zN, .inl v4, .inl v5]) (st := []) (x := v5) (y := x1) 0 hd0 hz (by rfl) (fun hb20 => ?_) (fun hb20 => ?_)
        · exact j47
        · refine zG_w (c' := (41, [.inr (.inr (some 92)), .inl a1, .inl x1, .inr (.inl (x3)), zN, .inl v4, .inl v5], [.inl v5, .inr (.inr (some 94))])) 3 hd0 hz (by rfl) ?_
          refine zG_lald hd0 hz rfl rfl (.inl rfl) (by omega) ?_
          generalize M 94 (v5 : Int).toNat = x21
          show zG n (0, 0) d 16 (42, [.inr (.inr (some 92)), .inl a1, .inl x1, .inr (.inl (x3)), zN, .inl v4, .inl v5], [.inr (.inl (x21))]) M _
          refine zG_w (c' := (43, [.inr (.inr (some 92)), .inl a1, .inl x1, .inr (.inl (x3)), zN, .inl v4, .inl v5], [.inr (.inl (0)), .inr (.inl (x21))])) 1 hd0 hz (by rfl) ?_
          refine zG_lc_ne hd0 hz rfl rfl (fun hb43 => ?_) (fun hb43 => ?_)
          · exact j65
          · exact j47
  exact j24 ((9 + 1 : Int).toNat + 1) 0 9 (by first | decide | omega) (by omega) (by omega)
theorem qm_11_92 {n d : Nat} {M : zM} (hd : 4 ≤ d) (hC : qCI M) (a1 : Int) (ha1 : (-2147483648) ≤ a1 ∧ a1 ≤ 2147483647) : qOkM n d 11 [.inr (.inr (some 92)), .inl a1] 4 qCI [92, 93, 94] M (qRi (fun x => 0 ≤ x ∧ x ≤ 1)) := by
  have hz := zp_11
  have hd0 : 0 < d := by omega
  have hW : qFr [92, 93, 94] M M := qFr.rfl
  show zG n (0, 0) d 11 (0, [.inr (.inr (some 92)), .inl a1, zN, zN], []) M _
  refine zG_w (c' := (4, [.inr (.inr (some 92)), .inl a1, .inl 0, .inl 0], [])) 4 hd0 hz (by rfl) ?_
  have j4 : ∀ (N : Nat) (v1 v2 : Int) (M3 : zM) , (5 - v2 : Int).toNat < N → (-2147483648) ≤ v1 ∧ v1 ≤ 2147483647 → 0 ≤ v2 ∧ v2 ≤ 5 → qCI M3 → qFr [92, 93, 94] M M3 → zG n (0, 0) d 11 (4, [.inr (.inr (some 92)), .inl a1, .inl v1, .inl v2], []) M3 (fun v M' => qWf qCI [92, 93, 94] M M' ∧ qRi (fun x => 0 ≤ x ∧ x ≤ 1) v) := by
    intro N
    induction N with
    | zero => intro v1 v2 M3 hN hv1 hv2 hCM3 hWM3; exact absurd hN (Nat.not_lt_zero _)
    | succ N ih4 =>
      intro v1 v2 M3 hN hv1 hv2 hCM3 hWM3
      replace hN : 5 - v2 < (N : Int) + 1 := by omega
      refine zG_wi_ge (pc := 6) (n' := 9) (t := 35) (L := [.inr (.inr (some 92)), .inl a1, .inl v1, .inl v2]) (st := []) (x := v2) (y := 5) 2 hd0 hz (by rfl) (fun hb4 => ?_) (fun hb4 => ?_)
      · refine zG_wv (pc := 40) (L := [.inr (.inr (some 92)), .inl a1, .inl v1, .inl v2]) (st := []) 2 hd0 hz zp_6 (qm_6_92 (by first | exact zdk hd rfl | omega) hCM3  a1 (by first | with_reducible exact ha1 | omega)) (by rfl) (fun M5 hr => ?_)
        obtain ⟨hCM5, hFM5⟩ := hr
        have hWM5 : qFr [92, 93, 94] M M5 := hWM3.tr hFM5 (by decide)
        have r7 := hCM5.rng 92 6 (by decide) (by decide)
        have r8 := hCM5.rng 92 5 (by decide) (by decide)
        obtain ⟨x9, hx9⟩ : ∃ x : Int, x = w32 ((M5 92 5) - (M5 92 6)) := ⟨_, rfl⟩
        have hx9r : x9 = ((M5 92 5) - (M5 92 6) + 2147483648) % 4294967296 - 2147483648 := hx9
        obtain ⟨x10, hx10⟩ : ∃ x : Int, x = (if x9 < (M5 92 6) then x9 else (M5 92 6)) := ⟨_, rfl⟩
        have hx10r := qite hx10
        refine zG_wv (pc := 60) (L := [.inr (.inr (some 92)), .inl a1, .inl v1, .inl v2]) (st := []) 9 hd0 hz zp_12 (qm_12_92 (by first | exact zdk hd rfl | omega) hCM5  x10 (by omega)) (by subst hx10; subst hx9; rfl) (fun M11 hr => ?_)
        obtain ⟨hCM11, hFM11⟩ := hr
        have hWM11 : qFr [92, 93, 94] M M11 := hWM5.tr hFM11 (by decide)
        have e13 : M11 92 6 = M5 92 6 := hFM11 92 6 (by decide)
        have e14 : M11 92 5 = M5 92 5 := hFM11 92 5 (by decide)
        obtain ⟨x15, hx15⟩ : ∃ x : Int, x = w32 (2 * v1) := ⟨_, rfl⟩
        have hx15r : qin x15 := by rw [hx15]; exact w32_in _
        have r16 := hCM11.rng 9 9 (by decide) (by decide)
        obtain ⟨x17, hx17⟩ : ∃ x : Int, x = w32 (x15 * (M11 9 9)) := ⟨_, rfl⟩
        have hx17r : qin x17 := by rw [hx17]; exact w32_in _
        refine zG_wv (pc := 78) (L := [.inr (.inr (some 92)), .inl a1, .inl v1, .inl v2]) (st := []) 9 hd0 hz zp_13 (qm_13_94 (by first | exact zdk hd rfl | omega) hCM11  x17 (by omega)) (by subst hx17; subst hx15; rfl) (fun M18 hr => ?_)
        obtain ⟨hCM18, hFM18⟩ := hr
        have hWM18 : qFr [92, 93, 94] M M18 := hWM11.tr hFM18 (by decide)
        have e20 : M18 92 6 = M11 92 6 := hFM18 92 6 (by decide)
        have e21 : M18 92 5 = M11 92 5 := hFM18 92 5 (by decide)
        have e22 : M18 9 9 = M11 9 9 := hFM18 9 9 (by decide)
        refine zG_wp (pc := 86) (L := [.inr (.inr (some 92)), .inl a1, .inl v1, .inl v2]) (st := []) 3 hd0 hz zp_16 (qm_16_92 (by first | exact zdk hd rfl | omega) hCM18  (M18 92 5) (by omega)) (by rfl) (fun x24 hx24 => ?_)
        exact zG_zret hd0 hz rfl (by omega) ⟨⟨hCM18, hWM18⟩, _, rfl, by omega⟩
      · refine zG_wv (pc := 14) (L := [.inr (.inr (some 92)), .inl a1, .inl v1, .inl v2]) (st := []) 2 hd0 hz zp_6 (qm_6_92 (by first | exact zdk hd rfl | omega) hCM3  v2 (by first | with_reducible exact hv2 | omega)) (by rfl) (fun M25 hr => ?_)
        obtain ⟨hCM25, hFM25⟩ := hr
        have hWM25 : qFr [92, 93, 94] M M25 := hWM3.tr hFM25 (by decide)
        have r27 := hCM25.rng 92 5 (by decide) (by decide)
        refine zG_w (c' := (19, [.inr (.inr (some 92)), .inl a1, .inl v1, .inl v2], [.inl (M25 92 5), .inl v1])) 3 hd0 hz (by rfl) ?_
        have j27 : ∀ (v28 v29 : Int) , (-2147483648) ≤ v28 ∧ v28 ≤ 2147483647 → 0 ≤ v29 ∧ v29 ≤ 1 → zG n (0, 0) d 11 (27, [.inr (.inr (some 92)), .inl a1, .inl v1, .inl v2], [.inl v29, .inl v28]) M25 (fun v M' => qWf qCI [92, 93, 94] M M' ∧ qRi (fun x => 0 ≤ x ∧ x ≤ 1) v) := by
          intro v28 v29 hv28 hv29
          obtain ⟨x30, hx30⟩ : ∃ x : Int, x = w32 (v28 + v29) := ⟨_, rfl⟩
          have hx30r : x30 = (v28 + v29 + 2147483648) % 4294967296 - 2147483648 := hx30
          obtain ⟨x31, hx31⟩ : ∃ x : Int, x = w32 (v2 + 1) := ⟨_, rfl⟩
          have hx31e : x31 = v2 + 1 := by rw [hx31]; exact w32_id (by omega)
          refine zG_w (c' := (4, [.inr (.inr (some 92)), .inl a1, .inl x30, .inl x31], [])) 4 hd0 hz (by subst hx31; subst hx30; rfl) ?_
          exact ih4 x30 x31 M25 (by omega) (by omega) (by omega) hCM25 hWM25
        refine zG_wf_le (pc := 19) (n' := 22) (t := 26) (L := [.inr (.inr (some 92)), .inl a1, .inl v1, .inl v2]) (st := [.inl v1]) (x := (M25 92 5)) 0 hd0 hz (by rfl) (fun hb32 => ?_) (fun hb32 => ?_)
        · refine zG_w (c' := (27, [.inr (.inr (some 92)), .inl a1, .inl v1, .inl v2], [.inl 0, .inl v1])) 1 hd0 hz (by rfl) ?_
          exact j27 v1 0 (by first | decide | omega) (by omega)
        · refine zG_w (c' := (27, [.inr (.inr (some 92)), .inl a1, .inl v1, .inl v2], [.inl 1, .inl v1])) 2 hd0 hz (by rfl) ?_
          exact j27 v1 1 (by first | decide | omega) (by omega)
  exact j4 ((5 - 0 : Int).toNat + 1) 0 0 M (by omega) (by omega) (by omega) hC hW
theorem qm_8_92 {n d : Nat} {M : zM} (hd : 1 ≤ d) (hC : qCI M)  : qOkP n d 8 [.inr (.inr (some 92))] 1 M (qRi (fun x => (-2147483648) ≤ x ∧ x ≤ 2147483647)) := by
  have hz := zp_8
  have hd0 : 0 < d := by omega
  show zG n (0, 0) d 8 (0, [.inr (.inr (some 92))], []) M _
  have r1 := hC.rng 92 5 (by decide) (by decide)
  exact zG_wr (r := some (.inl (M 92 5))) 2 hd0 hz (by rfl) ⟨rfl, _, rfl, by omega⟩
theorem qm_9_92 {n d : Nat} {M : zM} (hd : 1 ≤ d) (hC : qCI M)  : qOkP n d 9 [.inr (.inr (some 92))] 1 M (qRi (fun x => (-2147483648) ≤ x ∧ x ≤ 2147483647)) := by
  have hz := zp_9
  have hd0 : 0 < d := by omega
  show zG n (0, 0) d 9 (0, [.inr (.inr (some 92))], []) M _
  have r1 := hC.rng 92 6 (by decide) (by decide)
  exact zG_wr (r := some (.inl (M 92 6))) 2 hd0 hz (by rfl) ⟨rfl, _, rfl, by omega⟩
theorem qm_10_92 {n d : Nat} {M : zM} (hd : 1 ≤ d) (hC : qCI M)  : qOkP n d 10 [.inr (.inr (some 92))] 1 M (qRi (fun x => (-2147483648) ≤ x ∧ x ≤ 2147483647)) := by
  have hz := zp_10
  have hd0 : 0 < d := by omega
  show zG n (0, 0) d 10 (0, [.inr (.inr (some 92))], []) M _
  have r1 := hC.rng 92 4 (by decide) (by decide)
  refine zG_w (c' := (4, [.inr (.inr (some 92))], [.inl (M 92 4)])) 2 hd0 hz (by rfl) ?_
  have j20 : ∀ (v2 : Int) , (-2147483648) ≤ v2 ∧ v2 ≤ 2147483647 → zG n (0, 0) d 10 (20, [.inr (.inr (some 92))], [.inl v2]) M (fun v M' => M' = M ∧ qRi (fun x => (-2147483648) ≤ x ∧ x ≤ 2147483647) v) := by
    intro v2 hv2
    exact zG_wr (r := some (.inl v2)) 0 hd0 hz (by rfl) ⟨rfl, _, rfl, by omega⟩
  refine zG_wf_ne (pc := 4) (n' := 7) (t := 11) (L := [.inr (.inr (some 92))]) (st := []) (x := (M 92 4)) 0 hd0 hz (by rfl) (fun hb3 => ?_) (fun hb3 => ?_)
  · have r4 := hC.rng 92 7 (by decide) (by decide)
    refine zG_w (c' := (19, [.inr (.inr (some 92))], [.inl (M 92 4), .inl (M 92 7)])) 4 hd0 hz (by rfl) ?_
    refine zG_idiv hd0 hz rfl (by omega) ?_
    have hx5 := w32_in ((M 92 7).tdiv (M 92 4))
    generalize w32 ((M 92 7).tdiv (M 92 4)) = x5 at hx5 ⊢
    show zG n (0, 0) d 10 (20, [.inr (.inr (some 92))], [.inl x5]) M _
    exact j20 x5 (by omega)
  · refine zG_w (c' := (20, [.inr (.inr (some 92))], [.inl 0])) 2 hd0 hz (by rfl) ?_
    exact j20 0 (by first | decide | omega)
theorem qm_160_8 {n d : Nat} {M : zM} (hd : 7 ≤ d) (hC : qCI M) (a1 : Int) (ha1 : (-2147483648) ≤ a1 ∧ a1 ≤ 2147483647) (a2 : Int) (ha2 : (-2147483648) ≤ a2 ∧ a2 ≤ 2147483647) (a3 : Int) (ha3 : (-2147483648) ≤ a3 ∧ a3 ≤ 2147483647) : qOkM n d 160 [.inr (.inr (some 8)), .inl a1, .inl a2, .inl a3] 4 qCI [62, 64, 65, 66, 92, 93, 94] M (qRi (fun x => (-2147483648) ≤ x ∧ x ≤ 2147483647)) := by
  have hz := zp_160
  have hd0 : 0 < d := by omega
  have hW : qFr [62, 64, 65, 66, 92, 93, 94] M M := qFr.rfl
  show zG n (0, 0) d 160 (0, [.inr (.inr (some 8)), .inl a1, .inl a2, .inl a3], []) M _
  refine zG_wp (pc := 4) (L := [.inr (.inr (some 8)), .inl a1, .inl a2, .inl a3]) (st := []) 1 hd0 hz zp_172 (qm_172 (by first | exact zdk hd rfl | omega) hC  a1 (by first | with_reducible exact ha1 | omega)) (by rfl) (fun x2 hx2 => ?_)
  have j23 : zG n (0, 0) d 160 (23, [.inr (.inr (some 8)), .inl a1, .inl a2, .inl a3], []) M (fun v M' => qWf qCI [62, 64, 65, 66, 92, 93, 94] M M' ∧ qRi (fun x => (-2147483648) ≤ x ∧ x ≤ 2147483647) v) := by
    exact zG_wr (r := some (.inl (-1000))) 1 hd0 hz (by rfl) ⟨⟨hC, hW⟩, _, rfl, by omega⟩
  refine zG_wf_eq (pc := 4) (n' := 7) (t := 23) (L := [.inr (.inr (some 8)), .inl a1, .inl a2, .inl a3]) (st := []) (x := x2) 0 hd0 hz (by rfl) (fun hb3 => ?_) (fun hb3 => ?_)
  · exact j23
  · refine zG_wp (pc := 11) (L := [.inr (.inr (some 8)), .inl a1, .inl a2, .inl a3]) (st := []) 1 hd0 hz zp_170 (qm_170 (by first | exact zdk hd rfl | omega) hC  a2 (by first | with_reducible exact ha2 | omega)) (by rfl) (fun x5 hx5 => ?_)
    refine zG_wf_eq (pc := 11) (n' := 14) (t := 23) (L := [.inr (.inr (some 8)), .inl a1, .inl a2, .inl a3]) (st := []) (x := x5) 0 hd0 hz (by rfl) (fun hb6 => ?_) (fun hb6 => ?_)
    · exact j23
    · refine zG_wp (pc := 20) (L := [.inr (.inr (some 8)), .inl a1, .inl a2, .inl a3]) (st := []) 3 hd0 hz zp_169 (qm_169 (by first | exact zdk hd rfl | omega) hC  a3 (by first | with_reducible exact ha3 | omega) 0 (by first | decide | omega) 3 (by first | decide | omega)) (by rfl) (fun x8 hx8 => ?_)
      refine zG_wf_ne (pc := 20) (n' := 23) (t := 27) (L := [.inr (.inr (some 8)), .inl a1, .inl a2, .inl a3]) (st := []) (x := x8) 0 hd0 hz (by rfl) (fun hb9 => ?_) (fun hb9 => ?_)
      · refine zG_wv (pc := 36) (L := [.inr (.inr (some 8)), .inl a1, .inl a2, .inl a3]) (st := []) 4 hd0 hz zp_41 (qm_41_60 (by first | exact zdk hd rfl | omega) hC  a2 (by first | with_reducible exact ha2 | omega) (-1) (by first | decide | omega)) (by rfl) (fun M10 hr => ?_)
        obtain ⟨hCM10, hFM10⟩ := hr
        have hWM10 : qFr [62, 64, 65, 66, 92, 93, 94] M M10 := hW.tr hFM10 (by decide)
        refine zG_wi_ne (pc := 38) (n' := 41) (t := 58) (L := [.inr (.inr (some 8)), .inl a1, .inl a2, .inl a3]) (st := []) (x := a3) (y := 3) 2 hd0 hz (by rfl) (fun hb12 => ?_) (fun hb12 => ?_)
        · refine zG_wv (pc := 66) (L := [.inr (.inr (some 8)), .inl a1, .inl a2, .inl a3]) (st := []) 3 hd0 hz zp_6 (qm_6_92 (by first | exact zdk hd rfl | omega) hCM10  a1 (by first | with_reducible exact ha1 | omega)) (by rfl) (fun M13 hr => ?_)
          obtain ⟨hCM13, hFM13⟩ := hr
          have hWM13 : qFr [62, 64, 65, 66, 92, 93, 94] M M13 := hWM10.tr hFM13 (by decide)
          refine zG_wf_ne (pc := 67) (n' := 70) (t := 78) (L := [.inr (.inr (some 8)), .inl a1, .inl a2, .inl a3]) (st := []) (x := a3) 1 hd0 hz (by rfl) (fun hb15 => ?_) (fun hb15 => ?_)
          · refine zG_w (c' := (80, [.inr (.inr (some 8)), .inl a1, .inl a2, .inl a3], [.inl 1, .inl a3])) 2 hd0 hz (by rfl) ?_
            have j100 : ∀ (v16 : Int) , (-2147483648) ≤ v16 ∧ v16 ≤ 2147483647 → zG n (0, 0) d 160 (100, [.inr (.inr (some 8)), .inl a1, .inl a2, .inl a3], [.inl v16]) M13 (fun v M' => qWf qCI [62, 64, 65, 66, 92, 93, 94] M M' ∧ qRi (fun x => (-2147483648) ≤ x ∧ x ≤ 2147483647) v) := by
              intro v16 hv16
              exact zG_wr (r := some (.inl v16)) 0 hd0 hz (by rfl) ⟨⟨hCM13, hWM13⟩, _, rfl, by omega⟩
            refine zG_wi_ne (pc := 80) (n' := 83) (t := 93) (L := [.inr (.inr (some 8)), .inl a1, .inl a2, .inl a3]) (st := []) (x := a3) (y := 1) 0 hd0 hz (by rfl) (fun hb17 => ?_) (fun hb17 => ?_)
            · refine zG_wp (pc := 100) (L := [.inr (.inr (some 8)), .inl a1, .inl a2, .inl a3]) (st := []) 2 hd0 hz zp_10 (qm_10_92 (by first | exact zdk hd rfl | omega) hCM13  ) (by rfl) (fun x19 hx19 => ?_)
              exact j100 x19 (by omega)
            · refine zG_wp (pc := 90) (L := [.inr (.inr (some 8)), .inl a1, .inl a2, .inl a3]) (st := []) 2 hd0 hz zp_9 (qm_9_92 (by first | exact zdk hd rfl | omega) hCM13  ) (by rfl) (fun x21 hx21 => ?_)
              refine zG_w (c' := (100, [.inr (.inr (some 8)), .inl a1, .inl a2, .inl a3], [.inl x21])) 1 hd0 hz (by rfl) ?_
              exact j100 x21 (by omega)
          · refine zG_wp (pc := 77) (L := [.inr (.inr (some 8)), .inl a1, .inl a2, .inl a3]) (st := []) 2 hd0 hz zp_8 (qm_8_92 (by first | exact zdk hd rfl | omega) hCM13  ) (by rfl) (fun x23 hx23 => ?_)
            exact zG_wr (r := some (.inl x23)) 0 hd0 hz (by rfl) ⟨⟨hCM13, hWM13⟩, _, rfl, by omega⟩
        · refine zG_wn (pc := 49) (L := [.inr (.inr (some 8)), .inl a1, .inl a2, .inl a3]) (st := []) 3 hd0 hz zp_11 (qm_11_92 (by first | exact zdk hd rfl | omega) hCM10  a1 (by first | with_reducible exact ha1 | omega)) (by rfl) (fun x25 M24 hr hx25 => ?_)
          obtain ⟨hCM24, hFM24⟩ := hr
          have hWM24 : qFr [62, 64, 65, 66, 92, 93, 94] M M24 := hWM10.tr hFM24 (by decide)
          have j57 : ∀ (v26 : Int) , 0 ≤ v26 ∧ v26 ≤ 1 → zG n (0, 0) d 160 (57, [.inr (.inr (some 8)), .inl a1, .inl a2, .inl a3], [.inl v26]) M24 (fun v M' => qWf qCI [62, 64, 65, 66, 92, 93, 94] M M' ∧ qRi (fun x => (-2147483648) ≤ x ∧ x ≤ 2147483647) v) := by
            intro v26 hv26
            exact zG_wr (r := some (.inl v26)) 0 hd0 hz (by rfl) ⟨⟨hCM24, hWM24⟩, _, rfl, by omega⟩
          refine zG_wf_eq (pc := 49) (n' := 52) (t := 56) (L := [.inr (.inr (some 8)), .inl a1, .inl a2, .inl a3]) (st := []) (x := x25) 0 hd0 hz (by rfl) (fun hb27 => ?_) (fun hb27 => ?_)
          · refine zG_w (c' := (57, [.inr (.inr (some 8)), .inl a1, .inl a2, .inl a3], [.inl 0])) 1 hd0 hz (by rfl) ?_
            exact j57 0 (by first | decide | omega)
          · refine zG_w (c' := (57, [.inr (.inr (some 8)), .inl a1, .inl a2, .inl a3], [.inl 1])) 2 hd0 hz (by rfl) ?_
            exact j57 1 (by first | decide | omega)
      · exact j23
theorem qm_161_8 {n d : Nat} {M : zM} (hd : 2 ≤ d) (hC : qCI M) (a1 : Int) (ha1 : (-2147483648) ≤ a1 ∧ a1 ≤ 2147483647) : qOkM n d 161 [.inr (.inr (some 8)), .inl a1] 3 qCI [9] M (qRi (fun x => (-2147483648) ≤ x ∧ x ≤ 2147483647)) := by
  have hz := zp_161
  have hd0 : 0 < d := by omega
  have hW : qFr [9] M M := qFr.rfl
  show zG n (0, 0) d 161 (0, [.inr (.inr (some 8)), .inl a1, zN], []) M _
  refine zG_wp (pc := 8) (L := [.inr (.inr (some 8)), .inl a1, zN]) (st := []) 3 hd0 hz zp_169 (qm_169 (by first | exact zdk hd rfl | omega) hC  a1 (by first | with_reducible exact ha1 | omega) 1 (by first | decide | omega) 10000 (by first | decide | omega)) (by rfl) (fun x2 hx2 => ?_)
  refine zG_wf_ne (pc := 8) (n' := 11) (t := 14) (L := [.inr (.inr (some 8)), .inl a1, zN]) (st := []) (x := x2) 0 hd0 hz (by rfl) (fun hb3 => ?_) (fun hb3 => ?_)
  · have r4 := hC.rng 9 9 (by decide) (by decide)
    refine zG_w (c' := (27, [.inr (.inr (some 8)), .inl a1, .inl (M 9 9)], [.inl a1, .inr (.inr (some 9))])) 7 hd0 hz (by rfl) ?_
    refine zG_putf (.inl rfl) hd0 hz rfl (by decide) rfl rfl ?_
    obtain ⟨M5, hM5⟩ : ∃ X : zM, X = zput M 9 9 a1 := ⟨_, rfl⟩
    rw [← hM5]
    have hCM5 : qCI M5 := by rw [hM5]; exact hC.put (r := 9) (k := 9) rfl (.inl (by omega))
    have hWM5 : qFr [9] M M5 := by rw [hM5]; exact hW.put (by decide)
    have e6 : M5 9 9 = a1 := by rw [hM5]; exact qput_eq
    show zG n (0, 0) d 161 (30, [.inr (.inr (some 8)), .inl a1, .inl (M 9 9)], []) M5 _
    exact zG_wr (r := some (.inl (M 9 9))) 1 hd0 hz (by rfl) ⟨⟨hCM5, hWM5⟩, _, rfl, by omega⟩
  · exact zG_wr (r := some (.inl (-2))) 1 hd0 hz (by rfl) ⟨⟨hC, hW⟩, _, rfl, by omega⟩
theorem qm_162_8 {n d : Nat} {M : zM} (hd : 2 ≤ d) (hC : qCI M) (a1 : Int) (ha1 : (-2147483648) ≤ a1 ∧ a1 ≤ 2147483647) (a2 : Int) (ha2 : (-2147483648) ≤ a2 ∧ a2 ≤ 2147483647) : qOkM n d 162 [.inr (.inr (some 8)), .inl a1, .inl a2] 4 qCI [24, 25] M (qRi (fun x => (-4) ≤ x ∧ x ≤ 12)) := by
  have hz := zp_162
  have hd0 : 0 < d := by omega
  have hW : qFr [24, 25] M M := qFr.rfl
  show zG n (0, 0) d 162 (0, [.inr (.inr (some 8)), .inl a1, .inl a2, zN], []) M _
  refine zG_wp (pc := 8) (L := [.inr (.inr (some 8)), .inl a1, .inl a2, zN]) (st := []) 3 hd0 hz zp_169 (qm_169 (by first | exact zdk hd rfl | omega) hC  a1 (by first | with_reducible exact ha1 | omega) 0 (by first | decide | omega) 1000 (by first | decide | omega)) (by rfl) (fun x2 hx2 => ?_)
  have j22 : zG n (0, 0) d 162 (22, [.inr (.inr (some 8)), .inl a1, .inl a2, zN], []) M (fun v M' => qWf qCI [24, 25] M M' ∧ qRi (fun x => (-4) ≤ x ∧ x ≤ 12) v) := by
    exact zG_wr (r := some (.inl (-2))) 1 hd0 hz (by rfl) ⟨⟨hC, hW⟩, _, rfl, by omega⟩
  refine zG_wf_eq (pc := 8) (n' := 11) (t := 22) (L := [.inr (.inr (some 8)), .inl a1, .inl a2, zN]) (st := []) (x := x2) 0 hd0 hz (by rfl) (fun hb3 => ?_) (fun hb3 => ?_)
  · exact j22
  · refine zG_wp (pc := 19) (L := [.inr (.inr (some 8)), .inl a1, .inl a2, zN]) (st := []) 3 hd0 hz zp_169 (qm_169 (by first | exact zdk hd rfl | omega) hC  a2 (by first | with_reducible exact ha2 | omega) 0 (by first | decide | omega) 1000 (by first | decide | omega)) (by rfl) (fun x5 hx5 => ?_)
    refine zG_wf_ne (pc := 19) (n' := 22) (t := 25) (L := [.inr (.inr (some 8)), .inl a1, .inl a2, zN]) (st := []) (x := x5) 0 hd0 hz (by rfl) (fun hb6 => ?_) (fun hb6 => ?_)
    · refine zG_wn (pc := 35) (L := [.inr (.inr (some 8)), .inl a1, .inl a2, zN]) (st := []) 3 hd0 hz zp_103 (qw_open (by first | exact zdk hd rfl | omega) hC (⟨by decide, rfl, rfl⟩ : qT n 24 12 2) ) (by rfl) (fun x8 M7 hr hx8 => ?_)
      obtain ⟨hCM7, hFM7⟩ := hr
      have hWM7 : qFr [24, 25] M M7 := hW.tr hFM7 (by decide)
      refine zG_wi_ne (pc := 39) (n' := 42) (t := 45) (L := [.inr (.inr (some 8)), .inl a1, .inl a2, .inl x8]) (st := []) (x := x8) (y := (-4)) 3 hd0 hz (by rfl) (fun hb9 => ?_) (fun hb9 => ?_)
      · refine zG_wv (pc := 58) (L := [.inr (.inr (some 8)), .inl a1, .inl a2, .inl x8]) (st := []) 6 hd0 hz zp_107 (qw_set (by first | exact zdk hd rfl | omega) hCM7 (⟨by decide, rfl, rfl⟩ : qT n 24 12 2) x8 (by omega) 0 (by first | decide | omega) a1 (by first | with_reducible exact ha1 | omega)) (by rfl) (fun M10 hr => ?_)
        obtain ⟨hCM10, hFM10⟩ := hr
        have hWM10 : qFr [24, 25] M M10 := hWM7.tr hFM10 (by decide)
        refine zG_wv (pc := 71) (L := [.inr (.inr (some 8)), .inl a1, .inl a2, .inl x8]) (st := []) 6 hd0 hz zp_107 (qw_set (by first | exact zdk hd rfl | omega) hCM10 (⟨by decide, rfl, rfl⟩ : qT n 24 12 2) x8 (by omega) 1 (by first | decide | omega) a2 (by first | with_reducible exact ha2 | omega)) (by rfl) (fun M12 hr => ?_)
        obtain ⟨hCM12, hFM12⟩ := hr
        have hWM12 : qFr [24, 25] M M12 := hWM10.tr hFM12 (by decide)
        obtain ⟨x14, hx14⟩ : ∃ x : Int, x = w32 (x8 + 1) := ⟨_, rfl⟩
        have hx14e : x14 = x8 + 1 := by rw [hx14]; exact w32_id (by omega)
        exact zG_wr (r := some (.inl x14)) 3 hd0 hz (by subst hx14; rfl) ⟨⟨hCM12, hWM12⟩, _, rfl, by omega⟩
      · exact zG_wr (r := some (.inl (-4))) 1 hd0 hz (by rfl) ⟨⟨hCM7, hWM7⟩, _, rfl, by omega⟩
    · exact j22
theorem qm_163_8 {n d : Nat} {M : zM} (hd : 2 ≤ d) (hC : qCI M)  : qOkM n d 163 [.inr (.inr (some 8))] 2 qCI [24] M (qRi (fun x => 0 ≤ x ∧ x ≤ 12)) := by
  have hz := zp_163
  have hd0 : 0 < d := by omega
  have hW : qFr [24] M M := qFr.rfl
  show zG n (0, 0) d 163 (0, [.inr (.inr (some 8)), zN], []) M _
  refine zG_wp (pc := 10) (L := [.inr (.inr (some 8)), zN]) (st := []) 3 hd0 hz zp_101 (qw_size (by first | exact zdk hd rfl | omega) hC (⟨by decide, rfl, rfl⟩ : qT n 24 12 2) ) (by rfl) (fun x2 hx2 => ?_)
  refine zG_wv (pc := 21) (L := [.inr (.inr (some 8)), .inl x2]) (st := []) 4 hd0 hz zp_104 (qw_drop (by first | exact zdk hd rfl | omega) hC (⟨by decide, rfl, rfl⟩ : qT n 24 12 2) ) (by rfl) (fun M3 hr => ?_)
  obtain ⟨hCM3, hFM3⟩ := hr
  have hWM3 : qFr [24] M M3 := hW.tr hFM3 (by decide)
  exact zG_wr (r := some (.inl x2)) 1 hd0 hz (by rfl) ⟨⟨hCM3, hWM3⟩, _, rfl, by omega⟩
theorem qm_4_95_24 {n d : Nat} {M : zM} (hd : 2 ≤ d) (hC : qCI M)  : qOkM n d 4 [.inr (.inr (some 95)), .inr (.inr (some 24))] 7 qCI [96] M (qRi (fun x => (-2147483648) ≤ x ∧ x ≤ 2147483647)) := by
  have hz := zp_4
  have hd0 : 0 < d := by omega
  have hW : qFr [96] M M := qFr.rfl
  show zG n (0, 0) d 4 (0, [.inr (.inr (some 95)), .inr (.inr (some 24)), zN, zN, zN, zN, zN], []) M _
  refine zG_w (c' := (7, [.inr (.inr (some 95)), .inr (.inr (some 24)), .inl 0, .inl 0, .inl 0, zN, zN], [])) 6 hd0 hz (by rfl) ?_
  have j7 : ∀ (N : Nat) (v1 v2 v3 : Int) (M4 : zM) , (12 - v3 : Int).toNat < N → (-2147483648) ≤ v1 ∧ v1 ≤ 2147483647 → (-2147483648) ≤ v2 ∧ v2 ≤ 2147483647 → 0 ≤ v3 ∧ v3 ≤ 12 → qCI M4 → qFr [96] M M4 → zG n (0, 0) d 4 (7, [.inr (.inr (some 95)), .inr (.inr (some 24)), .inl v1, .inl v2, .inl v3, zN, zN], []) M4 (fun v M' => qWf qCI [96] M M' ∧ qRi (fun x => (-2147483648) ≤ x ∧ x ≤ 2147483647) v) := by
    intro N
    induction N with
    | zero => intro v1 v2 v3 M4 hN hv1 hv2 hv3 hCM4 hWM4; exact absurd hN (Nat.not_lt_zero _)
    | succ N ih7 =>
      intro v1 v2 v3 M4 hN hv1 hv2 hv3 hCM4 hWM4
      replace hN : 12 - v3 < (N : Int) + 1 := by omega
      refine zG_wp (pc := 13) (L := [.inr (.inr (some 95)), .inr (.inr (some 24)), .inl v1, .inl v2, .inl v3, zN, zN]) (st := [.inl v3]) 2 hd0 hz zp_101 (qw_size (by first | exact zdk hd rfl | omega) hCM4 (⟨by decide, rfl, rfl⟩ : qT n 24 12 2) ) (by rfl) (fun x6 hx6 => ?_)
      have j74 : zG n (0, 0) d 4 (74, [.inr (.inr (some 95)), .inr (.inr (some 24)), .inl v1, .inl v2, .inl v3, zN, zN], []) M4 (fun v M' => qWf qCI [96] M M' ∧ qRi (fun x => (-2147483648) ≤ x ∧ x ≤ 2147483647) v) := by
        exact zG_wr (r := some (.inl v1)) 1 hd0 hz (by rfl) ⟨⟨hCM4, hWM4⟩, _, rfl, by omega⟩
      refine zG_wi_ge (pc := 13) (n' := 16) (t := 74) (L := [.inr (.inr (some 95)), .inr (.inr (some 24)), .inl v1, .inl v2, .inl v3, zN, zN]) (st := []) (x := v3) (y := x6) 0 hd0 hz (by rfl) (fun hb7 => ?_) (fun hb7 => ?_)
      · exact j74
      · refine zG_wi_ge (pc := 23) (n' := 26) (t := 74) (L := [.inr (.inr (some 95)), .inr (.inr (some 24)), .inl v1, .inl v2, .inl v3, zN, zN]) (st := []) (x := v3) (y := 12) 4 hd0 hz (by rfl) (fun hb8 => ?_) (fun hb8 => ?_)
        · exfalso; omega
        · refine zG_wp (pc := 33) (L := [.inr (.inr (some 95)), .inr (.inr (some 24)), .inl v1, .inl v2, .inl v3, zN, zN]) (st := []) 3 hd0 hz zp_106 (qw_get (by first | exact zdk hd rfl | omega) hCM4 (⟨by decide, rfl, rfl⟩ : qT n 24 12 2) v3 (by first | with_reducible exact hv3 | omega) 0 (by first | decide | omega)) (by rfl) (fun x10 hx10 => ?_)
          refine zG_wp (pc := 42) (L := [.inr (.inr (some 95)), .inr (.inr (some 24)), .inl v1, .inl v2, .inl v3, .inl x10, zN]) (st := []) 4 hd0 hz zp_106 (qw_get (by first | exact zdk hd rfl | omega) hCM4 (⟨by decide, rfl, rfl⟩ : qT n 24 12 2) v3 (by first | with_reducible exact hv3 | omega) 1 (by first | decide | omega)) (by rfl) (fun x12 hx12 => ?_)
          obtain ⟨x13, hx13⟩ : ∃ x : Int, x = w32 (x12 - x10) := ⟨_, rfl⟩
          have hx13r : x13 = (x12 - x10 + 2147483648) % 4294967296 - 2147483648 := hx13
          obtain ⟨x14, hx14⟩ : ∃ x : Int, x = w32 (v1 + x10) := ⟨_, rfl⟩
          have hx14r : x14 = (v1 + x10 + 2147483648) % 4294967296 - 2147483648 := hx14
          obtain ⟨x15, hx15⟩ : ∃ x : Int, x = w32 (x13 - v2) := ⟨_, rfl⟩
          have hx15r : x15 = (x13 - v2 + 2147483648) % 4294967296 - 2147483648 := hx15
          refine zG_w (c' := (62, [.inr (.inr (some 95)), .inr (.inr (some 24)), .inl x14, .inl v2, .inl v3, .inl x10, .inl x13], [.inl x15, .inl v3, .inr (.inr (some 96))])) 13 hd0 hz (by subst hx15; subst hx14; subst hx13; rfl) ?_
          refine zG_iast hd0 hz rfl rfl (by omega) ?_
          obtain ⟨M16, hM16⟩ : ∃ X : zM, X = zput M4 96 (v3 : Int).toNat x15 := ⟨_, rfl⟩
          rw [← hM16]
          have hCM16 : qCI M16 := by rw [hM16]; exact hCM4.put (r := 96) rfl (.inl (by omega))
          have hWM16 : qFr [96] M M16 := by rw [hM16]; exact hWM4.put (by decide)
          show zG n (0, 0) d 4 (63, [.inr (.inr (some 95)), .inr (.inr (some 24)), .inl x14, .inl v2, .inl v3, .inl x10, .inl x13], []) M16 _
          obtain ⟨x17, hx17⟩ : ∃ x : Int, x = w32 (v2 + x13) := ⟨_, rfl⟩
          have hx17r : x17 = (v2 + x13 + 2147483648) % 4294967296 - 2147483648 := hx17
          obtain ⟨x18, hx18⟩ : ∃ x : Int, x = w32 (v3 + 1) := ⟨_, rfl⟩
          have hx18e : x18 = v3 + 1 := by rw [hx18]; exact w32_id (by omega)
          refine zG_w (c' := (7, [.inr (.inr (some 95)), .inr (.inr (some 24)), .inl x14, .inl x17, .inl x18, .inl x10, .inl x13], [])) 6 hd0 hz (by subst hx18; subst hx17; rfl) ?_
          exact zG_weak (ih7 x14 x17 x18 M16 (by omega) (by omega) (by omega) (by omega) hCM16 hWM16) ⟨.inr rfl, .inr rfl, .inr rfl, .inr rfl, .inr rfl, .inl rfl, .inl rfl, trivial⟩
  exact j7 ((12 - 0 : Int).toNat + 1) 0 0 0 M (by omega) (by omega) (by omega) (by omega) hC hW
theorem qm_297 {n d : Nat} {M : zM} (hd : 1 ≤ d) (hC : qCI M) (a0 : Int) (ha0 : (-2147483648) ≤ a0 ∧ a0 ≤ 2147483647) : qOkP n d 297 [.inl a0] 2 M (qRi (fun x => 0 ≤ x ∧ x ≤ 33)) := by
  have hz := zp_297
  have hd0 : 0 < d := by omega
  show zG n (0, 0) d 297 (0, [.inl a0, zN], []) M _
  obtain ⟨x1, hx1⟩ : ∃ x : Int, x = zbxor a0 (-1) := ⟨_, rfl⟩
  have hx1r : qin x1 := by rw [hx1]; exact qb32 _
  obtain ⟨x2, hx2⟩ : ∃ x : Int, x = w32 (a0 - 1) := ⟨_, rfl⟩
  have hx2r : x2 = (a0 - 1 + 2147483648) % 4294967296 - 2147483648 := hx2
  obtain ⟨x3, hx3⟩ : ∃ x : Int, x = zband x1 x2 := ⟨_, rfl⟩
  have hx3r : qin x3 := by rw [hx3]; exact qb32 _
  refine zG_wf_gt (pc := 9) (n' := 12) (t := 17) (L := [.inl x3, zN]) (st := []) (x := x3) 9 hd0 hz (by subst hx3; subst hx2; subst hx1; rfl) (fun hb4 => ?_) (fun hb4 => ?_)
  · refine zG_w (c' := (23, [.inl x3, .inl 1], [.inl 65536, .inl x3])) 4 hd0 hz (by rfl) ?_
    have j34 : ∀ (v5 v6 : Int) , 1 ≤ v5 ∧ v5 ≤ 65536 → 1 ≤ v6 ∧ v6 ≤ 17 → zG n (0, 0) d 297 (34, [.inl v5, .inl v6], []) M (fun v M' => M' = M ∧ qRi (fun x => 0 ≤ x ∧ x ≤ 33) v) := by
      intro v5 v6 hv5 hv6
      refine zG_w (c' := (38, [.inl v5, .inl v6], [.inl 256, .inl v5])) 2 hd0 hz (by rfl) ?_
      have j49 : ∀ (v7 v8 : Int) , 1 ≤ v7 ∧ v7 ≤ 256 → 1 ≤ v8 ∧ v8 ≤ 25 → zG n (0, 0) d 297 (49, [.inl v7, .inl v8], []) M (fun v M' => M' = M ∧ qRi (fun x => 0 ≤ x ∧ x ≤ 33) v) := by
        intro v7 v8 hv7 hv8
        refine zG_w (c' := (52, [.inl v7, .inl v8], [.inl 16, .inl v7])) 2 hd0 hz (by rfl) ?_
        have j62 : ∀ (v9 v10 : Int) , 1 ≤ v9 ∧ v9 ≤ 16 → 1 ≤ v10 ∧ v10 ≤ 29 → zG n (0, 0) d 297 (62, [.inl v9, .inl v10], []) M (fun v M' => M' = M ∧ qRi (fun x => 0 ≤ x ∧ x ≤ 33) v) := by
          intro v9 v10 hv9 hv10
          refine zG_w (c' := (64, [.inl v9, .inl v10], [.inl 4, .inl v9])) 2 hd0 hz (by rfl) ?_
          have j74 : ∀ (v11 v12 : Int) , 1 ≤ v11 ∧ v11 ≤ 4 → 1 ≤ v12 ∧ v12 ≤ 31 → zG n (0, 0) d 297 (74, [.inl v11, .inl v12], []) M (fun v M' => M' = M ∧ qRi (fun x => 0 ≤ x ∧ x ≤ 33) v) := by
            intro v11 v12 hv11 hv12
            obtain ⟨x13, hx13⟩ : ∃ x : Int, x = zbushr v11 1 := ⟨_, rfl⟩
            have hx13r := qushr v11 1 2 (by first | decide | omega) (by omega) (by decide); rw [← hx13] at hx13r
            obtain ⟨x14, hx14⟩ : ∃ x : Int, x = w32 (v12 + x13) := ⟨_, rfl⟩
            have hx14e : x14 = v12 + x13 := by rw [hx14]; exact w32_id (by omega)
            exact zG_wr (r := some (.inl x14)) 5 hd0 hz (by subst hx14; subst hx13; rfl) ⟨rfl, _, rfl, by omega⟩
          refine zG_wi_le (pc := 64) (n' := 67) (t := 74) (L := [.inl v9, .inl v10]) (st := []) (x := v9) (y := 4) 0 hd0 hz (by rfl) (fun hb15 => ?_) (fun hb15 => ?_)
          · exact j74 v9 v10 (by first | with_reducible exact hv10 | omega) (by omega)
          · obtain ⟨x16, hx16⟩ : ∃ x : Int, x = w32 (v10 + 2) := ⟨_, rfl⟩
            have hx16e : x16 = v10 + 2 := by rw [hx16]; exact w32_id (by omega)
            obtain ⟨x17, hx17⟩ : ∃ x : Int, x = zbushr v9 2 := ⟨_, rfl⟩
            have hx17r := qushr v9 2 4 (by first | decide | omega) (by omega) (by decide); rw [← hx17] at hx17r
            refine zG_w (c' := (74, [.inl x17, .inl x16], [])) 5 hd0 hz (by subst hx17; subst hx16; rfl) ?_
            exact j74 x17 x16 (by omega) (by omega)
        refine zG_wi_le (pc := 52) (n' := 55) (t := 62) (L := [.inl v7, .inl v8]) (st := []) (x := v7) (y := 16) 0 hd0 hz (by rfl) (fun hb18 => ?_) (fun hb18 => ?_)
        · exact j62 v7 v8 (by first | with_reducible exact hv8 | omega) (by omega)
        · obtain ⟨x19, hx19⟩ : ∃ x : Int, x = w32 (v8 + 4) := ⟨_, rfl⟩
          have hx19e : x19 = v8 + 4 := by rw [hx19]; exact w32_id (by omega)
          obtain ⟨x20, hx20⟩ : ∃ x : Int, x = zbushr v7 4 := ⟨_, rfl⟩
          have hx20r := qushr v7 4 16 (by first | decide | omega) (by omega) (by decide); rw [← hx20] at hx20r
          refine zG_w (c' := (62, [.inl x20, .inl x19], [])) 5 hd0 hz (by subst hx20; subst hx19; rfl) ?_
          exact j62 x20 x19 (by omega) (by omega)
      refine zG_wi_le (pc := 38) (n' := 41) (t := 49) (L := [.inl v5, .inl v6]) (st := []) (x := v5) (y := 256) 0 hd0 hz (by rfl) (fun hb21 => ?_) (fun hb21 => ?_)
      · exact j49 v5 v6 (by first | with_reducible exact hv6 | omega) (by omega)
      · obtain ⟨x22, hx22⟩ : ∃ x : Int, x = w32 (v6 + 8) := ⟨_, rfl⟩
        have hx22e : x22 = v6 + 8 := by rw [hx22]; exact w32_id (by omega)
        obtain ⟨x23, hx23⟩ : ∃ x : Int, x = zbushr v5 8 := ⟨_, rfl⟩
        have hx23r := qushr v5 8 256 (by first | decide | omega) (by omega) (by decide); rw [← hx23] at hx23r
        refine zG_w (c' := (49, [.inl x23, .inl x22], [])) 5 hd0 hz (by subst hx23; subst hx22; rfl) ?_
        exact j49 x23 x22 (by omega) (by omega)
    refine zG_wi_le (pc := 23) (n' := 26) (t := 34) (L := [.inl x3, .inl 1]) (st := []) (x := x3) (y := 65536) 0 hd0 hz (by rfl) (fun hb24 => ?_) (fun hb24 => ?_)
    · exact j34 x3 1 (by first | decide | omega) (by omega)
    · obtain ⟨x25, hx25⟩ : ∃ x : Int, x = zbushr x3 16 := ⟨_, rfl⟩
      have hx25r := qushr x3 16 65536 (by first | decide | omega) (by omega) (by decide); rw [← hx25] at hx25r
      refine zG_w (c' := (34, [.inl x25, .inl 17], [])) 5 hd0 hz (by subst hx25; rfl) ?_
      exact j34 x25 17 (by first | decide | omega) (by omega)
  · obtain ⟨x26, hx26⟩ : ∃ x : Int, x = zband x3 32 := ⟨_, rfl⟩
    have hx26r := qband_r x3 32 (by first | decide | omega) (by omega); rw [← hx26] at hx26r
    exact zG_wr (r := some (.inl x26)) 3 hd0 hz (by subst hx26; rfl) ⟨rfl, _, rfl, by omega⟩
theorem qm_3_95_24 {n d : Nat} {M : zM} (hd : 3 ≤ d) (hC : qCI M) (a2 : Int) (ha2 : (-2147483648) ≤ a2 ∧ a2 ≤ 2147483647) : qOkM n d 3 [.inr (.inr (some 95)), .inr (.inr (some 24)), .inl a2] 8 qCI [95, 96] M qRn := by
  have hz := zp_3
  have hd0 : 0 < d := by omega
  have hW : qFr [95, 96] M M := qFr.rfl
  show zG n (0, 0) d 3 (0, [.inr (.inr (some 95)), .inr (.inr (some 24)), .inl a2, zN, zN, zN, zN, zN], []) M _
  refine zG_wn (pc := 5) (L := [.inr (.inr (some 95)), .inr (.inr (some 24)), .inl a2, zN, zN, zN, zN, zN]) (st := []) 2 hd0 hz zp_4 (qm_4_95_24 (by first | exact zdk hd rfl | omega) hC  ) (by rfl) (fun x2 M1 hr hx2 => ?_)
  obtain ⟨hCM1, hFM1⟩ := hr
  have hWM1 : qFr [95, 96] M M1 := hW.tr hFM1 (by decide)
  refine zG_w (c' := (12, [.inr (.inr (some 95)), .inr (.inr (some 24)), .inl a2, .inl x2, .inl 13, zN, zN, zN], [.inl (-1), .inr (.inr (some 95))])) 5 hd0 hz (by rfl) ?_
  refine zG_putf (.inl rfl) hd0 hz rfl (by decide) rfl rfl ?_
  obtain ⟨M3, hM3⟩ : ∃ X : zM, X = zput M1 95 1 (-1) := ⟨_, rfl⟩
  rw [← hM3]
  have hCM3 : qCI M3 := by rw [hM3]; exact hCM1.put (r := 95) (k := 1) rfl (.inl (by omega))
  have hWM3 : qFr [95, 96] M M3 := by rw [hM3]; exact hWM1.put (by decide)
  have e4 : M3 95 1 = (-1) := by rw [hM3]; exact qput_eq
  show zG n (0, 0) d 3 (15, [.inr (.inr (some 95)), .inr (.inr (some 24)), .inl a2, .inl x2, .inl 13, zN, zN, zN], []) M3 _
  refine zG_w (c' := (17, [.inr (.inr (some 95)), .inr (.inr (some 24)), .inl a2, .inl x2, .inl 13, zN, zN, zN], [.inl 0, .inr (.inr (some 95))])) 2 hd0 hz (by rfl) ?_
  refine zG_putf (.inl rfl) hd0 hz rfl (by decide) rfl rfl ?_
  obtain ⟨M5, hM5⟩ : ∃ X : zM, X = zput M3 95 2 0 := ⟨_, rfl⟩
  rw [← hM5]
  have hCM5 : qCI M5 := by rw [hM5]; exact hCM3.put (r := 95) (k := 2) rfl (.inl (by omega))
  have hWM5 : qFr [95, 96] M M5 := by rw [hM5]; exact hWM3.put (by decide)
  have e6 : M5 95 1 = M3 95 1 := by rw [hM5]; exact qput_nk (by decide)
  have e7 : M5 95 2 = 0 := by rw [hM5]; exact qput_eq
  show zG n (0, 0) d 3 (20, [.inr (.inr (some 95)), .inr (.inr (some 24)), .inl a2, .inl x2, .inl 13, zN, zN, zN], []) M5 _
  refine zG_w (c' := (23, [.inr (.inr (some 95)), .inr (.inr (some 24)), .inl a2, .inl x2, .inl 13, .inl 0, zN, zN], [])) 2 hd0 hz (by rfl) ?_
  have j23 : ∀ (N : Nat) (v8 v9 v10 : Int) (M11 : zM) , (2147483647 - v10 : Int).toNat < N → (-2147483648) ≤ v8 ∧ v8 ≤ 2147483647 → 0 ≤ v9 ∧ v9 ≤ 13 → 0 ≤ v10 ∧ v10 ≤ 2147483647 → qCI M11 → qFr [95, 96] M M11 → zG n (0, 0) d 3 (23, [.inr (.inr (some 95)), .inr (.inr (some 24)), .inl a2, .inl v8, .inl v9, .inl v10, zN, zN], []) M11 (fun v M' => qWf qCI [95, 96] M M' ∧ qRn v) := by
    intro N
    induction N with
    | zero => intro v8 v9 v10 M11 hN hv8 hv9 hv10 hCM11 hWM11; exact absurd hN (Nat.not_lt_zero _)
    | succ N ih23 =>
      intro v8 v9 v10 M11 hN hv8 hv9 hv10 hCM11 hWM11
      replace hN : 2147483647 - v10 < (N : Int) + 1 := by omega
      refine zG_wp (pc := 30) (L := [.inr (.inr (some 95)), .inr (.inr (some 24)), .inl a2, .inl v8, .inl v9, .inl v10, zN, zN]) (st := [.inl 1, .inl v10]) 3 hd0 hz zp_101 (qw_size (by first | exact zdk hd rfl | omega) hCM11 (⟨by decide, rfl, rfl⟩ : qT n 24 12 2) ) (by rfl) (fun x13 hx13 => ?_)
      obtain ⟨x14, hx14⟩ : ∃ x : Int, x = (if 12 < x13 then 12 else x13) := ⟨_, rfl⟩
      have hx14r := qite hx14
      obtain ⟨x15, hx15⟩ : ∃ x : Int, x = zbshl 1 x14 := ⟨_, rfl⟩
      have hx15r : qin x15 := by rw [hx15]; exact qb32 _
      refine zG_wi_ge (pc := 36) (n' := 39) (t := 140) (L := [.inr (.inr (some 95)), .inr (.inr (some 24)), .inl a2, .inl v8, .inl v9, .inl v10, zN, zN]) (st := []) (x := v10) (y := x15) 3 hd0 hz (by subst hx15; subst hx14; rfl) (fun hb16 => ?_) (fun hb16 => ?_)
      · exact zG_ret hd0 hz rfl rfl ⟨⟨hCM11, hWM11⟩, rfl⟩
      · refine zG_wp (pc := 44) (L := [.inr (.inr (some 95)), .inr (.inr (some 24)), .inl a2, .inl v8, .inl v9, .inl v10, zN, zN]) (st := []) 1 hd0 hz zp_297 (qm_297 (by first | exact zdk hd rfl | omega) hCM11  v10 (by first | with_reducible exact hv10 | omega)) (by rfl) (fun x18 hx18 => ?_)
        refine zG_w (c' := (49, [.inr (.inr (some 95)), .inr (.inr (some 24)), .inl a2, .inl v8, .inl v9, .inl v10, .inl x18, zN], [.inl v10, .inl v8])) 3 hd0 hz (by rfl) ?_
        have j73 : ∀ (v19 v20 : Int) , (-2147483648) ≤ v19 ∧ v19 ≤ 2147483647 → (-2147483648) ≤ v20 ∧ v20 ≤ 2147483647 → zG n (0, 0) d 3 (73, [.inr (.inr (some 95)), .inr (.inr (some 24)), .inl a2, .inl v8, .inl v9, .inl v10, .inl x18, zN], [.inl v20, .inl v19]) M11 (fun v M' => qWf qCI [95, 96] M M' ∧ qRn v) := by
          intro v19 v20 hv19 hv20
          obtain ⟨x21, hx21⟩ : ∃ x : Int, x = w32 (v19 + v20) := ⟨_, rfl⟩
          have hx21r : x21 = (v19 + v20 + 2147483648) % 4294967296 - 2147483648 := hx21
          refine zG_wp (pc := 80) (L := [.inr (.inr (some 95)), .inr (.inr (some 24)), .inl a2, .inl x21, .inl v9, .inl v10, .inl x18, zN]) (st := []) 3 hd0 hz zp_296 (qm_296 (by first | exact zdk hd rfl | omega) hCM11  v10 (by first | with_reducible exact hv10 | omega)) (by subst hx21; rfl) (fun x23 hx23 => ?_)
          refine zG_w (c' := (84, [.inr (.inr (some 95)), .inr (.inr (some 24)), .inl a2, .inl x21, .inl v9, .inl v10, .inl x18, .inl x23], [.inl a2, .inl x21])) 3 hd0 hz (by rfl) ?_
          have j134 : ∀ (v24 : Int) (M25 : zM) , 0 ≤ v24 ∧ v24 ≤ 13 → qCI M25 → qFr [95, 96] M M25 → zG n (0, 0) d 3 (134, [.inr (.inr (some 95)), .inr (.inr (some 24)), .inl a2, .inl x21, .inl v24, .inl v10, .inl x18, .inl x23], []) M25 (fun v M' => qWf qCI [95, 96] M M' ∧ qRn v) := by
            intro v24 M25 hv24 hCM25 hWM25
            obtain ⟨x26, hx26⟩ : ∃ x : Int, x = w32 (v10 + 1) := ⟨_, rfl⟩
            have hx26e : x26 = v10 + 1 := by rw [hx26]; exact w32_id (by omega)
            refine zG_w (c' := (23, [.inr (.inr (some 95)), .inr (.inr (some 24)), .inl a2, .inl x21, .inl v24, .inl x26, .inl x18, .inl x23], [])) 2 hd0 hz (by subst hx26; rfl) ?_
            exact zG_weak (ih23 x21 v24 x26 M25 (by omega) (by omega) (by omega) (by omega) hCM25 hWM25) ⟨.inr rfl, .inr rfl, .inr rfl, .inr rfl, .inr rfl, .inr rfl, .inl rfl, .inl rfl, trivial⟩
          have j112 : zG n (0, 0) d 3 (112, [.inr (.inr (some 95)), .inr (.inr (some 24)), .inl a2, .inl x21, .inl v9, .inl v10, .inl x18, .inl x23], []) M11 (fun v M' => qWf qCI [95, 96] M M' ∧ qRn v) := by
            refine zG_wi_ne (pc := 114) (n' := 117) (t := 134) (L := [.inr (.inr (some 95)), .inr (.inr (some 24)), .inl a2, .inl x21, .inl v9, .inl v10, .inl x18, .inl x23]) (st := []) (x := x21) (y := a2) 2 hd0 hz (by rfl) (fun hb27 => ?_) (fun hb27 => ?_)
            · exact j134 v9 M11 (by omega) hCM11 hWM11
            · refine zG_wi_ne (pc := 121) (n' := 124) (t := 134) (L := [.inr (.inr (some 95)), .inr (.inr (some 24)), .inl a2, .inl x21, .inl v9, .inl v10, .inl x18, .inl x23]) (st := []) (x := x23) (y := v9) 2 hd0 hz (by rfl) (fun hb28 => ?_) (fun hb28 => ?_)
              · exact j134 v9 M11 (by omega) hCM11 hWM11
              · have r29 := hCM11.rng 95 2 (by decide) (by decide)
                obtain ⟨x30, hx30⟩ : ∃ x : Int, x = w32 ((M11 95 2) + 1) := ⟨_, rfl⟩
                have hx30r : x30 = ((M11 95 2) + 1 + 2147483648) % 4294967296 - 2147483648 := hx30
                refine zG_w (c' := (131, [.inr (.inr (some 95)), .inr (.inr (some 24)), .inl a2, .inl x21, .inl v9, .inl v10, .inl x18, .inl x23], [.inl x30, .inr (.inr (some 95))])) 5 hd0 hz (by subst hx30; rfl) ?_
                refine zG_putf (.inl rfl) hd0 hz rfl (by decide) rfl rfl ?_
                obtain ⟨M31, hM31⟩ : ∃ X : zM, X = zput M11 95 2 x30 := ⟨_, rfl⟩
                rw [← hM31]
                have hCM31 : qCI M31 := by rw [hM31]; exact hCM11.put (r := 95) (k := 2) rfl (.inl (by omega))
                have hWM31 : qFr [95, 96] M M31 := by rw [hM31]; exact hWM11.put (by decide)
                have e32 : M31 95 2 = x30 := by rw [hM31]; exact qput_eq
                show zG n (0, 0) d 3 (134, [.inr (.inr (some 95)), .inr (.inr (some 24)), .inl a2, .inl x21, .inl v9, .inl v10, .inl x18, .inl x23], []) M31 _
                exact j134 v9 M31 (by omega) hCM31 hWM31
          refine zG_wi_ne (pc := 84) (n' := 87) (t := 112) (L := [.inr (.inr (some 95)), .inr (.inr (some 24)), .inl a2, .inl x21, .inl v9, .inl v10, .inl x18, .inl x23]) (st := []) (x := x21) (y := a2) 0 hd0 hz (by rfl) (fun hb33 => ?_) (fun hb33 => ?_)
          · exact j112
          · refine zG_wi_ge (pc := 91) (n' := 94) (t := 112) (L := [.inr (.inr (some 95)), .inr (.inr (some 24)), .inl a2, .inl x21, .inl v9, .inl v10, .inl x18, .inl x23]) (st := []) (x := x23) (y := v9) 2 hd0 hz (by rfl) (fun hb34 => ?_) (fun hb34 => ?_)
            · exact j112
            · refine zG_w (c' := (97, [.inr (.inr (some 95)), .inr (.inr (some 24)), .inl a2, .inl x21, .inl v9, .inl v10, .inl x18, .inl x23], [.inl v10, .inr (.inr (some 95))])) 2 hd0 hz (by rfl) ?_
              refine zG_putf (.inl rfl) hd0 hz rfl (by decide) rfl rfl ?_
              obtain ⟨M35, hM35⟩ : ∃ X : zM, X = zput M11 95 1 v10 := ⟨_, rfl⟩
              rw [← hM35]
              have hCM35 : qCI M35 := by rw [hM35]; exact hCM11.put (r := 95) (k := 1) rfl (.inl (by omega))
              have hWM35 : qFr [95, 96] M M35 := by rw [hM35]; exact hWM11.put (by decide)
              have e36 : M35 95 1 = v10 := by rw [hM35]; exact qput_eq
              show zG n (0, 0) d 3 (100, [.inr (.inr (some 95)), .inr (.inr (some 24)), .inl a2, .inl x21, .inl v9, .inl v10, .inl x18, .inl x23], []) M35 _
              refine zG_w (c' := (106, [.inr (.inr (some 95)), .inr (.inr (some 24)), .inl a2, .inl x21, .inl x23, .inl v10, .inl x18, .inl x23], [.inl 0, .inr (.inr (some 95))])) 4 hd0 hz (by rfl) ?_
              refine zG_putf (.inl rfl) hd0 hz rfl (by decide) rfl rfl ?_
              obtain ⟨M37, hM37⟩ : ∃ X : zM, X = zput M35 95 2 0 := ⟨_, rfl⟩
              rw [← hM37]
              have hCM37 : qCI M37 := by rw [hM37]; exact hCM35.put (r := 95) (k := 2) rfl (.inl (by omega))
              have hWM37 : qFr [95, 96] M M37 := by rw [hM37]; exact hWM35.put (by decide)
              have e38 : M37 95 1 = M35 95 1 := by rw [hM37]; exact qput_nk (by decide)
              have e39 : M37 95 2 = 0 := by rw [hM37]; exact qput_eq
              show zG n (0, 0) d 3 (109, [.inr (.inr (some 95)), .inr (.inr (some 24)), .inl a2, .inl x21, .inl x23, .inl v10, .inl x18, .inl x23], []) M37 _
              refine zG_w (c' := (134, [.inr (.inr (some 95)), .inr (.inr (some 24)), .inl a2, .inl x21, .inl x23, .inl v10, .inl x18, .inl x23], [])) 1 hd0 hz (by rfl) ?_
              exact j134 x23 M37 (by omega) hCM37 hWM37
        have j72 : ∀ (v40 : Int) , (-2147483648) ≤ v40 ∧ v40 ≤ 2147483647 → zG n (0, 0) d 3 (72, [.inr (.inr (some 95)), .inr (.inr (some 24)), .inl a2, .inl v8, .inl v9, .inl v10, .inl x18, zN], [.inl v40]) M11 (fun v M' => qWf qCI [95, 96] M M' ∧ qRn v) := by
          intro v40 hv40
          refine zG_w (c' := (73, [.inr (.inr (some 95)), .inr (.inr (some 24)), .inl a2, .inl v8, .inl v9, .inl v10, .inl x18, zN], [.inl 0, .inl v40])) 1 hd0 hz (by rfl) ?_
          exact j73 v40 0 (by first | decide | omega) (by omega)
        refine zG_wf_le (pc := 49) (n' := 52) (t := 72) (L := [.inr (.inr (some 95)), .inr (.inr (some 24)), .inl a2, .inl v8, .inl v9, .inl v10, .inl x18, zN]) (st := [.inl v8]) (x := v10) 0 hd0 hz (by rfl) (fun hb41 => ?_) (fun hb41 => ?_)
        · exact j72 v8 (by first | with_reducible exact hv8 | omega)
        · refine zG_wi_ge (pc := 59) (n' := 62) (t := 72) (L := [.inr (.inr (some 95)), .inr (.inr (some 24)), .inl a2, .inl v8, .inl v9, .inl v10, .inl x18, zN]) (st := [.inl v8]) (x := x18) (y := 12) 4 hd0 hz (by rfl) (fun hb42 => ?_) (fun hb42 => ?_)
          · exact j72 v8 (by first | with_reducible exact hv8 | omega)
          · refine zG_w (c' := (68, [.inr (.inr (some 95)), .inr (.inr (some 24)), .inl a2, .inl v8, .inl v9, .inl v10, .inl x18, zN], [.inl x18, .inr (.inr (some 96)), .inl v8])) 3 hd0 hz (by rfl) ?_
            refine zG_iald hd0 hz rfl rfl (.inl rfl) (by omega) ?_
            have hx43 := hCM11.rng 96 (x18 : Int).toNat (by decide) (by decide)
            generalize M11 96 (x18 : Int).toNat = x43 at hx43 ⊢
            show zG n (0, 0) d 3 (69, [.inr (.inr (some 95)), .inr (.inr (some 24)), .inl a2, .inl v8, .inl v9, .inl v10, .inl x18, zN], [.inl x43, .inl v8]) M11 _
            refine zG_w (c' := (73, [.inr (.inr (some 95)), .inr (.inr (some 24)), .inl a2, .inl v8, .inl v9, .inl v10, .inl x18, zN], [.inl x43, .inl v8])) 1 hd0 hz (by rfl) ?_
            exact j73 v8 x43 (by omega) (by omega)
  exact j23 ((2147483647 - 0 : Int).toNat + 1) x2 13 0 M5 (by omega) (by omega) (by omega) (by omega) hCM5 hWM5
theorem qm_1_95 {n d : Nat} {M : zM} (hd : 1 ≤ d) (hC : qCI M)  : qOkP n d 1 [.inr (.inr (some 95))] 1 M (qRi (fun x => (-2147483648) ≤ x ∧ x ≤ 2147483647)) := by
  have hz := zp_1
  have hd0 : 0 < d := by omega
  show zG n (0, 0) d 1 (0, [.inr (.inr (some 95))], []) M _
  have r1 := hC.rng 95 1 (by decide) (by decide)
  exact zG_wr (r := some (.inl (M 95 1))) 2 hd0 hz (by rfl) ⟨rfl, _, rfl, by omega⟩
theorem qm_2_95 {n d : Nat} {M : zM} (hd : 1 ≤ d) (hC : qCI M)  : qOkP n d 2 [.inr (.inr (some 95))] 1 M (qRi (fun x => (-2147483648) ≤ x ∧ x ≤ 2147483647)) := by
  have hz := zp_2
  have hd0 : 0 < d := by omega
  show zG n (0, 0) d 2 (0, [.inr (.inr (some 95))], []) M _
  have r1 := hC.rng 95 2 (by decide) (by decide)
  exact zG_wr (r := some (.inl (M 95 2))) 2 hd0 hz (by rfl) ⟨rfl, _, rfl, by omega⟩
theorem qm_164_8 {n d : Nat} {M : zM} (hd : 4 ≤ d) (hC : qCI M) (a1 : Int) (ha1 : (-2147483648) ≤ a1 ∧ a1 ≤ 2147483647) (a2 : Int) (ha2 : (-2147483648) ≤ a2 ∧ a2 ≤ 2147483647) : qOkM n d 164 [.inr (.inr (some 8)), .inl a1, .inl a2] 3 qCI [95, 96] M (qRi (fun x => (-2147483648) ≤ x ∧ x ≤ 2147483647)) := by
  have hz := zp_164
  have hd0 : 0 < d := by omega
  have hW : qFr [95, 96] M M := qFr.rfl
  show zG n (0, 0) d 164 (0, [.inr (.inr (some 8)), .inl a1, .inl a2], []) M _
  refine zG_wp (pc := 8) (L := [.inr (.inr (some 8)), .inl a1, .inl a2]) (st := []) 3 hd0 hz zp_169 (qm_169 (by first | exact zdk hd rfl | omega) hC  a1 (by first | with_reducible exact ha1 | omega) 0 (by first | decide | omega) 12000 (by first | decide | omega)) (by rfl) (fun x2 hx2 => ?_)
  have j20 : zG n (0, 0) d 164 (20, [.inr (.inr (some 8)), .inl a1, .inl a2], []) M (fun v M' => qWf qCI [95, 96] M M' ∧ qRi (fun x => (-2147483648) ≤ x ∧ x ≤ 2147483647) v) := by
    exact zG_wr (r := some (.inl (-2))) 1 hd0 hz (by rfl) ⟨⟨hC, hW⟩, _, rfl, by omega⟩
  refine zG_wf_eq (pc := 8) (n' := 11) (t := 20) (L := [.inr (.inr (some 8)), .inl a1, .inl a2]) (st := []) (x := x2) 0 hd0 hz (by rfl) (fun hb3 => ?_) (fun hb3 => ?_)
  · exact j20
  · refine zG_wp (pc := 17) (L := [.inr (.inr (some 8)), .inl a1, .inl a2]) (st := []) 3 hd0 hz zp_169 (qm_169 (by first | exact zdk hd rfl | omega) hC  a2 (by first | with_reducible exact ha2 | omega) 0 (by first | decide | omega) 1 (by first | decide | omega)) (by rfl) (fun x5 hx5 => ?_)
    refine zG_wf_ne (pc := 17) (n' := 20) (t := 23) (L := [.inr (.inr (some 8)), .inl a1, .inl a2]) (st := []) (x := x5) 0 hd0 hz (by rfl) (fun hb6 => ?_) (fun hb6 => ?_)
    · refine zG_wv (pc := 38) (L := [.inr (.inr (some 8)), .inl a1, .inl a2]) (st := []) 6 hd0 hz zp_3 (qm_3_95_24 (by first | exact zdk hd rfl | omega) hC  a1 (by first | with_reducible exact ha1 | omega)) (by rfl) (fun M7 hr => ?_)
      obtain ⟨hCM7, hFM7⟩ := hr
      have hWM7 : qFr [95, 96] M M7 := hW.tr hFM7 (by decide)
      refine zG_wp (pc := 45) (L := [.inr (.inr (some 8)), .inl a1, .inl a2]) (st := []) 2 hd0 hz zp_1 (qm_1_95 (by first | exact zdk hd rfl | omega) hCM7  ) (by rfl) (fun x10 hx10 => ?_)
      refine zG_wi_ne (pc := 46) (n' := 49) (t := 51) (L := [.inr (.inr (some 8)), .inl a1, .inl a2]) (st := []) (x := x10) (y := (-1)) 1 hd0 hz (by rfl) (fun hb11 => ?_) (fun hb11 => ?_)
      · refine zG_w (c' := (52, [.inr (.inr (some 8)), .inl a1, .inl a2], [.inl a2])) 1 hd0 hz (by rfl) ?_
        have j72 : ∀ (v12 : Int) , (-2147483648) ≤ v12 ∧ v12 ≤ 2147483647 → zG n (0, 0) d 164 (72, [.inr (.inr (some 8)), .inl a1, .inl a2], [.inl v12]) M7 (fun v M' => qWf qCI [95, 96] M M' ∧ qRi (fun x => (-2147483648) ≤ x ∧ x ≤ 2147483647) v) := by
          intro v12 hv12
          exact zG_wr (r := some (.inl v12)) 0 hd0 hz (by rfl) ⟨⟨hCM7, hWM7⟩, _, rfl, by omega⟩
        refine zG_wf_ne (pc := 52) (n' := 55) (t := 65) (L := [.inr (.inr (some 8)), .inl a1, .inl a2]) (st := []) (x := a2) 0 hd0 hz (by rfl) (fun hb13 => ?_) (fun hb13 => ?_)
        · refine zG_wp (pc := 72) (L := [.inr (.inr (some 8)), .inl a1, .inl a2]) (st := []) 2 hd0 hz zp_2 (qm_2_95 (by first | exact zdk hd rfl | omega) hCM7  ) (by rfl) (fun x15 hx15 => ?_)
          exact j72 x15 (by omega)
        · refine zG_wp (pc := 62) (L := [.inr (.inr (some 8)), .inl a1, .inl a2]) (st := []) 2 hd0 hz zp_1 (qm_1_95 (by first | exact zdk hd rfl | omega) hCM7  ) (by rfl) (fun x17 hx17 => ?_)
          refine zG_w (c' := (72, [.inr (.inr (some 8)), .inl a1, .inl a2], [.inl x17])) 1 hd0 hz (by rfl) ?_
          exact j72 x17 (by omega)
      · exact zG_wr (r := some (.inl (-1))) 1 hd0 hz (by rfl) ⟨⟨hCM7, hWM7⟩, _, rfl, by omega⟩
    · exact j20
theorem qm_176_8 {n d : Nat} {M : zM} (hd : 1 ≤ d) (hC : qCI M) (a1 : Int) (ha1 : (-2147483648) ≤ a1 ∧ a1 ≤ 2147483647) : qOkP n d 176 [.inr (.inr (some 8)), .inl a1] 2 M (fun v => v = some (.inr (.inr (some 26))) ∨ v = some (.inr (.inr (some 43)))) := by
  have hz := zp_176
  have hd0 : 0 < d := by omega
  show zG n (0, 0) d 176 (0, [.inr (.inr (some 8)), .inl a1], []) M _
  refine zG_wf_ne (pc := 1) (n' := 4) (t := 11) (L := [.inr (.inr (some 8)), .inl a1]) (st := []) (x := a1) 1 hd0 hz (by rfl) (fun hb1 => ?_) (fun hb1 => ?_)
  · exact zG_wr (r := some (.inr (.inr (some 43)))) 2 hd0 hz (by rfl) ⟨rfl, by first | exact .inl rfl | exact .inr rfl⟩
  · exact zG_wr (r := some (.inr (.inr (some 26)))) 3 hd0 hz (by rfl) ⟨rfl, by first | exact .inl rfl | exact .inr rfl⟩
theorem qm_26_26_9 {n d : Nat} {M : zM} (hd : 2 ≤ d) (hC : qCI M)  : qOkM n d 26 [.inr (.inr (some 26)), .inr (.inr (some 9))] 2 qCI [26, 27, 28, 29, 30, 31, 32, 33, 34, 35, 36, 37, 38, 39, 40, 41, 42] M qRn := by
  have hz := zp_26
  have hd0 : 0 < d := by omega
  have hW : qFr [26, 27, 28, 29, 30, 31, 32, 33, 34, 35, 36, 37, 38, 39, 40, 41, 42] M M := qFr.rfl
  show zG n (0, 0) d 26 (0, [.inr (.inr (some 26)), .inr (.inr (some 9))], []) M _
  refine zG_wv (pc := 11) (L := [.inr (.inr (some 26)), .inr (.inr (some 9))]) (st := []) 4 hd0 hz zp_110 (qw_takeOver (by first | exact zdk hd rfl | omega) hC (⟨by decide, rfl, rfl⟩ : qT n 27 14 4) (⟨by decide, rfl, rfl⟩ : qT n 10 14 4) ) (by rfl) (fun M1 hr => ?_)
  obtain ⟨hCM1, hFM1⟩ := hr
  have hWM1 : qFr [26, 27, 28, 29, 30, 31, 32, 33, 34, 35, 36, 37, 38, 39, 40, 41, 42] M M1 := hW.tr hFM1 (by decide)
  refine zG_wv (pc := 22) (L := [.inr (.inr (some 26)), .inr (.inr (some 9))]) (st := []) 4 hd0 hz zp_110 (qw_takeOver (by first | exact zdk hd rfl | omega) hCM1 (⟨by decide, rfl, rfl⟩ : qT n 29 20 3) (⟨by decide, rfl, rfl⟩ : qT n 12 20 3) ) (by rfl) (fun M3 hr => ?_)
  obtain ⟨hCM3, hFM3⟩ := hr
  have hWM3 : qFr [26, 27, 28, 29, 30, 31, 32, 33, 34, 35, 36, 37, 38, 39, 40, 41, 42] M M3 := hWM1.tr hFM3 (by decide)
  refine zG_wv (pc := 33) (L := [.inr (.inr (some 26)), .inr (.inr (some 9))]) (st := []) 4 hd0 hz zp_110 (qw_takeOver (by first | exact zdk hd rfl | omega) hCM3 (⟨by decide, rfl, rfl⟩ : qT n 31 4 2) (⟨by decide, rfl, rfl⟩ : qT n 14 4 2) ) (by rfl) (fun M5 hr => ?_)
  obtain ⟨hCM5, hFM5⟩ := hr
  have hWM5 : qFr [26, 27, 28, 29, 30, 31, 32, 33, 34, 35, 36, 37, 38, 39, 40, 41, 42] M M5 := hWM3.tr hFM5 (by decide)
  refine zG_wv (pc := 44) (L := [.inr (.inr (some 26)), .inr (.inr (some 9))]) (st := []) 4 hd0 hz zp_110 (qw_takeOver (by first | exact zdk hd rfl | omega) hCM5 (⟨by decide, rfl, rfl⟩ : qT n 33 40 5) (⟨by decide, rfl, rfl⟩ : qT n 16 40 5) ) (by rfl) (fun M7 hr => ?_)
  obtain ⟨hCM7, hFM7⟩ := hr
  have hWM7 : qFr [26, 27, 28, 29, 30, 31, 32, 33, 34, 35, 36, 37, 38, 39, 40, 41, 42] M M7 := hWM5.tr hFM7 (by decide)
  refine zG_wv (pc := 55) (L := [.inr (.inr (some 26)), .inr (.inr (some 9))]) (st := []) 4 hd0 hz zp_110 (qw_takeOver (by first | exact zdk hd rfl | omega) hCM7 (⟨by decide, rfl, rfl⟩ : qT n 35 250 11) (⟨by decide, rfl, rfl⟩ : qT n 18 250 11) ) (by rfl) (fun M9 hr => ?_)
  obtain ⟨hCM9, hFM9⟩ := hr
  have hWM9 : qFr [26, 27, 28, 29, 30, 31, 32, 33, 34, 35, 36, 37, 38, 39, 40, 41, 42] M M9 := hWM7.tr hFM9 (by decide)
  refine zG_wv (pc := 66) (L := [.inr (.inr (some 26)), .inr (.inr (some 9))]) (st := []) 4 hd0 hz zp_110 (qw_takeOver (by first | exact zdk hd rfl | omega) hCM9 (⟨by decide, rfl, rfl⟩ : qT n 37 8 81) (⟨by decide, rfl, rfl⟩ : qT n 20 8 81) ) (by rfl) (fun M11 hr => ?_)
  obtain ⟨hCM11, hFM11⟩ := hr
  have hWM11 : qFr [26, 27, 28, 29, 30, 31, 32, 33, 34, 35, 36, 37, 38, 39, 40, 41, 42] M M11 := hWM9.tr hFM11 (by decide)
  refine zG_wv (pc := 77) (L := [.inr (.inr (some 26)), .inr (.inr (some 9))]) (st := []) 4 hd0 hz zp_110 (qw_takeOver (by first | exact zdk hd rfl | omega) hCM11 (⟨by decide, rfl, rfl⟩ : qT n 39 10 164) (⟨by decide, rfl, rfl⟩ : qT n 22 10 164) ) (by rfl) (fun M13 hr => ?_)
  obtain ⟨hCM13, hFM13⟩ := hr
  have hWM13 : qFr [26, 27, 28, 29, 30, 31, 32, 33, 34, 35, 36, 37, 38, 39, 40, 41, 42] M M13 := hWM11.tr hFM13 (by decide)
  refine zG_wv (pc := 88) (L := [.inr (.inr (some 26)), .inr (.inr (some 9))]) (st := []) 4 hd0 hz zp_110 (qw_takeOver (by first | exact zdk hd rfl | omega) hCM13 (⟨by decide, rfl, rfl⟩ : qT n 41 12 2) (⟨by decide, rfl, rfl⟩ : qT n 24 12 2) ) (by rfl) (fun M15 hr => ?_)
  obtain ⟨hCM15, hFM15⟩ := hr
  have hWM15 : qFr [26, 27, 28, 29, 30, 31, 32, 33, 34, 35, 36, 37, 38, 39, 40, 41, 42] M M15 := hWM13.tr hFM15 (by decide)
  have r17 := hCM15.rng 9 8 (by decide) (by decide)
  refine zG_w (c' := (93, [.inr (.inr (some 26)), .inr (.inr (some 9))], [.inl (M15 9 8), .inr (.inr (some 26))])) 3 hd0 hz (by rfl) ?_
  refine zG_putf (.inl rfl) hd0 hz rfl (by decide) rfl rfl ?_
  obtain ⟨M18, hM18⟩ : ∃ X : zM, X = zput M15 26 8 (M15 9 8) := ⟨_, rfl⟩
  rw [← hM18]
  have hCM18 : qCI M18 := by rw [hM18]; exact hCM15.put (r := 26) (k := 8) rfl (.inl (by omega))
  have hWM18 : qFr [26, 27, 28, 29, 30, 31, 32, 33, 34, 35, 36, 37, 38, 39, 40, 41, 42] M M18 := by rw [hM18]; exact hWM15.put (by decide)
  have e19 : M18 9 8 = M15 9 8 := by rw [hM18]; exact qput_ne (by decide)
  have e20 : M18 26 8 = (M15 9 8) := by rw [hM18]; exact qput_eq
  show zG n (0, 0) d 26 (96, [.inr (.inr (some 26)), .inr (.inr (some 9))], []) M18 _
  have r21 := hCM18.rng 9 9 (by decide) (by decide)
  refine zG_w (c' := (101, [.inr (.inr (some 26)), .inr (.inr (some 9))], [.inl (M18 9 9), .inr (.inr (some 26))])) 3 hd0 hz (by rfl) ?_
  refine zG_putf (.inl rfl) hd0 hz rfl (by decide) rfl rfl ?_
  obtain ⟨M22, hM22⟩ : ∃ X : zM, X = zput M18 26 9 (M18 9 9) := ⟨_, rfl⟩
  rw [← hM22]
  have hCM22 : qCI M22 := by rw [hM22]; exact hCM18.put (r := 26) (k := 9) rfl (.inl (by omega))
  have hWM22 : qFr [26, 27, 28, 29, 30, 31, 32, 33, 34, 35, 36, 37, 38, 39, 40, 41, 42] M M22 := by rw [hM22]; exact hWM18.put (by decide)
  have e23 : M22 9 8 = M18 9 8 := by rw [hM22]; exact qput_ne (by decide)
  have e24 : M22 26 8 = M18 26 8 := by rw [hM22]; exact qput_nk (by decide)
  have e25 : M22 9 9 = M18 9 9 := by rw [hM22]; exact qput_ne (by decide)
  have e26 : M22 26 9 = (M18 9 9) := by rw [hM22]; exact qput_eq
  show zG n (0, 0) d 26 (104, [.inr (.inr (some 26)), .inr (.inr (some 9))], []) M22 _
  exact zG_wr (r := none) 0 hd0 hz (by rfl) ⟨⟨hCM22, hWM22⟩, rfl⟩
theorem qm_26_43_9 {n d : Nat} {M : zM} (hd : 2 ≤ d) (hC : qCI M)  : qOkM n d 26 [.inr (.inr (some 43)), .inr (.inr (some 9))] 2 qCI [43, 44, 45, 46, 47, 48, 49, 50, 51, 52, 53, 54, 55, 56, 57, 58, 59] M qRn := by
  have hz := zp_26
  have hd0 : 0 < d := by omega
  have hW : qFr [43, 44, 45, 46, 47, 48, 49, 50, 51, 52, 53, 54, 55, 56, 57, 58, 59] M M := qFr.rfl
  show zG n (0, 0) d 26 (0, [.inr (.inr (some 43)), .inr (.inr (some 9))], []) M _
  refine zG_wv (pc := 11) (L := [.inr (.inr (some 43)), .inr (.inr (some 9))]) (st := []) 4 hd0 hz zp_110 (qw_takeOver (by first | exact zdk hd rfl | omega) hC (⟨by decide, rfl, rfl⟩ : qT n 44 14 4) (⟨by decide, rfl, rfl⟩ : qT n 10 14 4) ) (by rfl) (fun M1 hr => ?_)
  obtain ⟨hCM1, hFM1⟩ := hr
  have hWM1 : qFr [43, 44, 45, 46, 47, 48, 49, 50, 51, 52, 53, 54, 55, 56, 57, 58, 59] M M1 := hW.tr hFM1 (by decide)
  refine zG_wv (pc := 22) (L := [.inr (.inr (some 43)), .inr (.inr (some 9))]) (st := []) 4 hd0 hz zp_110 (qw_takeOver (by first | exact zdk hd rfl | omega) hCM1 (⟨by decide, rfl, rfl⟩ : qT n 46 20 3) (⟨by decide, rfl, rfl⟩ : qT n 12 20 3) ) (by rfl) (fun M3 hr => ?_)
  obtain ⟨hCM3, hFM3⟩ := hr
  have hWM3 : qFr [43, 44, 45, 46, 47, 48, 49, 50, 51, 52, 53, 54, 55, 56, 57, 58, 59] M M3 := hWM1.tr hFM3 (by decide)
  refine zG_wv (pc := 33) (L := [.inr (.inr (some 43)), .inr (.inr (some 9))]) (st := []) 4 hd0 hz zp_110 (qw_takeOver (by first | exact zdk hd rfl | omega) hCM3 (⟨by decide, rfl, rfl⟩ : qT n 48 4 2) (⟨by decide, rfl, rfl⟩ : qT n 14 4 2) ) (by rfl) (fun M5 hr => ?_)
  obtain ⟨hCM5, hFM5⟩ := hr
  have hWM5 : qFr [43, 44, 45, 46, 47, 48, 49, 50, 51, 52, 53, 54, 55, 56, 57, 58, 59] M M5 := hWM3.tr hFM5 (by decide)
  refine zG_wv (pc := 44) (L := [.inr (.inr (some 43)), .inr (.inr (some 9))]) (st := []) 4 hd0 hz zp_110 (qw_takeOver (by first | exact zdk hd rfl | omega) hCM5 (⟨by decide, rfl, rfl⟩ : qT n 50 40 5) (⟨by decide, rfl, rfl⟩ : qT n 16 40 5) ) (by rfl) (fun M7 hr => ?_)
  obtain ⟨hCM7, hFM7⟩ := hr
  have hWM7 : qFr [43, 44, 45, 46, 47, 48, 49, 50, 51, 52, 53, 54, 55, 56, 57, 58, 59] M M7 := hWM5.tr hFM7 (by decide)
  refine zG_wv (pc := 55) (L := [.inr (.inr (some 43)), .inr (.inr (some 9))]) (st := []) 4 hd0 hz zp_110 (qw_takeOver (by first | exact zdk hd rfl | omega) hCM7 (⟨by decide, rfl, rfl⟩ : qT n 52 250 11) (⟨by decide, rfl, rfl⟩ : qT n 18 250 11) ) (by rfl) (fun M9 hr => ?_)
  obtain ⟨hCM9, hFM9⟩ := hr
  have hWM9 : qFr [43, 44, 45, 46, 47, 48, 49, 50, 51, 52, 53, 54, 55, 56, 57, 58, 59] M M9 := hWM7.tr hFM9 (by decide)
  refine zG_wv (pc := 66) (L := [.inr (.inr (some 43)), .inr (.inr (some 9))]) (st := []) 4 hd0 hz zp_110 (qw_takeOver (by first | exact zdk hd rfl | omega) hCM9 (⟨by decide, rfl, rfl⟩ : qT n 54 8 81) (⟨by decide, rfl, rfl⟩ : qT n 20 8 81) ) (by rfl) (fun M11 hr => ?_)
  obtain ⟨hCM11, hFM11⟩ := hr
  have hWM11 : qFr [43, 44, 45, 46, 47, 48, 49, 50, 51, 52, 53, 54, 55, 56, 57, 58, 59] M M11 := hWM9.tr hFM11 (by decide)
  refine zG_wv (pc := 77) (L := [.inr (.inr (some 43)), .inr (.inr (some 9))]) (st := []) 4 hd0 hz zp_110 (qw_takeOver (by first | exact zdk hd rfl | omega) hCM11 (⟨by decide, rfl, rfl⟩ : qT n 56 10 164) (⟨by decide, rfl, rfl⟩ : qT n 22 10 164) ) (by rfl) (fun M13 hr => ?_)
  obtain ⟨hCM13, hFM13⟩ := hr
  have hWM13 : qFr [43, 44, 45, 46, 47, 48, 49, 50, 51, 52, 53, 54, 55, 56, 57, 58, 59] M M13 := hWM11.tr hFM13 (by decide)
  refine zG_wv (pc := 88) (L := [.inr (.inr (some 43)), .inr (.inr (some 9))]) (st := []) 4 hd0 hz zp_110 (qw_takeOver (by first | exact zdk hd rfl | omega) hCM13 (⟨by decide, rfl, rfl⟩ : qT n 58 12 2) (⟨by decide, rfl, rfl⟩ : qT n 24 12 2) ) (by rfl) (fun M15 hr => ?_)
  obtain ⟨hCM15, hFM15⟩ := hr
  have hWM15 : qFr [43, 44, 45, 46, 47, 48, 49, 50, 51, 52, 53, 54, 55, 56, 57, 58, 59] M M15 := hWM13.tr hFM15 (by decide)
  have r17 := hCM15.rng 9 8 (by decide) (by decide)
  refine zG_w (c' := (93, [.inr (.inr (some 43)), .inr (.inr (some 9))], [.inl (M15 9 8), .inr (.inr (some 43))])) 3 hd0 hz (by rfl) ?_
  refine zG_putf (.inl rfl) hd0 hz rfl (by decide) rfl rfl ?_
  obtain ⟨M18, hM18⟩ : ∃ X : zM, X = zput M15 43 8 (M15 9 8) := ⟨_, rfl⟩
  rw [← hM18]
  have hCM18 : qCI M18 := by rw [hM18]; exact hCM15.put (r := 43) (k := 8) rfl (.inl (by omega))
  have hWM18 : qFr [43, 44, 45, 46, 47, 48, 49, 50, 51, 52, 53, 54, 55, 56, 57, 58, 59] M M18 := by rw [hM18]; exact hWM15.put (by decide)
  have e19 : M18 9 8 = M15 9 8 := by rw [hM18]; exact qput_ne (by decide)
  have e20 : M18 43 8 = (M15 9 8) := by rw [hM18]; exact qput_eq
  show zG n (0, 0) d 26 (96, [.inr (.inr (some 43)), .inr (.inr (some 9))], []) M18 _
  have r21 := hCM18.rng 9 9 (by decide) (by decide)
  refine zG_w (c' := (101, [.inr (.inr (some 43)), .inr (.inr (some 9))], [.inl (M18 9 9), .inr (.inr (some 43))])) 3 hd0 hz (by rfl) ?_
  refine zG_putf (.inl rfl) hd0 hz rfl (by decide) rfl rfl ?_
  obtain ⟨M22, hM22⟩ : ∃ X : zM, X = zput M18 43 9 (M18 9 9) := ⟨_, rfl⟩
  rw [← hM22]
  have hCM22 : qCI M22 := by rw [hM22]; exact hCM18.put (r := 43) (k := 9) rfl (.inl (by omega))
  have hWM22 : qFr [43, 44, 45, 46, 47, 48, 49, 50, 51, 52, 53, 54, 55, 56, 57, 58, 59] M M22 := by rw [hM22]; exact hWM18.put (by decide)
  have e23 : M22 9 8 = M18 9 8 := by rw [hM22]; exact qput_ne (by decide)
  have e24 : M22 43 8 = M18 43 8 := by rw [hM22]; exact qput_nk (by decide)
  have e25 : M22 9 9 = M18 9 9 := by rw [hM22]; exact qput_ne (by decide)
  have e26 : M22 43 9 = (M18 9 9) := by rw [hM22]; exact qput_eq
  show zG n (0, 0) d 26 (104, [.inr (.inr (some 43)), .inr (.inr (some 9))], []) M22 _
  exact zG_wr (r := none) 0 hd0 hz (by rfl) ⟨⟨hCM22, hWM22⟩, rfl⟩
theorem qm_165_8 {n d : Nat} {M : zM} (hd : 3 ≤ d) (hC : qCI M) (a1 : Int) (ha1 : (-2147483648) ≤ a1 ∧ a1 ≤ 2147483647) : qOkM n d 165 [.inr (.inr (some 8)), .inl a1] 2 qCI [8, 26, 27, 28, 29, 30, 31, 32, 33, 34, 35, 36, 37, 38, 39, 40, 41, 42, 43, 44, 45, 46, 47, 48, 49, 50, 51, 52, 53, 54, 55, 56, 57, 58, 59] M (qRi (fun x => (-2) ≤ x ∧ x ≤ 1)) := by
  have hz := zp_165
  have hd0 : 0 < d := by omega
  have hW : qFr [8, 26, 27, 28, 29, 30, 31, 32, 33, 34, 35, 36, 37, 38, 39, 40, 41, 42, 43, 44, 45, 46, 47, 48, 49, 50, 51, 52, 53, 54, 55, 56, 57, 58, 59] M M := qFr.rfl
  show zG n (0, 0) d 165 (0, [.inr (.inr (some 8)), .inl a1], []) M _
  refine zG_wp (pc := 6) (L := [.inr (.inr (some 8)), .inl a1]) (st := []) 3 hd0 hz zp_169 (qm_169 (by first | exact zdk hd rfl | omega) hC  a1 (by first | with_reducible exact ha1 | omega) 0 (by first | decide | omega) 1 (by first | decide | omega)) (by rfl) (fun x2 hx2 => ?_)
  refine zG_wf_ne (pc := 6) (n' := 9) (t := 12) (L := [.inr (.inr (some 8)), .inl a1]) (st := []) (x := x2) 0 hd0 hz (by rfl) (fun hb3 => ?_) (fun hb3 => ?_)
  · refine zG_wc (c1 := (17, [.inr (.inr (some 8)), .inl a1], [])) 2 hd0 hz zp_176 (qm_176_8 (by first | exact zdk hd rfl | omega) hC  a1 (by first | with_reducible exact ha1 | omega)) (by rfl) (fun vr M4 hr => ?_)
    obtain ⟨hq, hv⟩ := hr
    replace hq := hq.symm; subst hq
    rcases hv with rfl | rfl
    · show zG n (0, 0) d 165 (17, [.inr (.inr (some 8)), .inl a1], [.inr (.inr (some 26))]) M _
      refine zG_wv (pc := 24) (L := [.inr (.inr (some 8)), .inl a1]) (st := []) 2 hd0 hz zp_26 (qm_26_26_9 (by first | exact zdk hd rfl | omega) hC  ) (by rfl) (fun M6 hr => ?_)
      obtain ⟨hCM6, hFM6⟩ := hr
      have hWM6 : qFr [8, 26, 27, 28, 29, 30, 31, 32, 33, 34, 35, 36, 37, 38, 39, 40, 41, 42, 43, 44, 45, 46, 47, 48, 49, 50, 51, 52, 53, 54, 55, 56, 57, 58, 59] M M6 := hW.tr hFM6 (by decide)
      have r8 := hCM6.rng 8 3 (by decide) (by decide)
      obtain ⟨x9, hx9⟩ : ∃ x : Int, x = zbshl 1 a1 := ⟨_, rfl⟩
      have hx9r : qin x9 := by rw [hx9]; exact qb32 _
      obtain ⟨x10, hx10⟩ : ∃ x : Int, x = zbor (M6 8 3) x9 := ⟨_, rfl⟩
      have hx10r : qin x10 := by rw [hx10]; exact qb32 _
      refine zG_w (c' := (33, [.inr (.inr (some 8)), .inl a1], [.inl x10, .inr (.inr (some 8))])) 7 hd0 hz (by subst hx10; subst hx9; rfl) ?_
      refine zG_putf (.inl rfl) hd0 hz rfl (by decide) rfl rfl ?_
      obtain ⟨M11, hM11⟩ : ∃ X : zM, X = zput M6 8 3 x10 := ⟨_, rfl⟩
      rw [← hM11]
      have hCM11 : qCI M11 := by rw [hM11]; exact hCM6.put (r := 8) (k := 3) rfl (.inl (by omega))
      have hWM11 : qFr [8, 26, 27, 28, 29, 30, 31, 32, 33, 34, 35, 36, 37, 38, 39, 40, 41, 42, 43, 44, 45, 46, 47, 48, 49, 50, 51, 52, 53, 54, 55, 56, 57, 58, 59] M M11 := by rw [hM11]; exact hWM6.put (by decide)
      have e12 : M11 8 3 = x10 := by rw [hM11]; exact qput_eq
      show zG n (0, 0) d 165 (36, [.inr (.inr (some 8)), .inl a1], []) M11 _
      exact zG_wr (r := some (.inl 1)) 1 hd0 hz (by rfl) ⟨⟨hCM11, hWM11⟩, _, rfl, by omega⟩
    · show zG n (0, 0) d 165 (17, [.inr (.inr (some 8)), .inl a1], [.inr (.inr (some 43))]) M _
      refine zG_wv (pc := 24) (L := [.inr (.inr (some 8)), .inl a1]) (st := []) 2 hd0 hz zp_26 (qm_26_43_9 (by first | exact zdk hd rfl | omega) hC  ) (by rfl) (fun M13 hr => ?_)
      obtain ⟨hCM13, hFM13⟩ := hr
      have hWM13 : qFr [8, 26, 27, 28, 29, 30, 31, 32, 33, 34, 35, 36, 37, 38, 39, 40, 41, 42, 43, 44, 45, 46, 47, 48, 49, 50, 51, 52, 53, 54, 55, 56, 57, 58, 59] M M13 := hW.tr hFM13 (by decide)
      have r15 := hCM13.rng 8 3 (by decide) (by decide)
      obtain ⟨x16, hx16⟩ : ∃ x : Int, x = zbshl 1 a1 := ⟨_, rfl⟩
      have hx16r : qin x16 := by rw [hx16]; exact qb32 _
      obtain ⟨x17, hx17⟩ : ∃ x : Int, x = zbor (M13 8 3) x16 := ⟨_, rfl⟩
      have hx17r : qin x17 := by rw [hx17]; exact qb32 _
      refine zG_w (c' := (33, [.inr (.inr (some 8)), .inl a1], [.inl x17, .inr (.inr (some 8))])) 7 hd0 hz (by subst hx17; subst hx16; rfl) ?_
      refine zG_putf (.inl rfl) hd0 hz rfl (by decide) rfl rfl ?_
      obtain ⟨M18, hM18⟩ : ∃ X : zM, X = zput M13 8 3 x17 := ⟨_, rfl⟩
      rw [← hM18]
      have hCM18 : qCI M18 := by rw [hM18]; exact hCM13.put (r := 8) (k := 3) rfl (.inl (by omega))
      have hWM18 : qFr [8, 26, 27, 28, 29, 30, 31, 32, 33, 34, 35, 36, 37, 38, 39, 40, 41, 42, 43, 44, 45, 46, 47, 48, 49, 50, 51, 52, 53, 54, 55, 56, 57, 58, 59] M M18 := by rw [hM18]; exact hWM13.put (by decide)
      have e19 : M18 8 3 = x17 := by rw [hM18]; exact qput_eq
      show zG n (0, 0) d 165 (36, [.inr (.inr (some 8)), .inl a1], []) M18 _
      exact zG_wr (r := some (.inl 1)) 1 hd0 hz (by rfl) ⟨⟨hCM18, hWM18⟩, _, rfl, by omega⟩
  · exact zG_wr (r := some (.inl (-2))) 1 hd0 hz (by rfl) ⟨⟨hC, hW⟩, _, rfl, by omega⟩
theorem qm_26_9_26 {n d : Nat} {M : zM} (hd : 2 ≤ d) (hC : qCI M)  : qOkM n d 26 [.inr (.inr (some 9)), .inr (.inr (some 26))] 2 qCI [9, 10, 11, 12, 13, 14, 15, 16, 17, 18, 19, 20, 21, 22, 23, 24, 25] M qRn := by
  have hz := zp_26
  have hd0 : 0 < d := by omega
  have hW : qFr [9, 10, 11, 12, 13, 14, 15, 16, 17, 18, 19, 20, 21, 22, 23, 24, 25] M M := qFr.rfl
  show zG n (0, 0) d 26 (0, [.inr (.inr (some 9)), .inr (.inr (some 26))], []) M _
  refine zG_wv (pc := 11) (L := [.inr (.inr (some 9)), .inr (.inr (some 26))]) (st := []) 4 hd0 hz zp_110 (qw_takeOver (by first | exact zdk hd rfl | omega) hC (⟨by decide, rfl, rfl⟩ : qT n 10 14 4) (⟨by decide, rfl, rfl⟩ : qT n 27 14 4) ) (by rfl) (fun M1 hr => ?_)
  obtain ⟨hCM1, hFM1⟩ := hr
  have hWM1 : qFr [9, 10, 11, 12, 13, 14, 15, 16, 17, 18, 19, 20, 21, 22, 23, 24, 25] M M1 := hW.tr hFM1 (by decide)
  refine zG_wv (pc := 22) (L := [.inr (.inr (some 9)), .inr (.inr (some 26))]) (st := []) 4 hd0 hz zp_110 (qw_takeOver (by first | exact zdk hd rfl | omega) hCM1 (⟨by decide, rfl, rfl⟩ : qT n 12 20 3) (⟨by decide, rfl, rfl⟩ : qT n 29 20 3) ) (by rfl) (fun M3 hr => ?_)
  obtain ⟨hCM3, hFM3⟩ := hr
  have hWM3 : qFr [9, 10, 11, 12, 13, 14, 15, 16, 17, 18, 19, 20, 21, 22, 23, 24, 25] M M3 := hWM1.tr hFM3 (by decide)
  refine zG_wv (pc := 33) (L := [.inr (.inr (some 9)), .inr (.inr (some 26))]) (st := []) 4 hd0 hz zp_110 (qw_takeOver (by first | exact zdk hd rfl | omega) hCM3 (⟨by decide, rfl, rfl⟩ : qT n 14 4 2) (⟨by decide, rfl, rfl⟩ : qT n 31 4 2) ) (by rfl) (fun M5 hr => ?_)
  obtain ⟨hCM5, hFM5⟩ := hr
  have hWM5 : qFr [9, 10, 11, 12, 13, 14, 15, 16, 17, 18, 19, 20, 21, 22, 23, 24, 25] M M5 := hWM3.tr hFM5 (by decide)
  refine zG_wv (pc := 44) (L := [.inr (.inr (some 9)), .inr (.inr (some 26))]) (st := []) 4 hd0 hz zp_110 (qw_takeOver (by first | exact zdk hd rfl | omega) hCM5 (⟨by decide, rfl, rfl⟩ : qT n 16 40 5) (⟨by decide, rfl, rfl⟩ : qT n 33 40 5) ) (by rfl) (fun M7 hr => ?_)
  obtain ⟨hCM7, hFM7⟩ := hr
  have hWM7 : qFr [9, 10, 11, 12, 13, 14, 15, 16, 17, 18, 19, 20, 21, 22, 23, 24, 25] M M7 := hWM5.tr hFM7 (by decide)
  refine zG_wv (pc := 55) (L := [.inr (.inr (some 9)), .inr (.inr (some 26))]) (st := []) 4 hd0 hz zp_110 (qw_takeOver (by first | exact zdk hd rfl | omega) hCM7 (⟨by decide, rfl, rfl⟩ : qT n 18 250 11) (⟨by decide, rfl, rfl⟩ : qT n 35 250 11) ) (by rfl) (fun M9 hr => ?_)
  obtain ⟨hCM9, hFM9⟩ := hr
  have hWM9 : qFr [9, 10, 11, 12, 13, 14, 15, 16, 17, 18, 19, 20, 21, 22, 23, 24, 25] M M9 := hWM7.tr hFM9 (by decide)
  refine zG_wv (pc := 66) (L := [.inr (.inr (some 9)), .inr (.inr (some 26))]) (st := []) 4 hd0 hz zp_110 (qw_takeOver (by first | exact zdk hd rfl | omega) hCM9 (⟨by decide, rfl, rfl⟩ : qT n 20 8 81) (⟨by decide, rfl, rfl⟩ : qT n 37 8 81) ) (by rfl) (fun M11 hr => ?_)
  obtain ⟨hCM11, hFM11⟩ := hr
  have hWM11 : qFr [9, 10, 11, 12, 13, 14, 15, 16, 17, 18, 19, 20, 21, 22, 23, 24, 25] M M11 := hWM9.tr hFM11 (by decide)
  refine zG_wv (pc := 77) (L := [.inr (.inr (some 9)), .inr (.inr (some 26))]) (st := []) 4 hd0 hz zp_110 (qw_takeOver (by first | exact zdk hd rfl | omega) hCM11 (⟨by decide, rfl, rfl⟩ : qT n 22 10 164) (⟨by decide, rfl, rfl⟩ : qT n 39 10 164) ) (by rfl) (fun M13 hr => ?_)
  obtain ⟨hCM13, hFM13⟩ := hr
  have hWM13 : qFr [9, 10, 11, 12, 13, 14, 15, 16, 17, 18, 19, 20, 21, 22, 23, 24, 25] M M13 := hWM11.tr hFM13 (by decide)
  refine zG_wv (pc := 88) (L := [.inr (.inr (some 9)), .inr (.inr (some 26))]) (st := []) 4 hd0 hz zp_110 (qw_takeOver (by first | exact zdk hd rfl | omega) hCM13 (⟨by decide, rfl, rfl⟩ : qT n 24 12 2) (⟨by decide, rfl, rfl⟩ : qT n 41 12 2) ) (by rfl) (fun M15 hr => ?_)
  obtain ⟨hCM15, hFM15⟩ := hr
  have hWM15 : qFr [9, 10, 11, 12, 13, 14, 15, 16, 17, 18, 19, 20, 21, 22, 23, 24, 25] M M15 := hWM13.tr hFM15 (by decide)
  have r17 := hCM15.rng 26 8 (by decide) (by decide)
  refine zG_w (c' := (93, [.inr (.inr (some 9)), .inr (.inr (some 26))], [.inl (M15 26 8), .inr (.inr (some 9))])) 3 hd0 hz (by rfl) ?_
  refine zG_putf (.inl rfl) hd0 hz rfl (by decide) rfl rfl ?_
  obtain ⟨M18, hM18⟩ : ∃ X : zM, X = zput M15 9 8 (M15 26 8) := ⟨_, rfl⟩
  rw [← hM18]
  have hCM18 : qCI M18 := by rw [hM18]; exact hCM15.put (r := 9) (k := 8) rfl (.inl (by omega))
  have hWM18 : qFr [9, 10, 11, 12, 13, 14, 15, 16, 17, 18, 19, 20, 21, 22, 23, 24, 25] M M18 := by rw [hM18]; exact hWM15.put (by decide)
  have e19 : M18 26 8 = M15 26 8 := by rw [hM18]; exact qput_ne (by decide)
  have e20 : M18 9 8 = (M15 26 8) := by rw [hM18]; exact qput_eq
  show zG n (0, 0) d 26 (96, [.inr (.inr (some 9)), .inr (.inr (some 26))], []) M18 _
  have r21 := hCM18.rng 26 9 (by decide) (by decide)
  refine zG_w (c' := (101, [.inr (.inr (some 9)), .inr (.inr (some 26))], [.inl (M18 26 9), .inr (.inr (some 9))])) 3 hd0 hz (by rfl) ?_
  refine zG_putf (.inl rfl) hd0 hz rfl (by decide) rfl rfl ?_
  obtain ⟨M22, hM22⟩ : ∃ X : zM, X = zput M18 9 9 (M18 26 9) := ⟨_, rfl⟩
  rw [← hM22]
  have hCM22 : qCI M22 := by rw [hM22]; exact hCM18.put (r := 9) (k := 9) rfl (.inl (by omega))
  have hWM22 : qFr [9, 10, 11, 12, 13, 14, 15, 16, 17, 18, 19, 20, 21, 22, 23, 24, 25] M M22 := by rw [hM22]; exact hWM18.put (by decide)
  have e23 : M22 26 8 = M18 26 8 := by rw [hM22]; exact qput_ne (by decide)
  have e24 : M22 9 8 = M18 9 8 := by rw [hM22]; exact qput_nk (by decide)
  have e25 : M22 26 9 = M18 26 9 := by rw [hM22]; exact qput_ne (by decide)
  have e26 : M22 9 9 = (M18 26 9) := by rw [hM22]; exact qput_eq
  show zG n (0, 0) d 26 (104, [.inr (.inr (some 9)), .inr (.inr (some 26))], []) M22 _
  exact zG_wr (r := none) 0 hd0 hz (by rfl) ⟨⟨hCM22, hWM22⟩, rfl⟩
theorem qm_26_9_43 {n d : Nat} {M : zM} (hd : 2 ≤ d) (hC : qCI M)  : qOkM n d 26 [.inr (.inr (some 9)), .inr (.inr (some 43))] 2 qCI [9, 10, 11, 12, 13, 14, 15, 16, 17, 18, 19, 20, 21, 22, 23, 24, 25] M qRn := by
  have hz := zp_26
  have hd0 : 0 < d := by omega
  have hW : qFr [9, 10, 11, 12, 13, 14, 15, 16, 17, 18, 19, 20, 21, 22, 23, 24, 25] M M := qFr.rfl
  show zG n (0, 0) d 26 (0, [.inr (.inr (some 9)), .inr (.inr (some 43))], []) M _
  refine zG_wv (pc := 11) (L := [.inr (.inr (some 9)), .inr (.inr (some 43))]) (st := []) 4 hd0 hz zp_110 (qw_takeOver (by first | exact zdk hd rfl | omega) hC (⟨by decide, rfl, rfl⟩ : qT n 10 14 4) (⟨by decide, rfl, rfl⟩ : qT n 44 14 4) ) (by rfl) (fun M1 hr => ?_)
  obtain ⟨hCM1, hFM1⟩ := hr
  have hWM1 : qFr [9, 10, 11, 12, 13, 14, 15, 16, 17, 18, 19, 20, 21, 22, 23, 24, 25] M M1 := hW.tr hFM1 (by decide)
  refine zG_wv (pc := 22) (L := [.inr (.inr (some 9)), .inr (.inr (some 43))]) (st := []) 4 hd0 hz zp_110 (qw_takeOver (by first | exact zdk hd rfl | omega) hCM1 (⟨by decide, rfl, rfl⟩ : qT n 12 20 3) (⟨by decide, rfl, rfl⟩ : qT n 46 20 3) ) (by rfl) (fun M3 hr => ?_)
  obtain ⟨hCM3, hFM3⟩ := hr
  have hWM3 : qFr [9, 10, 11, 12, 13, 14, 15, 16, 17, 18, 19, 20, 21, 22, 23, 24, 25] M M3 := hWM1.tr hFM3 (by decide)
  refine zG_wv (pc := 33) (L := [.inr (.inr (some 9)), .inr (.inr (some 43))]) (st := []) 4 hd0 hz zp_110 (qw_takeOver (by first | exact zdk hd rfl | omega) hCM3 (⟨by decide, rfl, rfl⟩ : qT n 14 4 2) (⟨by decide, rfl, rfl⟩ : qT n 48 4 2) ) (by rfl) (fun M5 hr => ?_)
  obtain ⟨hCM5, hFM5⟩ := hr
  have hWM5 : qFr [9, 10, 11, 12, 13, 14, 15, 16, 17, 18, 19, 20, 21, 22, 23, 24, 25] M M5 := hWM3.tr hFM5 (by decide)
  refine zG_wv (pc := 44) (L := [.inr (.inr (some 9)), .inr (.inr (some 43))]) (st := []) 4 hd0 hz zp_110 (qw_takeOver (by first | exact zdk hd rfl | omega) hCM5 (⟨by decide, rfl, rfl⟩ : qT n 16 40 5) (⟨by decide, rfl, rfl⟩ : qT n 50 40 5) ) (by rfl) (fun M7 hr => ?_)
  obtain ⟨hCM7, hFM7⟩ := hr
  have hWM7 : qFr [9, 10, 11, 12, 13, 14, 15, 16, 17, 18, 19, 20, 21, 22, 23, 24, 25] M M7 := hWM5.tr hFM7 (by decide)
  refine zG_wv (pc := 55) (L := [.inr (.inr (some 9)), .inr (.inr (some 43))]) (st := []) 4 hd0 hz zp_110 (qw_takeOver (by first | exact zdk hd rfl | omega) hCM7 (⟨by decide, rfl, rfl⟩ : qT n 18 250 11) (⟨by decide, rfl, rfl⟩ : qT n 52 250 11) ) (by rfl) (fun M9 hr => ?_)
  obtain ⟨hCM9, hFM9⟩ := hr
  have hWM9 : qFr [9, 10, 11, 12, 13, 14, 15, 16, 17, 18, 19, 20, 21, 22, 23, 24, 25] M M9 := hWM7.tr hFM9 (by decide)
  refine zG_wv (pc := 66) (L := [.inr (.inr (some 9)), .inr (.inr (some 43))]) (st := []) 4 hd0 hz zp_110 (qw_takeOver (by first | exact zdk hd rfl | omega) hCM9 (⟨by decide, rfl, rfl⟩ : qT n 20 8 81) (⟨by decide, rfl, rfl⟩ : qT n 54 8 81) ) (by rfl) (fun M11 hr => ?_)
  obtain ⟨hCM11, hFM11⟩ := hr
  have hWM11 : qFr [9, 10, 11, 12, 13, 14, 15, 16, 17, 18, 19, 20, 21, 22, 23, 24, 25] M M11 := hWM9.tr hFM11 (by decide)
  refine zG_wv (pc := 77) (L := [.inr (.inr (some 9)), .inr (.inr (some 43))]) (st := []) 4 hd0 hz zp_110 (qw_takeOver (by first | exact zdk hd rfl | omega) hCM11 (⟨by decide, rfl, rfl⟩ : qT n 22 10 164) (⟨by decide, rfl, rfl⟩ : qT n 56 10 164) ) (by rfl) (fun M13 hr => ?_)
  obtain ⟨hCM13, hFM13⟩ := hr
  have hWM13 : qFr [9, 10, 11, 12, 13, 14, 15, 16, 17, 18, 19, 20, 21, 22, 23, 24, 25] M M13 := hWM11.tr hFM13 (by decide)
  refine zG_wv (pc := 88) (L := [.inr (.inr (some 9)), .inr (.inr (some 43))]) (st := []) 4 hd0 hz zp_110 (qw_takeOver (by first | exact zdk hd rfl | omega) hCM13 (⟨by decide, rfl, rfl⟩ : qT n 24 12 2) (⟨by decide, rfl, rfl⟩ : qT n 58 12 2) ) (by rfl) (fun M15 hr => ?_)
  obtain ⟨hCM15, hFM15⟩ := hr
  have hWM15 : qFr [9, 10, 11, 12, 13, 14, 15, 16, 17, 18, 19, 20, 21, 22, 23, 24, 25] M M15 := hWM13.tr hFM15 (by decide)
  have r17 := hCM15.rng 43 8 (by decide) (by decide)
  refine zG_w (c' := (93, [.inr (.inr (some 9)), .inr (.inr (some 43))], [.inl (M15 43 8), .inr (.inr (some 9))])) 3 hd0 hz (by rfl) ?_
  refine zG_putf (.inl rfl) hd0 hz rfl (by decide) rfl rfl ?_
  obtain ⟨M18, hM18⟩ : ∃ X : zM, X = zput M15 9 8 (M15 43 8) := ⟨_, rfl⟩
  rw [← hM18]
  have hCM18 : qCI M18 := by rw [hM18]; exact hCM15.put (r := 9) (k := 8) rfl (.inl (by omega))
  have hWM18 : qFr [9, 10, 11, 12, 13, 14, 15, 16, 17, 18, 19, 20, 21, 22, 23, 24, 25] M M18 := by rw [hM18]; exact hWM15.put (by decide)
  have e19 : M18 43 8 = M15 43 8 := by rw [hM18]; exact qput_ne (by decide)
  have e20 : M18 9 8 = (M15 43 8) := by rw [hM18]; exact qput_eq
  show zG n (0, 0) d 26 (96, [.inr (.inr (some 9)), .inr (.inr (some 43))], []) M18 _
  have r21 := hCM18.rng 43 9 (by decide) (by decide)
  refine zG_w (c' := (101, [.inr (.inr (some 9)), .inr (.inr (some 43))], [.inl (M18 43 9), .inr (.inr (some 9))])) 3 hd0 hz (by rfl) ?_
  refine zG_putf (.inl rfl) hd0 hz rfl (by decide) rfl rfl ?_
  obtain ⟨M22, hM22⟩ : ∃ X : zM, X = zput M18 9 9 (M18 43 9) := ⟨_, rfl⟩
  rw [← hM22]
  have hCM22 : qCI M22 := by rw [hM22]; exact hCM18.put (r := 9) (k := 9) rfl (.inl (by omega))
  have hWM22 : qFr [9, 10, 11, 12, 13, 14, 15, 16, 17, 18, 19, 20, 21, 22, 23, 24, 25] M M22 := by rw [hM22]; exact hWM18.put (by decide)
  have e23 : M22 43 8 = M18 43 8 := by rw [hM22]; exact qput_ne (by decide)
  have e24 : M22 9 8 = M18 9 8 := by rw [hM22]; exact qput_nk (by decide)
  have e25 : M22 43 9 = M18 43 9 := by rw [hM22]; exact qput_ne (by decide)
  have e26 : M22 9 9 = (M18 43 9) := by rw [hM22]; exact qput_eq
  show zG n (0, 0) d 26 (104, [.inr (.inr (some 9)), .inr (.inr (some 43))], []) M22 _
  exact zG_wr (r := none) 0 hd0 hz (by rfl) ⟨⟨hCM22, hWM22⟩, rfl⟩
theorem qm_166_8 {n d : Nat} {M : zM} (hd : 3 ≤ d) (hC : qCI M) (a1 : Int) (ha1 : (-2147483648) ≤ a1 ∧ a1 ≤ 2147483647) : qOkM n d 166 [.inr (.inr (some 8)), .inl a1] 2 qCI [9, 10, 11, 12, 13, 14, 15, 16, 17, 18, 19, 20, 21, 22, 23, 24, 25] M (qRi (fun x => (-3) ≤ x ∧ x ≤ 1)) := by
  have hz := zp_166
  have hd0 : 0 < d := by omega
  have hW : qFr [9, 10, 11, 12, 13, 14, 15, 16, 17, 18, 19, 20, 21, 22, 23, 24, 25] M M := qFr.rfl
  show zG n (0, 0) d 166 (0, [.inr (.inr (some 8)), .inl a1], []) M _
  refine zG_wp (pc := 6) (L := [.inr (.inr (some 8)), .inl a1]) (st := []) 3 hd0 hz zp_169 (qm_169 (by first | exact zdk hd rfl | omega) hC  a1 (by first | with_reducible exact ha1 | omega) 0 (by first | decide | omega) 1 (by first | decide | omega)) (by rfl) (fun x2 hx2 => ?_)
  refine zG_wf_ne (pc := 6) (n' := 9) (t := 12) (L := [.inr (.inr (some 8)), .inl a1]) (st := []) (x := x2) 0 hd0 hz (by rfl) (fun hb3 => ?_) (fun hb3 => ?_)
  · have r4 := hC.rng 8 3 (by decide) (by decide)
    obtain ⟨x5, hx5⟩ : ∃ x : Int, x = zbshr (M 8 3) a1 := ⟨_, rfl⟩
    have hx5r : qin x5 := by rw [hx5]; exact qb32 _
    obtain ⟨x6, hx6⟩ : ∃ x : Int, x = zband x5 1 := ⟨_, rfl⟩
    have hx6r := qband_r x5 1 (by first | decide | omega) (by omega); rw [← hx6] at hx6r
    refine zG_wf_ne (pc := 20) (n' := 23) (t := 26) (L := [.inr (.inr (some 8)), .inl a1]) (st := []) (x := x6) 6 hd0 hz (by subst hx6; subst hx5; rfl) (fun hb7 => ?_) (fun hb7 => ?_)
    · refine zG_wc (c1 := (35, [.inr (.inr (some 8)), .inl a1], [.inr (.inr (some 9))])) 4 hd0 hz zp_176 (qm_176_8 (by first | exact zdk hd rfl | omega) hC  a1 (by first | with_reducible exact ha1 | omega)) (by rfl) (fun vr M8 hr => ?_)
      obtain ⟨hq, hv⟩ := hr
      replace hq := hq.symm; subst hq
      rcases hv with rfl | rfl
      · show zG n (0, 0) d 166 (35, [.inr (.inr (some 8)), .inl a1], [.inr (.inr (some 26)), .inr (.inr (some 9))]) M _
        refine zG_wv (pc := 38) (L := [.inr (.inr (some 8)), .inl a1]) (st := []) 0 hd0 hz zp_26 (qm_26_9_26 (by first | exact zdk hd rfl | omega) hC  ) (by rfl) (fun M10 hr => ?_)
        obtain ⟨hCM10, hFM10⟩ := hr
        have hWM10 : qFr [9, 10, 11, 12, 13, 14, 15, 16, 17, 18, 19, 20, 21, 22, 23, 24, 25] M M10 := hW.tr hFM10 (by decide)
        have e12 : M10 8 3 = M 8 3 := hFM10 8 3 (by decide)
        exact zG_wr (r := some (.inl 1)) 1 hd0 hz (by rfl) ⟨⟨hCM10, hWM10⟩, _, rfl, by omega⟩
      · show zG n (0, 0) d 166 (35, [.inr (.inr (some 8)), .inl a1], [.inr (.inr (some 43)), .inr (.inr (some 9))]) M _
        refine zG_wv (pc := 38) (L := [.inr (.inr (some 8)), .inl a1]) (st := []) 0 hd0 hz zp_26 (qm_26_9_43 (by first | exact zdk hd rfl | omega) hC  ) (by rfl) (fun M13 hr => ?_)
        obtain ⟨hCM13, hFM13⟩ := hr
        have hWM13 : qFr [9, 10, 11, 12, 13, 14, 15, 16, 17, 18, 19, 20, 21, 22, 23, 24, 25] M M13 := hW.tr hFM13 (by decide)
        have e15 : M13 8 3 = M 8 3 := hFM13 8 3 (by decide)
        exact zG_wr (r := some (.inl 1)) 1 hd0 hz (by rfl) ⟨⟨hCM13, hWM13⟩, _, rfl, by omega⟩
    · exact zG_wr (r := some (.inl (-3))) 1 hd0 hz (by rfl) ⟨⟨hC, hW⟩, _, rfl, by omega⟩
  · exact zG_wr (r := some (.inl (-2))) 1 hd0 hz (by rfl) ⟨⟨hC, hW⟩, _, rfl, by omega⟩
theorem qm_22_9 {n d : Nat} {M : zM} (hd : 3 ≤ d) (hC : qCI M)  : qOkP n d 22 [.inr (.inr (some 9))] 3 M (qRi (fun x => (-2147483648) ≤ x ∧ x ≤ 2147483647)) := by
  have hz := zp_22
  have hd0 : 0 < d := by omega
  show zG n (0, 0) d 22 (0, [.inr (.inr (some 9)), zN, zN], []) M _
  refine zG_w (c' := (4, [.inr (.inr (some 9)), .inl 0, .inl 0], [])) 4 hd0 hz (by rfl) ?_
  have j4 : ∀ (N : Nat) (v1 v2 : Int) , (40 - v2 : Int).toNat < N → (-2147483648) ≤ v1 ∧ v1 ≤ 2147483647 → 0 ≤ v2 ∧ v2 ≤ 40 → zG n (0, 0) d 22 (4, [.inr (.inr (some 9)), .inl v1, .inl v2], []) M (fun v M' => M' = M ∧ qRi (fun x => (-2147483648) ≤ x ∧ x ≤ 2147483647) v) := by
    intro N
    induction N with
    | zero => intro v1 v2 hN hv1 hv2; exact absurd hN (Nat.not_lt_zero _)
    | succ N ih4 =>
      intro v1 v2 hN hv1 hv2
      replace hN : 40 - v2 < (N : Int) + 1 := by omega
      refine zG_wp (pc := 12) (L := [.inr (.inr (some 9)), .inl v1, .inl v2]) (st := [.inl v2]) 3 hd0 hz zp_101 (qw_size (by first | exact zdk hd rfl | omega) hC (⟨by decide, rfl, rfl⟩ : qT n 16 40 5) ) (by rfl) (fun x4 hx4 => ?_)
      refine zG_wi_ge (pc := 12) (n' := 15) (t := 32) (L := [.inr (.inr (some 9)), .inl v1, .inl v2]) (st := []) (x := v2) (y := x4) 0 hd0 hz (by rfl) (fun hb5 => ?_) (fun hb5 => ?_)
      · exact zG_wr (r := some (.inl v1)) 1 hd0 hz (by rfl) ⟨rfl, _, rfl, by omega⟩
      · refine zG_wp (pc := 20) (L := [.inr (.inr (some 9)), .inl v1, .inl v2]) (st := []) 2 hd0 hz zp_20 (qm_20_9 (by first | exact zdk hd rfl | omega) hC  v2 (by first | with_reducible exact hv2 | omega)) (by rfl) (fun x7 hx7 => ?_)
        have j26 : ∀ (v8 : Int) , (-2147483648) ≤ v8 ∧ v8 ≤ 2147483647 → zG n (0, 0) d 22 (26, [.inr (.inr (some 9)), .inl v8, .inl v2], []) M (fun v M' => M' = M ∧ qRi (fun x => (-2147483648) ≤ x ∧ x ≤ 2147483647) v) := by
          intro v8 hv8
          obtain ⟨x9, hx9⟩ : ∃ x : Int, x = w32 (v2 + 1) := ⟨_, rfl⟩
          have hx9e : x9 = v2 + 1 := by rw [hx9]; exact w32_id (by omega)
          refine zG_w (c' := (4, [.inr (.inr (some 9)), .inl v8, .inl x9], [])) 2 hd0 hz (by subst hx9; rfl) ?_
          exact ih4 v8 x9 (by omega) (by omega) (by omega)
        refine zG_wf_eq (pc := 20) (n' := 23) (t := 26) (L := [.inr (.inr (some 9)), .inl v1, .inl v2]) (st := []) (x := x7) 0 hd0 hz (by rfl) (fun hb10 => ?_) (fun hb10 => ?_)
        · exact j26 v1 (by first | with_reducible exact hv1 | omega)
        · obtain ⟨x11, hx11⟩ : ∃ x : Int, x = w32 (v1 + 1) := ⟨_, rfl⟩
          have hx11r : x11 = (v1 + 1 + 2147483648) % 4294967296 - 2147483648 := hx11
          refine zG_w (c' := (26, [.inr (.inr (some 9)), .inl x11, .inl v2], [])) 1 hd0 hz (by subst hx11; rfl) ?_
          exact j26 x11 (by omega)
  exact j4 ((40 - 0 : Int).toNat + 1) 0 0 (by first | decide | omega) (by omega) (by omega)
theorem qm_21_9 {n d : Nat} {M : zM} (hd : 4 ≤ d) (hC : qCI M) (a1 : Int) (ha1 : (-2147483648) ≤ a1 ∧ a1 ≤ 2147483647) : qOkP n d 21 [.inr (.inr (some 9)), .inl a1] 2 M (qRi (fun x => (-2147483648) ≤ x ∧ x ≤ 2147483647)) := by
  have hz := zp_21
  have hd0 : 0 < d := by omega
  show zG n (0, 0) d 21 (0, [.inr (.inr (some 9)), .inl a1], []) M _
  refine zG_w (c' := (1, [.inr (.inr (some 9)), .inl a1], [.inl a1])) 1 hd0 hz (by rfl) ?_
  have j44 : zG n (0, 0) d 21 (44, [.inr (.inr (some 9)), .inl a1], []) M (fun v M' => M' = M ∧ qRi (fun x => (-2147483648) ≤ x ∧ x ≤ 2147483647) v) := by
    refine zG_wp (pc := 51) (L := [.inr (.inr (some 9)), .inl a1]) (st := []) 2 hd0 hz zp_101 (qw_size (by first | exact zdk hd rfl | omega) hC (⟨by decide, rfl, rfl⟩ : qT n 10 14 4) ) (by rfl) (fun x2 hx2 => ?_)
    exact zG_wr (r := some (.inl x2)) 0 hd0 hz (by rfl) ⟨rfl, _, rfl, by omega⟩
  have j52 : zG n (0, 0) d 21 (52, [.inr (.inr (some 9)), .inl a1], []) M (fun v M' => M' = M ∧ qRi (fun x => (-2147483648) ≤ x ∧ x ≤ 2147483647) v) := by
    refine zG_wp (pc := 59) (L := [.inr (.inr (some 9)), .inl a1]) (st := []) 2 hd0 hz zp_101 (qw_size (by first | exact zdk hd rfl | omega) hC (⟨by decide, rfl, rfl⟩ : qT n 12 20 3) ) (by rfl) (fun x4 hx4 => ?_)
    exact zG_wr (r := some (.inl x4)) 0 hd0 hz (by rfl) ⟨rfl, _, rfl, by omega⟩
  have j60 : zG n (0, 0) d 21 (60, [.inr (.inr (some 9)), .inl a1], []) M (fun v M' => M' = M ∧ qRi (fun x => (-2147483648) ≤ x ∧ x ≤ 2147483647) v) := by
    refine zG_wp (pc := 67) (L := [.inr (.inr (some 9)), .inl a1]) (st := []) 2 hd0 hz zp_101 (qw_size (by first | exact zdk hd rfl | omega) hC (⟨by decide, rfl, rfl⟩ : qT n 14 4 2) ) (by rfl) (fun x6 hx6 => ?_)
    exact zG_wr (r := some (.inl x6)) 0 hd0 hz (by rfl) ⟨rfl, _, rfl, by omega⟩
  have j68 : zG n (0, 0) d 21 (68, [.inr (.inr (some 9)), .inl a1], []) M (fun v M' => M' = M ∧ qRi (fun x => (-2147483648) ≤ x ∧ x ≤ 2147483647) v) := by
    refine zG_wp (pc := 75) (L := [.inr (.inr (some 9)), .inl a1]) (st := []) 2 hd0 hz zp_101 (qw_size (by first | exact zdk hd rfl | omega) hC (⟨by decide, rfl, rfl⟩ : qT n 16 40 5) ) (by rfl) (fun x8 hx8 => ?_)
    exact zG_wr (r := some (.inl x8)) 0 hd0 hz (by rfl) ⟨rfl, _, rfl, by omega⟩
  have j76 : zG n (0, 0) d 21 (76, [.inr (.inr (some 9)), .inl a1], []) M (fun v M' => M' = M ∧ qRi (fun x => (-2147483648) ≤ x ∧ x ≤ 2147483647) v) := by
    refine zG_wp (pc := 83) (L := [.inr (.inr (some 9)), .inl a1]) (st := []) 2 hd0 hz zp_101 (qw_size (by first | exact zdk hd rfl | omega) hC (⟨by decide, rfl, rfl⟩ : qT n 18 250 11) ) (by rfl) (fun x10 hx10 => ?_)
    exact zG_wr (r := some (.inl x10)) 0 hd0 hz (by rfl) ⟨rfl, _, rfl, by omega⟩
  have j84 : zG n (0, 0) d 21 (84, [.inr (.inr (some 9)), .inl a1], []) M (fun v M' => M' = M ∧ qRi (fun x => (-2147483648) ≤ x ∧ x ≤ 2147483647) v) := by
    refine zG_wp (pc := 91) (L := [.inr (.inr (some 9)), .inl a1]) (st := []) 2 hd0 hz zp_101 (qw_size (by first | exact zdk hd rfl | omega) hC (⟨by decide, rfl, rfl⟩ : qT n 22 10 164) ) (by rfl) (fun x12 hx12 => ?_)
    exact zG_wr (r := some (.inl x12)) 0 hd0 hz (by rfl) ⟨rfl, _, rfl, by omega⟩
  have j92 : zG n (0, 0) d 21 (92, [.inr (.inr (some 9)), .inl a1], []) M (fun v M' => M' = M ∧ qRi (fun x => (-2147483648) ≤ x ∧ x ≤ 2147483647) v) := by
    refine zG_wp (pc := 99) (L := [.inr (.inr (some 9)), .inl a1]) (st := []) 2 hd0 hz zp_101 (qw_size (by first | exact zdk hd rfl | omega) hC (⟨by decide, rfl, rfl⟩ : qT n 24 12 2) ) (by rfl) (fun x14 hx14 => ?_)
    exact zG_wr (r := some (.inl x14)) 0 hd0 hz (by rfl) ⟨rfl, _, rfl, by omega⟩
  have j100 : zG n (0, 0) d 21 (100, [.inr (.inr (some 9)), .inl a1], []) M (fun v M' => M' = M ∧ qRi (fun x => (-2147483648) ≤ x ∧ x ≤ 2147483647) v) := by
    refine zG_wp (pc := 104) (L := [.inr (.inr (some 9)), .inl a1]) (st := []) 1 hd0 hz zp_22 (qm_22_9 (by first | exact zdk hd rfl | omega) hC  ) (by rfl) (fun x16 hx16 => ?_)
    exact zG_wr (r := some (.inl x16)) 0 hd0 hz (by rfl) ⟨rfl, _, rfl, by omega⟩
  refine zG_sw hd0 hz rfl ?_
  refine zts_all (P := fun t => zG n (0, 0) d 21 (t, [.inr (.inr (some 9)), .inl a1], []) M _) ?_ ?_
  · exact j100
  · intro t ht
    simp only [List.mem_cons, List.not_mem_nil, or_false] at ht
    rcases ht with rfl | rfl | rfl | rfl | rfl | rfl | rfl
    · exact j44
    · exact j52
    · exact j60
    · exact j68
    · exact j76
    · exact j84
    · exact j92
theorem qm_167_8 {n d : Nat} {M : zM} (hd : 5 ≤ d) (hC : qCI M) (a1 : Int) (ha1 : (-2147483648) ≤ a1 ∧ a1 ≤ 2147483647) : qOkP n d 167 [.inr (.inr (some 8)), .inl a1] 2 M (qRi (fun x => (-2147483648) ≤ x ∧ x ≤ 2147483647)) := by
  have hz := zp_167
  have hd0 : 0 < d := by omega
  show zG n (0, 0) d 167 (0, [.inr (.inr (some 8)), .inl a1], []) M _
  refine zG_wp (pc := 7) (L := [.inr (.inr (some 8)), .inl a1]) (st := []) 3 hd0 hz zp_169 (qm_169 (by first | exact zdk hd rfl | omega) hC  a1 (by first | with_reducible exact ha1 | omega) 0 (by first | decide | omega) 7 (by first | decide | omega)) (by rfl) (fun x2 hx2 => ?_)
  have j23 : ∀ (v3 : Int) , (-2147483648) ≤ v3 ∧ v3 ≤ 2147483647 → zG n (0, 0) d 167 (23, [.inr (.inr (some 8)), .inl a1], [.inl v3]) M (fun v M' => M' = M ∧ qRi (fun x => (-2147483648) ≤ x ∧ x ≤ 2147483647) v) := by
    intro v3 hv3
    exact zG_wr (r := some (.inl v3)) 0 hd0 hz (by rfl) ⟨rfl, _, rfl, by omega⟩
  refine zG_wf_eq (pc := 7) (n' := 10) (t := 21) (L := [.inr (.inr (some 8)), .inl a1]) (st := []) (x := x2) 0 hd0 hz (by rfl) (fun hb4 => ?_) (fun hb4 => ?_)
  · refine zG_w (c' := (23, [.inr (.inr (some 8)), .inl a1], [.inl (-2)])) 1 hd0 hz (by rfl) ?_
    exact j23 (-2) (by first | decide | omega)
  · refine zG_wp (pc := 18) (L := [.inr (.inr (some 8)), .inl a1]) (st := []) 3 hd0 hz zp_21 (qm_21_9 (by first | exact zdk hd rfl | omega) hC  a1 (by first | with_reducible exact ha1 | omega)) (by rfl) (fun x6 hx6 => ?_)
    refine zG_w (c' := (23, [.inr (.inr (some 8)), .inl a1], [.inl x6])) 1 hd0 hz (by rfl) ?_
    exact j23 x6 (by omega)
theorem qm_24_10 {n d : Nat} {M : zM} (hd : 2 ≤ d) (hC : qCI M) (a0 : Int) (a2 : Int) (ha2 : (-2147483648) ≤ a2 ∧ a2 ≤ 2147483647) : qOkP n d 24 [.inr (.inl (a0)), .inr (.inr (some 10)), .inl a2] 8 M qRl := by
  have hz := zp_24
  have hd0 : 0 < d := by omega
  show zG n (0, 0) d 24 (0, [.inr (.inl (a0)), zN, .inr (.inr (some 10)), .inl a2, zN, zN, zN, zN], []) M _
  refine zG_w (c' := (6, [.inr (.inl (a0)), zN, .inr (.inr (some 10)), .inl a2, .inr (.inl (a0)), zN, .inl 0, zN], [])) 4 hd0 hz (by rfl) ?_
  have j6 : ∀ (N : Nat) (v1 v2 : Int) , (1000 - v2 : Int).toNat < N → 0 ≤ v2 ∧ v2 ≤ 14 → zG n (0, 0) d 24 (6, [.inr (.inl (a0)), zN, .inr (.inr (some 10)), .inl a2, .inr (.inl (v1)), zN, .inl v2, zN], []) M (fun v M' => M' = M ∧ qRl v) := by
    intro N
    induction N with
    | zero => intro v1 v2 hN hv2; exact absurd hN (Nat.not_lt_zero _)
    | succ N ih6 =>
      intro v1 v2 hN hv2
      replace hN : 1000 - v2 < (N : Int) + 1 := by omega
      refine zG_wp (pc := 12) (L := [.inr (.inl (a0)), zN, .inr (.inr (some 10)), .inl a2, .inr (.inl (v1)), zN, .inl v2, zN]) (st := [.inl v2]) 2 hd0 hz zp_101 (qw_size (by first | exact zdk hd rfl | omega) hC (⟨by decide, rfl, rfl⟩ : qT n 10 14 4) ) (by rfl) (fun x4 hx4 => ?_)
      refine zG_wi_ge (pc := 12) (n' := 15) (t := 54) (L := [.inr (.inl (a0)), zN, .inr (.inr (some 10)), .inl a2, .inr (.inl (v1)), zN, .inl v2, zN]) (st := []) (x := v2) (y := x4) 0 hd0 hz (by rfl) (fun hb5 => ?_) (fun hb5 => ?_)
      · exact zG_wr (r := some (.inr (.inl (v1)))) 1 hd0 hz (by rfl) ⟨rfl, _, rfl⟩
      · refine zG_w (c' := (18, [.inr (.inl (a0)), zN, .inr (.inr (some 10)), .inl a2, .inr (.inl (v1)), zN, .inl v2, .inl 0], [])) 2 hd0 hz (by rfl) ?_
        have j18 : ∀ (N : Nat) (v6 v7 : Int) , (a2 - v7 : Int).toNat < N → 0 ≤ v7 ∧ v7 ≤ 2147483647 → zG n (0, 0) d 24 (18, [.inr (.inl (a0)), zN, .inr (.inr (some 10)), .inl a2, .inr (.inl (v6)), zN, .inl v2, .inl v7], []) M (fun v M' => M' = M ∧ qRl v) := by
          intro N
          induction N with
          | zero => intro v6 v7 hN hv7; exact absurd hN (Nat.not_lt_zero _)
          | succ N ih18 =>
            intro v6 v7 hN hv7
            replace hN : a2 - v7 < (N : Int) + 1 := by omega
            refine zG_wi_ge (pc := 21) (n' := 24) (t := 48) (L := [.inr (.inl (a0)), zN, .inr (.inr (some 10)), .inl a2, .inr (.inl (v6)), zN, .inl v2, .inl v7]) (st := []) (x := v7) (y := a2) 2 hd0 hz (by rfl) (fun hb8 => ?_) (fun hb8 => ?_)
            · obtain ⟨x9, hx9⟩ : ∃ x : Int, x = w32 (v2 + 1) := ⟨_, rfl⟩
              have hx9e : x9 = v2 + 1 := by rw [hx9]; exact w32_id (by omega)
              refine zG_w (c' := (6, [.inr (.inl (a0)), zN, .inr (.inr (some 10)), .inl a2, .inr (.inl (v6)), zN, .inl x9, .inl v7], [])) 2 hd0 hz (by subst hx9; rfl) ?_
              exact zG_weak (ih6 v6 x9 (by omega) (by omega)) ⟨.inr rfl, .inr rfl, .inr rfl, .inr rfl, .inr rfl, .inr rfl, .inr rfl, .inl rfl, trivial⟩
            · obtain ⟨x10, hx10⟩ : ∃ x : Int, x = w64 (31 * v6) := ⟨_, rfl⟩
              refine zG_wp (pc := 38) (L := [.inr (.inl (a0)), zN, .inr (.inr (some 10)), .inl a2, .inr (.inl (v6)), zN, .inl v2, .inl v7]) (st := [.inr (.inl (x10))]) 6 hd0 hz zp_106 (qw_get (by first | exact zdk hd rfl | omega) hC (⟨by decide, rfl, rfl⟩ : qT n 10 14 4) v2 (by first | with_reducible exact hv2 | omega) v7 (by first | with_reducible exact hv7 | omega)) (by subst hx10; rfl) (fun x12 hx12 => ?_)
              obtain ⟨x13, hx13⟩ : ∃ x : Int, x = w64 (x10 + x12) := ⟨_, rfl⟩
              obtain ⟨x14, hx14⟩ : ∃ x : Int, x = w32 (v7 + 1) := ⟨_, rfl⟩
              have hx14e : x14 = v7 + 1 := by rw [hx14]; exact w32_id (by omega)
              refine zG_w (c' := (18, [.inr (.inl (a0)), zN, .inr (.inr (some 10)), .inl a2, .inr (.inl (x13)), zN, .inl v2, .inl x14], [])) 5 hd0 hz (by subst hx14; subst hx13; rfl) ?_
              exact ih18 x13 x14 (by omega) (by omega)
        exact j18 ((a2 - 0 : Int).toNat + 1) v1 0 (by first | decide | omega) (by omega)
  exact j6 ((1000 - 0 : Int).toNat + 1) a0 0 (by first | decide | omega) (by omega)
theorem qm_24_12 {n d : Nat} {M : zM} (hd : 2 ≤ d) (hC : qCI M) (a0 : Int) (a2 : Int) (ha2 : (-2147483648) ≤ a2 ∧ a2 ≤ 2147483647) : qOkP n d 24 [.inr (.inl (a0)), .inr (.inr (some 12)), .inl a2] 8 M qRl := by
  have hz := zp_24
  have hd0 : 0 < d := by omega
  show zG n (0, 0) d 24 (0, [.inr (.inl (a0)), zN, .inr (.inr (some 12)), .inl a2, zN, zN, zN, zN], []) M _
  refine zG_w (c' := (6, [.inr (.inl (a0)), zN, .inr (.inr (some 12)), .inl a2, .inr (.inl (a0)), zN, .inl 0, zN], [])) 4 hd0 hz (by rfl) ?_
  have j6 : ∀ (N : Nat) (v1 v2 : Int) , (1000 - v2 : Int).toNat < N → 0 ≤ v2 ∧ v2 ≤ 20 → zG n (0, 0) d 24 (6, [.inr (.inl (a0)), zN, .inr (.inr (some 12)), .inl a2, .inr (.inl (v1)), zN, .inl v2, zN], []) M (fun v M' => M' = M ∧ qRl v) := by
    intro N
    induction N with
    | zero => intro v1 v2 hN hv2; exact absurd hN (Nat.not_lt_zero _)
    | succ N ih6 =>
      intro v1 v2 hN hv2
      replace hN : 1000 - v2 < (N : Int) + 1 := by omega
      refine zG_wp (pc := 12) (L := [.inr (.inl (a0)), zN, .inr (.inr (some 12)), .inl a2, .inr (.inl (v1)), zN, .inl v2, zN]) (st := [.inl v2]) 2 hd0 hz zp_101 (qw_size (by first | exact zdk hd rfl | omega) hC (⟨by decide, rfl, rfl⟩ : qT n 12 20 3) ) (by rfl) (fun x4 hx4 => ?_)
      refine zG_wi_ge (pc := 12) (n' := 15) (t := 54) (L := [.inr (.inl (a0)), zN, .inr (.inr (some 12)), .inl a2, .inr (.inl (v1)), zN, .inl v2, zN]) (st := []) (x := v2) (y := x4) 0 hd0 hz (by rfl) (fun hb5 => ?_) (fun hb5 => ?_)
      · exact zG_wr (r := some (.inr (.inl (v1)))) 1 hd0 hz (by rfl) ⟨rfl, _, rfl⟩
      · refine zG_w (c' := (18, [.inr (.inl (a0)), zN, .inr (.inr (some 12)), .inl a2, .inr (.inl (v1)), zN, .inl v2, .inl 0], [])) 2 hd0 hz (by rfl) ?_
        have j18 : ∀ (N : Nat) (v6 v7 : Int) , (a2 - v7 : Int).toNat < N → 0 ≤ v7 ∧ v7 ≤ 2147483647 → zG n (0, 0) d 24 (18, [.inr (.inl (a0)), zN, .inr (.inr (some 12)), .inl a2, .inr (.inl (v6)), zN, .inl v2, .inl v7], []) M (fun v M' => M' = M ∧ qRl v) := by
          intro N
          induction N with
          | zero => intro v6 v7 hN hv7; exact absurd hN (Nat.not_lt_zero _)
          | succ N ih18 =>
            intro v6 v7 hN hv7
            replace hN : a2 - v7 < (N : Int) + 1 := by omega
            refine zG_wi_ge (pc := 21) (n' := 24) (t := 48) (L := [.inr (.inl (a0)), zN, .inr (.inr (some 12)), .inl a2, .inr (.inl (v6)), zN, .inl v2, .inl v7]) (st := []) (x := v7) (y := a2) 2 hd0 hz (by rfl) (fun hb8 => ?_) (fun hb8 => ?_)
            · obtain ⟨x9, hx9⟩ : ∃ x : Int, x = w32 (v2 + 1) := ⟨_, rfl⟩
              have hx9e : x9 = v2 + 1 := by rw [hx9]; exact w32_id (by omega)
              refine zG_w (c' := (6, [.inr (.inl (a0)), zN, .inr (.inr (some 12)), .inl a2, .inr (.inl (v6)), zN, .inl x9, .inl v7], [])) 2 hd0 hz (by subst hx9; rfl) ?_
              exact zG_weak (ih6 v6 x9 (by omega) (by omega)) ⟨.inr rfl, .inr rfl, .inr rfl, .inr rfl, .inr rfl, .inr rfl, .inr rfl, .inl rfl, trivial⟩
            · obtain ⟨x10, hx10⟩ : ∃ x : Int, x = w64 (31 * v6) := ⟨_, rfl⟩
              refine zG_wp (pc := 38) (L := [.inr (.inl (a0)), zN, .inr (.inr (some 12)), .inl a2, .inr (.inl (v6)), zN, .inl v2, .inl v7]) (st := [.inr (.inl (x10))]) 6 hd0 hz zp_106 (qw_get (by first | exact zdk hd rfl | omega) hC (⟨by decide, rfl, rfl⟩ : qT n 12 20 3) v2 (by first | with_reducible exact hv2 | omega) v7 (by first | with_reducible exact hv7 | omega)) (by subst hx10; rfl) (fun x12 hx12 => ?_)
              obtain ⟨x13, hx13⟩ : ∃ x : Int, x = w64 (x10 + x12) := ⟨_, rfl⟩
              obtain ⟨x14, hx14⟩ : ∃ x : Int, x = w32 (v7 + 1) := ⟨_, rfl⟩
              have hx14e : x14 = v7 + 1 := by rw [hx14]; exact w32_id (by omega)
              refine zG_w (c' := (18, [.inr (.inl (a0)), zN, .inr (.inr (some 12)), .inl a2, .inr (.inl (x13)), zN, .inl v2, .inl x14], [])) 5 hd0 hz (by subst hx14; subst hx13; rfl) ?_
              exact ih18 x13 x14 (by omega) (by omega)
        exact j18 ((a2 - 0 : Int).toNat + 1) v1 0 (by first | decide | omega) (by omega)
  exact j6 ((1000 - 0 : Int).toNat + 1) a0 0 (by first | decide | omega) (by omega)
theorem qm_24_16 {n d : Nat} {M : zM} (hd : 2 ≤ d) (hC : qCI M) (a0 : Int) (a2 : Int) (ha2 : (-2147483648) ≤ a2 ∧ a2 ≤ 2147483647) : qOkP n d 24 [.inr (.inl (a0)), .inr (.inr (some 16)), .inl a2] 8 M qRl := by
  have hz := zp_24
  have hd0 : 0 < d := by omega
  show zG n (0, 0) d 24 (0, [.inr (.inl (a0)), zN, .inr (.inr (some 16)), .inl a2, zN, zN, zN, zN], []) M _
  refine zG_w (c' := (6, [.inr (.inl (a0)), zN, .inr (.inr (some 16)), .inl a2, .inr (.inl (a0)), zN, .inl 0, zN], [])) 4 hd0 hz (by rfl) ?_
  have j6 : ∀ (N : Nat) (v1 v2 : Int) , (1000 - v2 : Int).toNat < N → 0 ≤ v2 ∧ v2 ≤ 40 → zG n (0, 0) d 24 (6, [.inr (.inl (a0)), zN, .inr (.inr (some 16)), .inl a2, .inr (.inl (v1)), zN, .inl v2, zN], []) M (fun v M' => M' = M ∧ qRl v) := by
    intro N
    induction N with
    | zero => intro v1 v2 hN hv2; exact absurd hN (Nat.not_lt_zero _)
    | succ N ih6 =>
      intro v1 v2 hN hv2
      replace hN : 1000 - v2 < (N : Int) + 1 := by omega
      refine zG_wp (pc := 12) (L := [.inr (.inl (a0)), zN, .inr (.inr (some 16)), .inl a2, .inr (.inl (v1)), zN, .inl v2, zN]) (st := [.inl v2]) 2 hd0 hz zp_101 (qw_size (by first | exact zdk hd rfl | omega) hC (⟨by decide, rfl, rfl⟩ : qT n 16 40 5) ) (by rfl) (fun x4 hx4 => ?_)
      refine zG_wi_ge (pc := 12) (n' := 15) (t := 54) (L := [.inr (.inl (a0)), zN, .inr (.inr (some 16)), .inl a2, .inr (.inl (v1)), zN, .inl v2, zN]) (st := []) (x := v2) (y := x4) 0 hd0 hz (by rfl) (fun hb5 => ?_) (fun hb5 => ?_)
      · exact zG_wr (r := some (.inr (.inl (v1)))) 1 hd0 hz (by rfl) ⟨rfl, _, rfl⟩
      · refine zG_w (c' := (18, [.inr (.inl (a0)), zN, .inr (.inr (some 16)), .inl a2, .inr (.inl (v1)), zN, .inl v2, .inl 0], [])) 2 hd0 hz (by rfl) ?_
        have j18 : ∀ (N : Nat) (v6 v7 : Int) , (a2 - v7 : Int).toNat < N → 0 ≤ v7 ∧ v7 ≤ 2147483647 → zG n (0, 0) d 24 (18, [.inr (.inl (a0)), zN, .inr (.inr (some 16)), .inl a2, .inr (.inl (v6)), zN, .inl v2, .inl v7], []) M (fun v M' => M' = M ∧ qRl v) := by
          intro N
          induction N with
          | zero => intro v6 v7 hN hv7; exact absurd hN (Nat.not_lt_zero _)
          | succ N ih18 =>
            intro v6 v7 hN hv7
            replace hN : a2 - v7 < (N : Int) + 1 := by omega
            refine zG_wi_ge (pc := 21) (n' := 24) (t := 48) (L := [.inr (.inl (a0)), zN, .inr (.inr (some 16)), .inl a2, .inr (.inl (v6)), zN, .inl v2, .inl v7]) (st := []) (x := v7) (y := a2) 2 hd0 hz (by rfl) (fun hb8 => ?_) (fun hb8 => ?_)
            · obtain ⟨x9, hx9⟩ : ∃ x : Int, x = w32 (v2 + 1) := ⟨_, rfl⟩
              have hx9e : x9 = v2 + 1 := by rw [hx9]; exact w32_id (by omega)
              refine zG_w (c' := (6, [.inr (.inl (a0)), zN, .inr (.inr (some 16)), .inl a2, .inr (.inl (v6)), zN, .inl x9, .inl v7], [])) 2 hd0 hz (by subst hx9; rfl) ?_
              exact zG_weak (ih6 v6 x9 (by omega) (by omega)) ⟨.inr rfl, .inr rfl, .inr rfl, .inr rfl, .inr rfl, .inr rfl, .inr rfl, .inl rfl, trivial⟩
            · obtain ⟨x10, hx10⟩ : ∃ x : Int, x = w64 (31 * v6) := ⟨_, rfl⟩
              refine zG_wp (pc := 38) (L := [.inr (.inl (a0)), zN, .inr (.inr (some 16)), .inl a2, .inr (.inl (v6)), zN, .inl v2, .inl v7]) (st := [.inr (.inl (x10))]) 6 hd0 hz zp_106 (qw_get (by first | exact zdk hd rfl | omega) hC (⟨by decide, rfl, rfl⟩ : qT n 16 40 5) v2 (by first | with_reducible exact hv2 | omega) v7 (by first | with_reducible exact hv7 | omega)) (by subst hx10; rfl) (fun x12 hx12 => ?_)
              obtain ⟨x13, hx13⟩ : ∃ x : Int, x = w64 (x10 + x12) := ⟨_, rfl⟩
              obtain ⟨x14, hx14⟩ : ∃ x : Int, x = w32 (v7 + 1) := ⟨_, rfl⟩
              have hx14e : x14 = v7 + 1 := by rw [hx14]; exact w32_id (by omega)
              refine zG_w (c' := (18, [.inr (.inl (a0)), zN, .inr (.inr (some 16)), .inl a2, .inr (.inl (x13)), zN, .inl v2, .inl x14], [])) 5 hd0 hz (by subst hx14; subst hx13; rfl) ?_
              exact ih18 x13 x14 (by omega) (by omega)
        exact j18 ((a2 - 0 : Int).toNat + 1) v1 0 (by first | decide | omega) (by omega)
  exact j6 ((1000 - 0 : Int).toNat + 1) a0 0 (by first | decide | omega) (by omega)
theorem qm_24_18 {n d : Nat} {M : zM} (hd : 2 ≤ d) (hC : qCI M) (a0 : Int) (a2 : Int) (ha2 : (-2147483648) ≤ a2 ∧ a2 ≤ 2147483647) : qOkP n d 24 [.inr (.inl (a0)), .inr (.inr (some 18)), .inl a2] 8 M qRl := by
  have hz := zp_24
  have hd0 : 0 < d := by omega
  show zG n (0, 0) d 24 (0, [.inr (.inl (a0)), zN, .inr (.inr (some 18)), .inl a2, zN, zN, zN, zN], []) M _
  refine zG_w (c' := (6, [.inr (.inl (a0)), zN, .inr (.inr (some 18)), .inl a2, .inr (.inl (a0)), zN, .inl 0, zN], [])) 4 hd0 hz (by rfl) ?_
  have j6 : ∀ (N : Nat) (v1 v2 : Int) , (1000 - v2 : Int).toNat < N → 0 ≤ v2 ∧ v2 ≤ 250 → zG n (0, 0) d 24 (6, [.inr (.inl (a0)), zN, .inr (.inr (some 18)), .inl a2, .inr (.inl (v1)), zN, .inl v2, zN], []) M (fun v M' => M' = M ∧ qRl v) := by
    intro N
    induction N with
    | zero => intro v1 v2 hN hv2; exact absurd hN (Nat.not_lt_zero _)
    | succ N ih6 =>
      intro v1 v2 hN hv2
      replace hN : 1000 - v2 < (N : Int) + 1 := by omega
      refine zG_wp (pc := 12) (L := [.inr (.inl (a0)), zN, .inr (.inr (some 18)), .inl a2, .inr (.inl (v1)), zN, .inl v2, zN]) (st := [.inl v2]) 2 hd0 hz zp_101 (qw_size (by first | exact zdk hd rfl | omega) hC (⟨by decide, rfl, rfl⟩ : qT n 18 250 11) ) (by rfl) (fun x4 hx4 => ?_)
      refine zG_wi_ge (pc := 12) (n' := 15) (t := 54) (L := [.inr (.inl (a0)), zN, .inr (.inr (some 18)), .inl a2, .inr (.inl (v1)), zN, .inl v2, zN]) (st := []) (x := v2) (y := x4) 0 hd0 hz (by rfl) (fun hb5 => ?_) (fun hb5 => ?_)
      · exact zG_wr (r := some (.inr (.inl (v1)))) 1 hd0 hz (by rfl) ⟨rfl, _, rfl⟩
      · refine zG_w (c' := (18, [.inr (.inl (a0)), zN, .inr (.inr (some 18)), .inl a2, .inr (.inl (v1)), zN, .inl v2, .inl 0], [])) 2 hd0 hz (by rfl) ?_
        have j18 : ∀ (N : Nat) (v6 v7 : Int) , (a2 - v7 : Int).toNat < N → 0 ≤ v7 ∧ v7 ≤ 2147483647 → zG n (0, 0) d 24 (18, [.inr (.inl (a0)), zN, .inr (.inr (some 18)), .inl a2, .inr (.inl (v6)), zN, .inl v2, .inl v7], []) M (fun v M' => M' = M ∧ qRl v) := by
          intro N
          induction N with
          | zero => intro v6 v7 hN hv7; exact absurd hN (Nat.not_lt_zero _)
          | succ N ih18 =>
            intro v6 v7 hN hv7
            replace hN : a2 - v7 < (N : Int) + 1 := by omega
            refine zG_wi_ge (pc := 21) (n' := 24) (t := 48) (L := [.inr (.inl (a0)), zN, .inr (.inr (some 18)), .inl a2, .inr (.inl (v6)), zN, .inl v2, .inl v7]) (st := []) (x := v7) (y := a2) 2 hd0 hz (by rfl) (fun hb8 => ?_) (fun hb8 => ?_)
            · obtain ⟨x9, hx9⟩ : ∃ x : Int, x = w32 (v2 + 1) := ⟨_, rfl⟩
              have hx9e : x9 = v2 + 1 := by rw [hx9]; exact w32_id (by omega)
              refine zG_w (c' := (6, [.inr (.inl (a0)), zN, .inr (.inr (some 18)), .inl a2, .inr (.inl (v6)), zN, .inl x9, .inl v7], [])) 2 hd0 hz (by subst hx9; rfl) ?_
              exact zG_weak (ih6 v6 x9 (by omega) (by omega)) ⟨.inr rfl, .inr rfl, .inr rfl, .inr rfl, .inr rfl, .inr rfl, .inr rfl, .inl rfl, trivial⟩
            · obtain ⟨x10, hx10⟩ : ∃ x : Int, x = w64 (31 * v6) := ⟨_, rfl⟩
              refine zG_wp (pc := 38) (L := [.inr (.inl (a0)), zN, .inr (.inr (some 18)), .inl a2, .inr (.inl (v6)), zN, .inl v2, .inl v7]) (st := [.inr (.inl (x10))]) 6 hd0 hz zp_106 (qw_get (by first | exact zdk hd rfl | omega) hC (⟨by decide, rfl, rfl⟩ : qT n 18 250 11) v2 (by first | with_reducible exact hv2 | omega) v7 (by first | with_reducible exact hv7 | omega)) (by subst hx10; rfl) (fun x12 hx12 => ?_)
              obtain ⟨x13, hx13⟩ : ∃ x : Int, x = w64 (x10 + x12) := ⟨_, rfl⟩
              obtain ⟨x14, hx14⟩ : ∃ x : Int, x = w32 (v7 + 1) := ⟨_, rfl⟩
              have hx14e : x14 = v7 + 1 := by rw [hx14]; exact w32_id (by omega)
              refine zG_w (c' := (18, [.inr (.inl (a0)), zN, .inr (.inr (some 18)), .inl a2, .inr (.inl (x13)), zN, .inl v2, .inl x14], [])) 5 hd0 hz (by subst hx14; subst hx13; rfl) ?_
              exact ih18 x13 x14 (by omega) (by omega)
        exact j18 ((a2 - 0 : Int).toNat + 1) v1 0 (by first | decide | omega) (by omega)
  exact j6 ((1000 - 0 : Int).toNat + 1) a0 0 (by first | decide | omega) (by omega)
theorem qm_25_9 {n d : Nat} {M : zM} (hd : 2 ≤ d) (hC : qCI M) (a1 : Int) : qOkP n d 25 [.inr (.inr (some 9)), .inr (.inl (a1))] 8 M qRl := by
  have hz := zp_25
  have hd0 : 0 < d := by omega
  show zG n (0, 0) d 25 (0, [.inr (.inr (some 9)), .inr (.inl (a1)), zN, zN, zN, zN, zN, zN], []) M _
  refine zG_w (c' := (5, [.inr (.inr (some 9)), .inr (.inl (a1)), zN, .inr (.inl (a1)), zN, .inl 0, zN, zN], [])) 4 hd0 hz (by rfl) ?_
  have j5 : ∀ (N : Nat) (v1 v2 : Int) , (8 - v2 : Int).toNat < N → 0 ≤ v2 ∧ v2 ≤ 8 → zG n (0, 0) d 25 (5, [.inr (.inr (some 9)), .inr (.inl (a1)), zN, .inr (.inl (v1)), zN, .inl v2, zN, zN], []) M (fun v M' => M' = M ∧ qRl v) := by
    intro N
    induction N with
    | zero => intro v1 v2 hN hv2; exact absurd hN (Nat.not_lt_zero _)
    | succ N ih5 =>
      intro v1 v2 hN hv2
      replace hN : 8 - v2 < (N : Int) + 1 := by omega
      refine zG_wi_ge (pc := 9) (n' := 12) (t := 84) (L := [.inr (.inr (some 9)), .inr (.inl (a1)), zN, .inr (.inl (v1)), zN, .inl v2, zN, zN]) (st := []) (x := v2) (y := 8) 2 hd0 hz (by rfl) (fun hb3 => ?_) (fun hb3 => ?_)
      · exact zG_wr (r := some (.inr (.inl (v1)))) 1 hd0 hz (by rfl) ⟨rfl, _, rfl⟩
      · refine zG_wp (pc := 22) (L := [.inr (.inr (some 9)), .inr (.inl (a1)), zN, .inr (.inl (v1)), zN, .inl v2, zN, zN]) (st := []) 4 hd0 hz zp_106 (qw_get (by first | exact zdk hd rfl | omega) hC (⟨by decide, rfl, rfl⟩ : qT n 20 8 81) v2 (by first | with_reducible exact hv2 | omega) 0 (by first | decide | omega)) (by rfl) (fun x5 hx5 => ?_)
        obtain ⟨x6, hx6⟩ : ∃ x : Int, x = w64 (31 * v1) := ⟨_, rfl⟩
        obtain ⟨x7, hx7⟩ : ∃ x : Int, x = w64 (x6 + x5) := ⟨_, rfl⟩
        refine zG_w (c' := (37, [.inr (.inr (some 9)), .inr (.inl (a1)), zN, .inr (.inl (x7)), zN, .inl v2, .inl x5, .inl 0], [])) 10 hd0 hz (by subst hx7; subst hx6; rfl) ?_
        have j37 : ∀ (N : Nat) (v8 v9 : Int) , (80 - v9 : Int).toNat < N → 0 ≤ v9 ∧ v9 ≤ 80 → zG n (0, 0) d 25 (37, [.inr (.inr (some 9)), .inr (.inl (a1)), zN, .inr (.inl (v8)), zN, .inl v2, .inl x5, .inl v9], []) M (fun v M' => M' = M ∧ qRl v) := by
          intro N
          induction N with
          | zero => intro v8 v9 hN hv9; exact absurd hN (Nat.not_lt_zero _)
          | succ N ih37 =>
            intro v8 v9 hN hv9
            replace hN : 80 - v9 < (N : Int) + 1 := by omega
            refine zG_w (c' := (41, [.inr (.inr (some 9)), .inr (.inl (a1)), zN, .inr (.inl (v8)), zN, .inl v2, .inl x5, .inl v9], [.inl x5, .inl v9])) 2 hd0 hz (by rfl) ?_
            have j78 : zG n (0, 0) d 25 (78, [.inr (.inr (some 9)), .inr (.inl (a1)), zN, .inr (.inl (v8)), zN, .inl v2, .inl x5, .inl v9], []) M (fun v M' => M' = M ∧ qRl v) := by
              obtain ⟨x10, hx10⟩ : ∃ x : Int, x = w32 (v2 + 1) := ⟨_, rfl⟩
              have hx10e : x10 = v2 + 1 := by rw [hx10]; exact w32_id (by omega)
              refine zG_w (c' := (5, [.inr (.inr (some 9)), .inr (.inl (a1)), zN, .inr (.inl (v8)), zN, .inl x10, .inl x5, .inl v9], [])) 2 hd0 hz (by subst hx10; rfl) ?_
              exact zG_weak (ih5 v8 x10 (by omega) (by omega)) ⟨.inr rfl, .inr rfl, .inr rfl, .inr rfl, .inr rfl, .inr rfl, .inl rfl, .inl rfl, trivial⟩
            refine zG_wi_ge (pc := 41) (n' := 44) (t := 78) (L := [.inr (.inr (some 9)), .inr (.inl (a1)), zN, .inr (.inl (v8)), zN, .inl v2, .inl x5, .inl v9]) (st := []) (x := v9) (y := x5) 0 hd0 hz (by rfl) (fun hb11 => ?_) (fun hb11 => ?_)
            · exact j78
            · refine zG_wi_ge (pc := 48) (n' := 51) (t := 78) (L := [.inr (.inr (some 9)), .inr (.inl (a1)), zN, .inr (.inl (v8)), zN, .inl v2, .inl x5, .inl v9]) (st := []) (x := v9) (y := 80) 2 hd0 hz (by rfl) (fun hb12 => ?_) (fun hb12 => ?_)
              · exact j78
              · obtain ⟨x13, hx13⟩ : ∃ x : Int, x = w64 (31 * v8) := ⟨_, rfl⟩
                obtain ⟨x14, hx14⟩ : ∃ x : Int, x = w32 (1 + v9) := ⟨_, rfl⟩
                have hx14e : x14 = 1 + v9 := by rw [hx14]; exact w32_id (by omega)
                refine zG_wp (pc := 69) (L := [.inr (.inr (some 9)), .inr (.inl (a1)), zN, .inr (.inl (v8)), zN, .inl v2, .inl x5, .inl v9]) (st := [.inr (.inl (x13))]) 9 hd0 hz zp_106 (qw_get (by first | exact zdk hd rfl | omega) hC (⟨by decide, rfl, rfl⟩ : qT n 20 8 81) v2 (by first | with_reducible exact hv2 | omega) x14 (by omega)) (by subst hx14; subst hx13; rfl) (fun x16 hx16 => ?_)
                obtain ⟨x17, hx17⟩ : ∃ x : Int, x = w64 (x13 + x16) := ⟨_, rfl⟩
                obtain ⟨x18, hx18⟩ : ∃ x : Int, x = w32 (v9 + 1) := ⟨_, rfl⟩
                have hx18e : x18 = v9 + 1 := by rw [hx18]; exact w32_id (by omega)
                refine zG_w (c' := (37, [.inr (.inr (some 9)), .inr (.inl (a1)), zN, .inr (.inl (x17)), zN, .inl v2, .inl x5, .inl x18], [])) 5 hd0 hz (by subst hx18; subst hx17; rfl) ?_
                exact ih37 x17 x18 (by omega) (by omega)
        exact j37 ((80 - 0 : Int).toNat + 1) x7 0 (by first | decide | omega) (by omega)
  exact j5 ((8 - 0 : Int).toNat + 1) a1 0 (by first | decide | omega) (by omega)
theorem qm_23_9 {n d : Nat} {M : zM} (hd : 5 ≤ d) (hC : qCI M)  : qOkP n d 23 [.inr (.inr (some 9))] 4 M qRl := by
  have hz := zp_23
  have hd0 : 0 < d := by omega
  show zG n (0, 0) d 23 (0, [.inr (.inr (some 9)), zN, zN, zN], []) M _
  refine zG_w (c' := (6, [.inr (.inr (some 9)), .inr (.inl (283)), zN, .inl 0], [])) 4 hd0 hz (by rfl) ?_
  have j6 : ∀ (N : Nat) (v1 v2 : Int) , (8 - v2 : Int).toNat < N → 0 ≤ v2 ∧ v2 ≤ 8 → zG n (0, 0) d 23 (6, [.inr (.inr (some 9)), .inr (.inl (v1)), zN, .inl v2], []) M (fun v M' => M' = M ∧ qRl v) := by
    intro N
    induction N with
    | zero => intro v1 v2 hN hv2; exact absurd hN (Nat.not_lt_zero _)
    | succ N ih6 =>
      intro v1 v2 hN hv2
      replace hN : 8 - v2 < (N : Int) + 1 := by omega
      refine zG_wi_gt (pc := 9) (n' := 12) (t := 31) (L := [.inr (.inr (some 9)), .inr (.inl (v1)), zN, .inl v2]) (st := []) (x := v2) (y := 7) 2 hd0 hz (by rfl) (fun hb3 => ?_) (fun hb3 => ?_)
      · refine zG_wl (pc := 40) (L := [.inr (.inr (some 9)), .inr (.inl (v1)), zN, .inl v2]) (st := []) 4 hd0 hz zp_24 (qm_24_10 (by first | exact zdk hd rfl | omega) hC  v1 4 (by first | decide | omega)) (by rfl) (fun x5 => ?_)
        refine zG_wl (pc := 50) (L := [.inr (.inr (some 9)), .inr (.inl (x5)), zN, .inl v2]) (st := []) 5 hd0 hz zp_24 (qm_24_12 (by first | exact zdk hd rfl | omega) hC  x5 3 (by first | decide | omega)) (by rfl) (fun x7 => ?_)
        refine zG_wl (pc := 60) (L := [.inr (.inr (some 9)), .inr (.inl (x7)), zN, .inl v2]) (st := []) 5 hd0 hz zp_24 (qm_24_16 (by first | exact zdk hd rfl | omega) hC  x7 5 (by first | decide | omega)) (by rfl) (fun x9 => ?_)
        refine zG_wl (pc := 71) (L := [.inr (.inr (some 9)), .inr (.inl (x9)), zN, .inl v2]) (st := []) 5 hd0 hz zp_24 (qm_24_18 (by first | exact zdk hd rfl | omega) hC  x9 8 (by first | decide | omega)) (by rfl) (fun x11 => ?_)
        refine zG_wl (pc := 77) (L := [.inr (.inr (some 9)), .inr (.inl (x11)), zN, .inl v2]) (st := []) 3 hd0 hz zp_25 (qm_25_9 (by first | exact zdk hd rfl | omega) hC  x11) (by rfl) (fun x13 => ?_)
        obtain ⟨x14, hx14⟩ : ∃ x : Int, x = w64 (31 * x13) := ⟨_, rfl⟩
        have r15 := hC.rng 9 8 (by decide) (by decide)
        obtain ⟨x16, hx16⟩ : ∃ x : Int, x = w64 (x14 + (M 9 8)) := ⟨_, rfl⟩
        obtain ⟨x17, hx17⟩ : ∃ x : Int, x = w64 (31 * x16) := ⟨_, rfl⟩
        have r18 := hC.rng 9 9 (by decide) (by decide)
        obtain ⟨x19, hx19⟩ : ∃ x : Int, x = w64 (x17 + (M 9 9)) := ⟨_, rfl⟩
        exact zG_wr (r := some (.inr (.inl (x19)))) 16 hd0 hz (by subst hx19; subst hx17; subst hx16; subst hx14; rfl) ⟨rfl, _, rfl⟩
      · obtain ⟨x20, hx20⟩ : ∃ x : Int, x = w64 (31 * v1) := ⟨_, rfl⟩
        refine zG_wp (pc := 22) (L := [.inr (.inr (some 9)), .inr (.inl (v1)), zN, .inl v2]) (st := [.inr (.inl (x20))]) 5 hd0 hz zp_21 (qm_21_9 (by first | exact zdk hd rfl | omega) hC  v2 (by first | with_reducible exact hv2 | omega)) (by subst hx20; rfl) (fun x22 hx22 => ?_)
        obtain ⟨x23, hx23⟩ : ∃ x : Int, x = w64 (x20 + x22) := ⟨_, rfl⟩
        obtain ⟨x24, hx24⟩ : ∃ x : Int, x = w32 (v2 + 1) := ⟨_, rfl⟩
        have hx24e : x24 = v2 + 1 := by rw [hx24]; exact w32_id (by omega)
        refine zG_w (c' := (6, [.inr (.inr (some 9)), .inr (.inl (x23)), zN, .inl x24], [])) 5 hd0 hz (by subst hx24; subst hx23; rfl) ?_
        exact ih6 x23 x24 (by omega) (by omega)
  exact j6 ((8 - 0 : Int).toNat + 1) 283 0 (by first | decide | omega) (by omega)
theorem qm_168_8 {n d : Nat} {M : zM} (hd : 6 ≤ d) (hC : qCI M)  : qOkP n d 168 [.inr (.inr (some 8))] 1 M qRl := by
  have hz := zp_168
  have hd0 : 0 < d := by omega
  show zG n (0, 0) d 168 (0, [.inr (.inr (some 8))], []) M _
  refine zG_wl (pc := 7) (L := [.inr (.inr (some 8))]) (st := []) 2 hd0 hz zp_23 (qm_23_9 (by first | exact zdk hd rfl | omega) hC  ) (by rfl) (fun x2 => ?_)
  exact zG_wr (r := some (.inr (.inl (x2)))) 0 hd0 hz (by rfl) ⟨rfl, _, rfl⟩
