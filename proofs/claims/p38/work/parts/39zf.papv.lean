/-! HOURS: THE CALLS -/

section PV
variable {M M' Mo : zM}
noncomputable def hOkk (Mo : zM) (a1 a2 : Int) : Prop := (0 ≤ a1 ∧ a1 ≤ ((2 ^ (Mo 98 0).toNat : Nat) : Int) - 1) ∧ 1 ≤ a2 ∧ a2 ≤ 200
noncomputable def hSp (Mo : zM) (a1 a2 v : Int) (h : Nat → Int) : Prop := (¬ hOkk Mo a1 a2 ∧ v = -2) ∨ (hOkk Mo a1 a2 ∧ 9 < qpc 31 a1.toNat ∧ v = -3) ∨ (hOkk Mo a1 a2 ∧ qpc 31 a1.toNat ≤ 9 ∧ hFd Mo a1.toNat a2 v h)
theorem hSp_u {a1 a2 v v' : Int} {h h' : Nat → Int} (a : hSp Mo a1 a2 v h) (b : hSp Mo a1 a2 v' h') : v = v' := by
  rcases a with ⟨a1, a2⟩ | ⟨a1, a2, a3⟩ | ⟨a1, a2, a3⟩ <;> rcases b with ⟨b1, b2⟩ | ⟨b1, b2, b3⟩ | ⟨b1, b2, b3⟩
  · omega
  · exact absurd b1 a1
  · exact absurd b1 a1
  · exact absurd a1 b1
  · omega
  · omega
  · exact absurd a1 b1
  · omega
  · exact (hFd_u a3 b3).1
theorem p2_n (h : 0 ≤ Mo 98 0 ∧ Mo 98 0 ≤ 14) : w32 (zbshl 1 (Mo 98 0) - 1) = ((2 ^ (Mo 98 0).toNat : Nat) : Int) - 1 ∧ (1 ≤ 2 ^ (Mo 98 0).toNat ∧ 2 ^ (Mo 98 0).toNat ≤ 16384) := by
  have hp : 1 ≤ 2 ^ (Mo 98 0).toNat ∧ 2 ^ (Mo 98 0).toNat ≤ 16384 := ⟨Nat.one_le_two_pow, Nat.pow_le_pow_right (n := 2) (by decide) (show (Mo 98 0).toNat ≤ 14 by omega)⟩
  have q := k2p ⟨(Mo 98 0).toNat, by omega⟩
  dsimp only at q
  rw [show (((Mo 98 0).toNat : Nat) : Int) = Mo 98 0 by omega] at q
  rw [q]
  exact ⟨w32_id (by omega), hp⟩
theorem qpc_20 {m : Nat} (h : m < 16384) : qpc 20 m = qpc 31 m := by
  have q := qpc_st (m := m) (a := 20) (by have : (2 : Nat) ^ 20 = 1048576 := rfl; omega) 11
  exact q.symm
/-- where there is a paper, there are hours -/
theorem hFd_1 {m : Nat} {S v : Int} {h : Nat → Int} (a : hFd Mo m S v h) (h0 : 0 ≤ Mo 98 0) (hS : 1 ≤ S) (hn : 1 ≤ qpc (Mo 98 0).toNat m) : v ≠ 0 := by
  intro z
  rcases a with ⟨a1, a2⟩ | ⟨a1, ⟨a2, a3⟩ | ⟨a2, a3⟩⟩
  · omega
  · refine a3 (qpc (Mo 98 0).toNat m : Nat) (by omega) (by omega) ⟨_, PG_id (fun j hj => ?_) (by omega)⟩
    rcases Int.lt_or_le S (hbP Mo m j) with y | y
    · obtain ⟨d, d1, d2, d3⟩ := pl_is m (Mo 98 0).toNat j hj
      unfold hbP at y
      rw [d3] at y
      exact absurd ⟨d, by omega, d2, y⟩ a1
    · exact y
  · omega
/-- the hour of a course -/
noncomputable def hHo (Mo : zM) (a1 a2 a3 x : Int) : Prop := (¬ ((0 ≤ a3 ∧ a3 < Mo 98 0) ∧ zband (zbshr a1 a3) 1 = 1 ∧ hOkk Mo a1 a2) ∧ x = -2) ∨ (((0 ≤ a3 ∧ a3 < Mo 98 0) ∧ zband (zbshr a1 a3) 1 = 1 ∧ hOkk Mo a1 a2) ∧ ((9 < qpc 31 a1.toNat ∧ x = -3) ∨ (qpc 31 a1.toNat ≤ 9 ∧ ∃ (v : Int) (h : Nat → Int), hFd Mo a1.toNat a2 v h ∧ ((v = -1 ∧ x = -1) ∨ (v ≠ -1 ∧ x = h (qpc a3.toNat a1.toNat))))))
theorem p_idx {m : Nat} {n c : Nat} (hc : c < n) (hb : m / 2 ^ c % 2 = 1) : qpc c m < qpc n m := by
  have q := qpc_next c m
  have r := qpc_mono (v := m) (show c + 1 ≤ n by omega)
  omega
theorem hHo_u {A S c x x' : Int} (h0 : 0 ≤ Mo 98 0 ∧ Mo 98 0 ≤ 14) (a : hHo Mo A S c x) (b : hHo Mo A S c x') : x = x' := by
  rcases a with ⟨p1, p2⟩ | ⟨p1, p⟩ <;> rcases b with ⟨r1, r2⟩ | ⟨r1, r⟩
  · omega
  · exact absurd r1 p1
  · exact absurd p1 r1
  · rcases p with ⟨p2, p3⟩ | ⟨p2, v, h, p3, p4⟩ <;> rcases r with ⟨r2, r3⟩ | ⟨r2, v', h', r3, r4⟩
    · omega
    · omega
    · omega
    · have u := hFd_u p3 r3
      obtain ⟨c1, c2, c3⟩ := p1
      have pn := p2_n h0
      have c4 := c3.1
      have hb := qbit A c ⟨c4.1, by omega⟩ ⟨c1.1, by omega⟩
      rw [c2] at hb
      have ix := p_idx (m := A.toNat) (n := (Mo 98 0).toNat) (c := c.toNat) (by omega) (by omega)
      have v0 := hFd_1 p3 h0.1 c3.2.1 (by omega)
      rcases p4 with ⟨p4, p5⟩ | ⟨p4, p5⟩ <;> rcases r4 with ⟨r4, r5⟩ | ⟨r4, r5⟩
      · omega
      · have := u.1; omega
      · have := u.1; omega
      · have v1 : 1 ≤ v := by
          rcases p3 with ⟨z1, z2⟩ | ⟨z1, ⟨z2, z3⟩ | ⟨z2, z3⟩⟩ <;> omega
        rw [p5, r5]
        exact u.2 v1 _ ix
end PV
set_option maxRecDepth 100000 in
theorem fh_158_8 {n : Nat} {M : zM} (hC : qMI M) (hH : hHs M 9 (M 98)) (hT : hTb M) (a1 a2 : Int) : zH n (0, 0) 158 (0, zini [zR 8, .inl a1, .inl a2] 3, []) M (fun r M' => ∃ v : Int, r = some (.inl v) ∧ hSp M a1 a2 v (M' 89) ∧ (0 ≤ v → M' 87 5 = (qpc (M 98 0).toNat a1.toNat : Nat))) := by
  have hz := zp_158
  show zH n (0, 0) 158 (0, [zR 8, .inl a1, .inl a2], []) M _
  have hn0 := hC.cnt0
  have pn := p2_n hn0
  have k0 : M 10 3 = M 98 0 := hH.1.1
  refine zH_wE (c1 := (6, [zR 8, .inl a1, .inl a2], [.inl 0, .inl a1])) 3 hz zp_177 (fh_177_8) (by rfl) ?_
  show zH n (0, 0) 158 (6, [zR 8, .inl a1, .inl a2], [.inl (hf_177_8 M), .inl 0, .inl a1]) M _
  rw [show hf_177_8 M = ((2 ^ (M 98 0).toNat : Nat) : Int) - 1 from by
  unfold hf_177_8 hR_size
  rw [k0]
  exact pn.1]
  refine zH_wE (c1 := (9, [zR 8, .inl a1, .inl a2], [])) 0 hz zp_169 (fh_169 a1 0 (((2 ^ (M 98 0).toNat : Nat) : Int) - 1)) (by rfl) ?_
  show zH n (0, 0) 158 (9, [zR 8, .inl a1, .inl a2], [.inl (hf_169 M a1 0 (((2 ^ (M 98 0).toNat : Nat) : Int) - 1))]) M _
  obtain ⟨x1, hx1⟩ : ∃ x : Int, x = (hf_169 M a1 0 (((2 ^ (M 98 0).toNat : Nat) : Int) - 1)) := ⟨_, rfl⟩
  rw [← hx1]
  refine zH_if_eq hz rfl (fun hb9 => ?_) (fun hb9 => ?_)
  · skip
    rw [hx1, hq_169] at hb9
    have hno : ¬ hOkk M a1 a2 := fun q => hb9 q.1
    refine zH_w (c' := (25, [zR 8, .inl a1, .inl a2], [.inl (-2)])) 1 hz rfl ?_
    exact zH_wr (r := some (.inl (-2))) 0 hz (by rfl) (⟨-2, rfl, .inl ⟨hno, rfl⟩, fun z => absurd z (by decide)⟩)
  · skip
    rw [hx1, hq_169] at hb9
    refine zH_w (c' := (17, [zR 8, .inl a1, .inl a2], [.inl 200, .inl 1, .inl a2])) 3 hz rfl ?_
    refine zH_wE (c1 := (20, [zR 8, .inl a1, .inl a2], [])) 0 hz zp_169 (fh_169 a2 1 200) (by rfl) ?_
    show zH n (0, 0) 158 (20, [zR 8, .inl a1, .inl a2], [.inl (hf_169 M a2 1 200)]) M _
    obtain ⟨x2, hx2⟩ : ∃ x : Int, x = (hf_169 M a2 1 200) := ⟨_, rfl⟩
    rw [← hx2]
    refine zH_if_ne hz rfl (fun hb20 => ?_) (fun hb20 => ?_)
    · skip
      rw [hx2, hq_169] at hb20
      have hok : hOkk M a1 a2 := ⟨by omega, by omega⟩
      have hm : a1.toNat < 2 ^ (M 98 0).toNat := by have := hok.1; omega
      have hq20 := qpc_20 (m := a1.toNat) (by omega)
      refine zH_w (c' := (27, [zR 8, .inl a1, .inl a2], [.inl a1])) 1 hz rfl ?_
      refine zH_wE (c1 := (30, [zR 8, .inl a1, .inl a2], [])) 0 hz zp_296 (fh_296 a1) (by rfl) ?_
      show zH n (0, 0) 158 (30, [zR 8, .inl a1, .inl a2], [.inl (hf_296 M a1)]) M _
      rw [show hf_296 M a1 = (qpc 31 a1.toNat : Nat) from by rw [hbc20 (by have := hok.1; omega), hq20]]
      refine zH_w (c' := (32, [zR 8, .inl a1, .inl a2], [.inl 9, .inl ((qpc 31 a1.toNat : Nat) : Int)])) 1 hz rfl ?_
      refine zH_wi_le (pc := 32) (n' := 35) (t := 40) (L := [zR 8, .inl a1, .inl a2]) (st := []) (x := ((qpc 31 a1.toNat : Nat) : Int)) (y := 9) 0 hz (by rfl) (fun hb32 => ?_) (fun hb32 => ?_)
      · skip
        refine zH_wC (c1 := (49, [zR 8, .inl a1, .inl a2], [])) 4 hz zp_68 (fh_68_87 hC hH hT (fun _ _ => rfl) a1 a2 (by have := hok.1; omega) hm (by omega) hok.2.1) (by rfl) ?_
        rintro _ M1 ⟨v, rfl, -, hv, hn5⟩
        show zH n (0, 0) 158 (49, [zR 8, .inl a1, .inl a2], [.inl v]) M1 _
        refine zH_ret hz rfl rfl ?_
        first
          | exact ⟨-3, rfl, .inr (.inl ⟨hok, by omega, rfl⟩), fun z => absurd z (by decide)⟩
          | exact ⟨v, rfl, .inr (.inr ⟨hok, by omega, hv⟩), fun z => hn5 (by omega)⟩
      · skip
        have v := True.intro
        have hv := True.intro
        have hn5 := True.intro
        refine zH_w (c' := (49, [zR 8, .inl a1, .inl a2], [.inl (-3)])) 2 hz rfl ?_
        refine zH_ret hz rfl rfl ?_
        first
          | exact ⟨-3, rfl, .inr (.inl ⟨hok, by omega, rfl⟩), fun z => absurd z (by decide)⟩
          | exact ⟨v, rfl, .inr (.inr ⟨hok, by omega, hv⟩), fun z => hn5 (by omega)⟩
    · skip
      rw [hx2, hq_169] at hb20
      have hno : ¬ hOkk M a1 a2 := fun q => hb20 (fun h => h q.2)
      refine zH_w (c' := (25, [zR 8, .inl a1, .inl a2], [.inl (-2)])) 1 hz rfl ?_
      exact zH_wr (r := some (.inl (-2))) 0 hz (by rfl) (⟨-2, rfl, .inl ⟨hno, rfl⟩, fun z => absurd z (by decide)⟩)
theorem hb_r (x : Int) (h : qin x) : 0 ≤ zband x 1 ∧ zband x 1 ≤ 1 := qband_r x 1 h (by omega)
theorem p_low {a c : Int} (h1 : 0 ≤ a) (h2 : a ≤ 16384) (h3 : 0 ≤ c) (h4 : c ≤ 14) : zband a (w32 (zbshl 1 c - 1)) = ((a.toNat % 2 ^ c.toNat : Nat) : Int) := by
  have hp : 1 ≤ 2 ^ c.toNat ∧ 2 ^ c.toNat ≤ 16384 := ⟨Nat.one_le_two_pow, Nat.pow_le_pow_right (n := 2) (by decide) (show c.toNat ≤ 14 by omega)⟩
  have q := k2p ⟨c.toNat, by omega⟩
  dsimp only at q
  rw [show ((c.toNat : Nat) : Int) = c by omega] at q
  rw [q, w32_id (by omega), qband_N _ _ (by omega) (by omega), show (((2 ^ c.toNat : Nat) : Int) - 1).toNat = 2 ^ c.toNat - 1 by omega, Nat.and_two_pow_sub_one_eq_mod]
theorem p_lowc {M : zM} {a c : Nat} (h : a < 16384) (hc : c ≤ 14) : hf_296 M ((a % 2 ^ c : Nat) : Int) = ((qpc c a : Nat) : Int) := by
  have hp : 1 ≤ 2 ^ c ∧ 2 ^ c ≤ 16384 := ⟨Nat.one_le_two_pow, Nat.pow_le_pow_right (n := 2) (by decide) hc⟩
  have lt : a % 2 ^ c < 2 ^ c := Nat.mod_lt _ (by omega)
  rw [hbc20 (by omega), Int.toNat_natCast]
  have q := qpc_st (m := a % 2 ^ c) (a := c) lt (20 - c)
  rw [show c + (20 - c) = 20 by omega] at q
  have r := qpc_low c (a / 2 ^ c) (a % 2 ^ c)
  rw [Nat.div_add_mod] at r
  rw [q, r]
set_option maxRecDepth 100000 in
theorem fh_159_8 {n : Nat} {M : zM} (hC : qMI M) (hH : hHs M 9 (M 98)) (hT : hTb M) (a1 a2 a3 : Int) : zH n (0, 0) 159 (0, zini [zR 8, .inl a1, .inl a2, .inl a3] 5, []) M (fun r M' => ∃ x : Int, r = some (.inl x) ∧ hHo M a1 a2 a3 x) := by
  have hz := zp_159
  show zH n (0, 0) 159 (0, [zR 8, .inl a1, .inl a2, .inl a3, zN], []) M _
  have hn0 := hC.cnt0
  have pn := p2_n hn0
  have k0 : M 10 3 = M 98 0 := hH.1.1
  refine zH_wE (c1 := (5, [zR 8, .inl a1, .inl a2, .inl a3, zN], [])) 2 hz zp_175 (fh_175_8 a3) (by rfl) ?_
  show zH n (0, 0) 159 (5, [zR 8, .inl a1, .inl a2, .inl a3, zN], [.inl (hf_175_8 M a3)]) M _
  obtain ⟨x1, hx1⟩ : ∃ x : Int, x = (hf_175_8 M a3) := ⟨_, rfl⟩
  rw [← hx1]
  refine zH_if_eq hz rfl (fun hb5 => ?_) (fun hb5 => ?_)
  · skip
    rw [hx1, hq_175, k0] at hb5
    have hno : ¬ ((0 ≤ a3 ∧ a3 < M 98 0) ∧ zband (zbshr a1 a3) 1 = 1 ∧ hOkk M a1 a2) := fun q => hb5 q.1
    refine zH_w (c' := (18, [zR 8, .inl a1, .inl a2, .inl a3, zN], [.inl (-2)])) 1 hz rfl ?_
    exact zH_wr (r := some (.inl (-2))) 0 hz (by rfl) (⟨-2, rfl, .inl ⟨hno, rfl⟩⟩)
  · skip
    rw [hx1, hq_175, k0] at hb5
    have hc3 : 0 ≤ a3 ∧ a3 < M 98 0 := by omega
    have hbr := hb_r (zbshr a1 a3) (qb32 _)
    refine zH_w (c' := (13, [zR 8, .inl a1, .inl a2, .inl a3, zN], [.inl (zband (zbshr a1 a3) 1)])) 5 hz rfl ?_
    refine zH_wf_ne (pc := 13) (n' := 16) (t := 19) (L := [zR 8, .inl a1, .inl a2, .inl a3, zN]) (st := []) (x := (zband (zbshr a1 a3) 1)) 0 hz (by rfl) (fun hb13 => ?_) (fun hb13 => ?_)
    · skip
      have hb1 : zband (zbshr a1 a3) 1 = 1 := by omega
      refine zH_wC (c1 := (25, [zR 8, .inl a1, .inl a2, .inl a3, zN], [])) 3 hz zp_158 (fh_158_8 hC hH hT a1 a2) (by rfl) ?_
      rintro _ M1 ⟨v, rfl, hv, hn5a⟩
      show zH n (0, 0) 159 (25, [zR 8, .inl a1, .inl a2, .inl a3, zN], [.inl v]) M1 _
      refine zH_wf_ge (pc := 29) (n' := 32) (t := 37) (L := [zR 8, .inl a1, .inl a2, .inl a3, .inl v]) (st := []) (x := v) 2 hz (by rfl) (fun hb29 => ?_) (fun hb29 => ?_)
      · skip
        have h3 : hOkk M a1 a2 ∧ qpc 31 a1.toNat ≤ 9 ∧ hFd M a1.toNat a2 v (M1 89) := by
          rcases hv with ⟨h1, h2⟩ | ⟨h1, h2, h3⟩ | h
          · omega
          · omega
          · exact h
        have hok := h3.1
        have hq := qbit a1 a3 ⟨hok.1.1, by have := hok.1.2; omega⟩ ⟨hc3.1, by omega⟩
        rw [hb1] at hq
        have ix := p_idx (m := a1.toNat) (n := (M 98 0).toNat) (c := a3.toNat) (by omega) (by omega)
        have hn5 := hn5a hb29
        have n9 := p_n9 h3.2.1 (c := (M 98 0).toNat) (by omega)
        have hx := True.intro
        refine zH_w (c' := (48, [zR 8, .inl a1, .inl a2, .inl a3, .inl v], [.inl (zband a1 (w32 ((zbshl 1 a3) - 1))), zR 87])) 9 hz rfl ?_
        rw [show zband a1 (w32 ((zbshl 1 a3) - 1)) = ((a1.toNat % 2 ^ a3.toNat : Nat) : Int) from p_low hok.1.1 (by have := hok.1.2; omega) hc3.1 (by omega)]
        refine zH_wE (c1 := (51, [zR 8, .inl a1, .inl a2, .inl a3, .inl v], [zR 87])) 0 hz zp_296 (fh_296 ((a1.toNat % 2 ^ a3.toNat : Nat) : Int)) (by rfl) ?_
        show zH n (0, 0) 159 (51, [zR 8, .inl a1, .inl a2, .inl a3, .inl v], [.inl (hf_296 M1 ((a1.toNat % 2 ^ a3.toNat : Nat) : Int)), zR 87]) M1 _
        rw [show hf_296 M1 ((a1.toNat % 2 ^ a3.toNat : Nat) : Int) = ((qpc a3.toNat a1.toNat : Nat) : Int) from p_lowc (by have := hok.1; omega) (by omega)]
        refine zH_wE (c1 := (54, [zR 8, .inl a1, .inl a2, .inl a3, .inl v], [])) 0 hz zp_69 (fh_69_87 ((qpc a3.toNat a1.toNat : Nat) : Int)) (by rfl) ?_
        show zH n (0, 0) 159 (54, [zR 8, .inl a1, .inl a2, .inl a3, .inl v], [.inl (hf_69_87 M1 ((qpc a3.toNat a1.toNat : Nat) : Int))]) M1 _
        rw [show hf_69_87 M1 ((qpc a3.toNat a1.toNat : Nat) : Int) = M1 89 (qpc a3.toNat a1.toNat) from by unfold hf_69_87; rw [hn5, Int.toNat_natCast]; (repeat' split) <;> first | rfl | omega]
        refine zH_ret hz rfl rfl ?_
        first
          | exact ⟨v, rfl, hx⟩
          | exact ⟨_, rfl, .inr ⟨⟨hc3, hb1, hok⟩, .inr ⟨h3.2.1, v, _, h3.2.2, .inr ⟨by omega, rfl⟩⟩⟩⟩
      · skip
        have hx : hHo M a1 a2 a3 v := by
          rcases hv with ⟨h1, h2⟩ | ⟨h1, h2, h3⟩ | ⟨h1, h2, h3⟩
          · exact .inl ⟨fun q => h1 q.2.2, h2⟩
          · exact .inr ⟨⟨hc3, hb1, h1⟩, .inl ⟨h2, h3⟩⟩
          · refine .inr ⟨⟨hc3, hb1, h1⟩, .inr ⟨h2, v, _, h3, .inl ?_⟩⟩
            rcases h3 with ⟨z1, z2⟩ | ⟨z1, ⟨z2, z3⟩ | ⟨z2, z3⟩⟩ <;> omega
        have hok := True.intro
        have h3 := True.intro
        refine zH_w (c' := (54, [zR 8, .inl a1, .inl a2, .inl a3, .inl v], [.inl v])) 2 hz rfl ?_
        refine zH_ret hz rfl rfl ?_
        first
          | exact ⟨v, rfl, hx⟩
          | exact ⟨_, rfl, .inr ⟨⟨hc3, hb1, hok⟩, .inr ⟨h3.2.1, v, _, h3.2.2, .inr ⟨by omega, rfl⟩⟩⟩⟩
    · skip
      have hno : ¬ ((0 ≤ a3 ∧ a3 < M 98 0) ∧ zband (zbshr a1 a3) 1 = 1 ∧ hOkk M a1 a2) := fun q => by have := q.2.1; omega
      exact zH_wr (r := some (.inl (-2))) 1 hz (by rfl) (⟨-2, rfl, .inl ⟨hno, rfl⟩⟩)
theorem qpc_z : ∀ j : Nat, qpc j 0 = 0
  | 0 => rfl
  | j + 1 => by show 0 % 2 + qpc j (0 / 2) = 0; rw [Nat.zero_div, qpc_z j]
set_option maxRecDepth 100000 in
theorem fh_186 {n : Nat} {M : zM} (a0 : Int) (h1 : 0 ≤ a0 ∧ a0 ≤ 16383) : zH n (0, 0) 186 (0, zini [.inl a0] 3, []) M (fun r M' => r = some (.inl ((qpc 31 a0.toNat : Nat) : Int)) ∧ M' = M) := by
  have hz := zp_186
  show zH n (0, 0) 186 (0, [.inl a0, zN, zN], []) M _
  refine zH_w (c' := (4, [.inl a0, .inl 0, .inl a0], [])) 4 hz rfl ?_
  have lp4 : ∀ (N : Nat) (s : Int) (x : Int), (x.toNat) < N → (0 ≤ x ∧ x ≤ a0) → (∃ k : Nat, k ≤ 31 ∧ s = (qpc k a0.toNat : Nat) ∧ x.toNat = a0.toNat / 2 ^ k) → zH n (0, 0) 186 (4, [.inl a0, .inl s, .inl x], []) M (fun r M' => r = some (.inl ((qpc 31 a0.toNat : Nat) : Int)) ∧ M' = M) := by
    intro N
    induction N with
    | zero => intro s x hN; exact absurd hN (Nat.not_lt_zero _)
    | succ N ih4 =>
      intro s x hN hx hs
      refine zH_w (c' := (5, [.inl a0, .inl s, .inl x], [.inl x])) 1 hz rfl ?_
      refine zH_wf_le (pc := 5) (n' := 8) (t := 21) (L := [.inl a0, .inl s, .inl x]) (st := []) (x := x) 0 hz (by rfl) (fun hb5 => ?_) (fun hb5 => ?_)
      · skip
        obtain ⟨k, k1, k2, k3⟩ := hs
        have kq := qpc_add k (31 - k) a0.toNat
        rw [show k + (31 - k) = 31 by omega, ← k3, show x.toNat = 0 by omega, qpc_z, Nat.add_zero] at kq
        refine zH_w (c' := (22, [.inl a0, .inl s, .inl x], [.inl s])) 1 hz rfl ?_
        exact zH_wr (r := some (.inl s)) 0 hz (by rfl) (⟨by rw [k2, ← kq], rfl⟩)
      · skip
        obtain ⟨k, k1, k2, k3⟩ := hs
        have kb : a0.toNat / 2 ^ k % 2 = x.toNat % 2 := by rw [k3]
        have k30 : k < 31 := by
          rcases (by omega : k < 31 ∨ k = 31) with z | z
          · exact z
          · rw [z, Nat.div_eq_of_lt (show a0.toNat < 2 ^ 31 by have : (2 : Nat) ^ 31 = 2147483648 := rfl; omega)] at k3; omega
        have kr := qpc_le k a0.toNat
        refine zH_w (c' := (12, [.inl a0, .inl s, .inl x], [.inl (zband x 1), .inl s])) 4 hz rfl ?_
        rw [show zband x 1 = x % 2 from qand1 x (by omega)]
        refine zH_w (c' := (13, [.inl a0, .inl s, .inl x], [.inl (w32 (s + (x % 2)))])) 1 hz rfl ?_
        rw [show w32 (s + (x % 2)) = s + x % 2 from w32_id (by omega)]
        refine zH_w (c' := (17, [.inl a0, .inl (s + x % 2), .inl x], [.inl (zbshr x 1)])) 4 hz rfl ?_
        rw [show zbshr x 1 = ((x.toNat / 2 : Nat) : Int) from qbshr_N x 1 (by omega) (by decide)]
        refine zH_w (c' := (4, [.inl a0, .inl (s + x % 2), .inl ((x.toNat / 2 : Nat) : Int)], [])) 2 hz rfl ?_
        refine ih4 (s + x % 2) ((x.toNat / 2 : Nat) : Int) (by omega) ?_ ?_
        · exact ⟨by omega, by omega⟩
        · exact ⟨k + 1, by omega, by rw [qpc_next, kb]; omega, by rw [Nat.pow_succ, ← Nat.div_div_eq_div_mul, ← k3]; omega⟩
  refine lp4 (16384) 0 a0 (by omega) ?_ ?_
  · omega
  · exact ⟨0, by decide, rfl, by rw [Nat.pow_zero, Nat.div_one]⟩
set_option maxRecDepth 100000 in
theorem fh_277_97 {n : Nat} {M : zM} {Mo : zM} (hC : qMI Mo) (e98 : M 98 = Mo 98) (a1 a2 a3 : Int) : zH n (0, 0) 277 (0, zini [zR 97, .inl a1, .inl a2, .inl a3] 4, []) M (fun r M' => r = some (.inl (if (0 ≤ a1 ∧ a1 ≤ ((2 ^ (Mo 98 0).toNat : Nat) : Int) - 1) ∧ (1 ≤ a2 ∧ a2 ≤ 200) ∧ ¬ a3 = 0 then (if 9 < qpc 31 a1.toNat then -3 else 1) else -2)) ∧ M' = M) := by
  have hz := zp_277
  show zH n (0, 0) 277 (0, [zR 97, .inl a1, .inl a2, .inl a3], []) M _
  have hn0 := hC.cnt0
  have pn := p2_n hn0
  refine zH_wf_eq (pc := 1) (n' := 4) (t := 33) (L := [zR 97, .inl a1, .inl a2, .inl a3]) (st := []) (x := a3) 1 hz (by rfl) (fun hb1 => ?_) (fun hb1 => ?_)
  · skip
    exact zH_wr (r := some (.inl (-2))) 2 hz (by rfl) (⟨by first | rw [if_neg (by omega)] | rw [if_pos (by omega), if_pos (by omega)] | rw [if_pos (by omega), if_neg (by omega)], rfl⟩)
  · skip
    refine zH_w (c' := (12, [zR 97, .inl a1, .inl a2, .inl a3], [.inl 0, zR 98, .inl 1, .inl 0, .inl a1])) 6 hz rfl ?_
    refine zH_iald hz rfl rfl (.inl rfl) (fun hin12 => ?_)
    show zH n (0, 0) 277 (13, [zR 97, .inl a1, .inl a2, .inl a3], [.inl (M 98 (0 : Int).toNat), .inl 1, .inl 0, .inl a1]) M _
    rw [show M 98 (0 : Int).toNat = Mo 98 0 from congrFun e98 0]
    refine zH_w (c' := (16, [zR 97, .inl a1, .inl a2, .inl a3], [.inl (w32 ((zbshl 1 (Mo 98 0)) - 1)), .inl 0, .inl a1])) 3 hz rfl ?_
    rw [pn.1]
    refine zH_wE (c1 := (19, [zR 97, .inl a1, .inl a2, .inl a3], [])) 0 hz zp_180 (fh_180 a1 0 (((2 ^ (Mo 98 0).toNat : Nat) : Int) - 1)) (by rfl) ?_
    show zH n (0, 0) 277 (19, [zR 97, .inl a1, .inl a2, .inl a3], [.inl (hf_180 M a1 0 (((2 ^ (Mo 98 0).toNat : Nat) : Int) - 1))]) M _
    obtain ⟨x1, hx1⟩ : ∃ x : Int, x = (hf_180 M a1 0 (((2 ^ (Mo 98 0).toNat : Nat) : Int) - 1)) := ⟨_, rfl⟩
    rw [← hx1]
    refine zH_if_eq hz rfl (fun hb19 => ?_) (fun hb19 => ?_)
    · skip
      rw [hx1, hq_180] at hb19
      refine zH_w (c' := (53, [zR 97, .inl a1, .inl a2, .inl a3], [.inl (-2)])) 2 hz rfl ?_
      exact zH_wr (r := some (.inl (-2))) 0 hz (by rfl) (⟨by first | rw [if_neg (by omega)] | rw [if_pos (by omega), if_pos (by omega)] | rw [if_pos (by omega), if_neg (by omega)], rfl⟩)
    · skip
      rw [hx1, hq_180] at hb19
      refine zH_w (c' := (27, [zR 97, .inl a1, .inl a2, .inl a3], [.inl 200, .inl 1, .inl a2])) 3 hz rfl ?_
      refine zH_wE (c1 := (30, [zR 97, .inl a1, .inl a2, .inl a3], [])) 0 hz zp_180 (fh_180 a2 1 200) (by rfl) ?_
      show zH n (0, 0) 277 (30, [zR 97, .inl a1, .inl a2, .inl a3], [.inl (hf_180 M a2 1 200)]) M _
      obtain ⟨x2, hx2⟩ : ∃ x : Int, x = (hf_180 M a2 1 200) := ⟨_, rfl⟩
      rw [← hx2]
      refine zH_if_ne hz rfl (fun hb30 => ?_) (fun hb30 => ?_)
      · skip
        rw [hx2, hq_180] at hb30
        refine zH_w (c' := (39, [zR 97, .inl a1, .inl a2, .inl a3], [.inl a1])) 1 hz rfl ?_
        refine zH_wE (c1 := (42, [zR 97, .inl a1, .inl a2, .inl a3], [])) 0 hz zp_186 (fh_186 a1 (by omega)) (by rfl) ?_
        show zH n (0, 0) 277 (42, [zR 97, .inl a1, .inl a2, .inl a3], [.inl ((qpc 31 a1.toNat : Nat) : Int)]) M _
        refine zH_wi_le (pc := 44) (n' := 47) (t := 52) (L := [zR 97, .inl a1, .inl a2, .inl a3]) (st := []) (x := ((qpc 31 a1.toNat : Nat) : Int)) (y := 9) 1 hz (by rfl) (fun hb44 => ?_) (fun hb44 => ?_)
        · skip
          exact zH_wr (r := some (.inl 1)) 1 hz (by rfl) (⟨by first | rw [if_neg (by omega)] | rw [if_pos (by omega), if_pos (by omega)] | rw [if_pos (by omega), if_neg (by omega)], rfl⟩)
        · skip
          exact zH_wr (r := some (.inl (-3))) 2 hz (by rfl) (⟨by first | rw [if_neg (by omega)] | rw [if_pos (by omega), if_pos (by omega)] | rw [if_pos (by omega), if_neg (by omega)], rfl⟩)
      · skip
        rw [hx2, hq_180] at hb30
        refine zH_w (c' := (53, [zR 97, .inl a1, .inl a2, .inl a3], [.inl (-2)])) 2 hz rfl ?_
        exact zH_wr (r := some (.inl (-2))) 0 hz (by rfl) (⟨by first | rw [if_neg (by omega)] | rw [if_pos (by omega), if_pos (by omega)] | rw [if_pos (by omega), if_neg (by omega)], rfl⟩)
set_option maxRecDepth 100000 in
theorem fh_278_97 {n : Nat} {M : zM} {Mo : zM} (hC : qMI Mo) (e98 : M 98 = Mo 98) (hM : qMI M) (a1 a2 : Int) : zH n (0, 0) 278 (0, zini [zR 97, .inl a1, .inl a2] 4, []) M (fun r M' => ∃ v : Int, r = some (.inl v) ∧ hSp Mo a1 a2 v (M' 117)) := by
  have hz := zp_278
  show zH n (0, 0) 278 (0, [zR 97, .inl a1, .inl a2, zN], []) M _
  have hn0 := hC.cnt0
  have pn := p2_n hn0
  refine zH_wE (c1 := (7, [zR 97, .inl a1, .inl a2, zN], [])) 4 hz zp_277 (fh_277_97 hC e98 a1 a2 1) (by rfl) ?_
  show zH n (0, 0) 278 (7, [zR 97, .inl a1, .inl a2, zN], [.inl (if (0 ≤ a1 ∧ a1 ≤ ((2 ^ (Mo 98 0).toNat : Nat) : Int) - 1) ∧ (1 ≤ a2 ∧ a2 ≤ 200) ∧ ¬ (1 : Int) = 0 then (if 9 < qpc 31 a1.toNat then -3 else 1) else -2)]) M _
  obtain ⟨y, hy⟩ : ∃ x : Int, x = (if (0 ≤ a1 ∧ a1 ≤ ((2 ^ (Mo 98 0).toNat : Nat) : Int) - 1) ∧ (1 ≤ a2 ∧ a2 ≤ 200) ∧ ¬ (1 : Int) = 0 then (if 9 < qpc 31 a1.toNat then -3 else 1) else -2) := ⟨_, rfl⟩
  rw [← hy]
  refine zH_w (c' := (10, [zR 97, .inl a1, .inl a2, .inl y], [.inl 1, .inl y])) 3 hz rfl ?_
  refine zH_wi_eq (pc := 10) (n' := 13) (t := 17) (L := [zR 97, .inl a1, .inl a2, .inl y]) (st := []) (x := y) (y := 1) 0 hz (by rfl) (fun hb10 => ?_) (fun hb10 => ?_)
  · skip
    have hz9 : hOkk Mo a1 a2 ∧ qpc 31 a1.toNat ≤ 9 := by
      by_cases z : hOkk Mo a1 a2
      · rw [if_pos ⟨z.1, z.2, by decide⟩] at hy
        split at hy
        · omega
        · exact ⟨z, by omega⟩
      · rw [if_neg (fun q => z ⟨q.1, q.2.1⟩)] at hy; omega
    have hx := True.intro
    refine zH_wC (c1 := (23, [zR 97, .inl a1, .inl a2, .inl y], [])) 3 hz zp_276 (fh_276_97 hC hM e98 a1 a2 (by have := hz9.1.1; omega) hz9.2) (by rfl) ?_
    rintro _ M1 ⟨v, rfl, hv, -⟩
    show zH n (0, 0) 278 (23, [zR 97, .inl a1, .inl a2, .inl y], [.inl v]) M1 _
    refine zH_ret hz rfl rfl ?_
    first
      | exact ⟨y, rfl, hx⟩
      | exact ⟨v, rfl, .inr (.inr ⟨hz9.1, hz9.2, hv⟩)⟩
  · skip
    have hx : hSp Mo a1 a2 y (M 117) := by
      by_cases z : hOkk Mo a1 a2
      · rw [if_pos ⟨z.1, z.2, by decide⟩] at hy
        split at hy
        · rename_i z2; exact .inr (.inl ⟨z, z2, hy⟩)
        · exact absurd hy hb10
      · rw [if_neg (fun q => z ⟨q.1, q.2.1⟩)] at hy; exact .inl ⟨z, hy⟩
    have v := True.intro
    have hz9 := True.intro
    have hv := True.intro
    refine zH_w (c' := (23, [zR 97, .inl a1, .inl a2, .inl y], [.inl y])) 2 hz rfl ?_
    refine zH_ret hz rfl rfl ?_
    first
      | exact ⟨y, rfl, hx⟩
      | exact ⟨v, rfl, .inr (.inr ⟨hz9.1, hz9.2, hv⟩)⟩
theorem pl_ik {m : Nat} : ∀ {n k : Nat}, k < qpc n m → ∃ d : Nat, pl m n k = (d : Int) ∧ k = qpc d m
  | 0, k, hk => absurd hk (Nat.not_lt_zero _)
  | n + 1, k, hk => by
    rw [qpc_next] at hk
    rw [pl_s]
    by_cases b : m / 2 ^ n % 2 = 1
    · rw [if_pos b]
      by_cases z : k = qpc n m
      · exact ⟨n, by rw [z, hup_eq], z⟩
      · rw [hup_ne z]
        exact pl_ik (by omega)
    · rw [if_neg b]
      exact pl_ik (by omega)
theorem mBd0 {M : zM} (h : qMI M) : hBd M := ⟨h.cnt0, h.cnt1, h.cnt2, h.cnt3, h.cnt4, h.cnt5, h.cnt6⟩
theorem pl_at {m c : Nat} : ∀ {n : Nat}, c < n → m / 2 ^ c % 2 = 1 → pl m n (qpc c m) = (c : Int)
  | 0, h, _ => absurd h (Nat.not_lt_zero _)
  | n + 1, h, b => by
    rw [pl_s]
    by_cases e : c = n
    · subst e; rw [if_pos b, hup_eq]
    · have q := pl_at (m := m) (c := c) (n := n) (by omega) b
      have r := p_idx (m := m) (n := n) (c := c) (by omega) b
      split
      · rw [hup_ne (by omega)]; exact q
      · exact q
/-- the places of two papers -/
theorem pl_inj {m n i j : Nat} (hi : i < qpc n m) (hj : j < qpc n m) (e : pl m n i = pl m n j) : i = j := by
  obtain ⟨d, d1, d2⟩ := pl_ik hi
  obtain ⟨f, f1, f2⟩ := pl_ik hj
  rw [d1, f1] at e
  have z : d = f := by omega
  rw [d2, f2, z]
set_option maxRecDepth 100000 in
theorem fh_279_97 {n : Nat} {M : zM} {Mo : zM} (hC : qMI Mo) (e98 : M 98 = Mo 98) (hM : qMI M) (a1 a2 a3 : Int) : zH n (0, 0) 279 (0, zini [zR 97, .inl a1, .inl a2, .inl a3] 6, []) M (fun r M' => ∃ x : Int, r = some (.inl x) ∧ hHo Mo a1 a2 a3 x) := by
  have hz := zp_279
  show zH n (0, 0) 279 (0, [zR 97, .inl a1, .inl a2, .inl a3, zN, zN], []) M _
  have hn0 := hC.cnt0
  have pn := p2_n hn0
  have hz0 : M 98 0 = Mo 98 0 := congrFun e98 0
  refine zH_wE (c1 := (9, [zR 97, .inl a1, .inl a2, .inl a3, zN, zN], [.inl a2, .inl a1, zR 97])) 6 hz zp_182 (fh_182_97 0 a3) (by rfl) ?_
  show zH n (0, 0) 279 (9, [zR 97, .inl a1, .inl a2, .inl a3, zN, zN], [.inl (hf_182_97 M 0 a3), .inl a2, .inl a1, zR 97]) M _
  obtain ⟨x1, hx1⟩ : ∃ x : Int, x = (hf_182_97 M 0 a3) := ⟨_, rfl⟩
  rw [← hx1]
  refine zH_if_eq hz rfl (fun hb9 => ?_) (fun hb9 => ?_)
  · skip
    rw [hx1, hq_182_0 (mBd0 hM), hz0] at hb9
    have hcn : ¬ ((0 ≤ a3 ∧ a3 < Mo 98 0) ∧ zband (zbshr a1 a3) 1 = 1) → (0 : Int) = 0 := fun _ => rfl
    have hcz : ((0 ≤ a3 ∧ a3 < Mo 98 0) ∧ zband (zbshr a1 a3) 1 = 1) → ¬ (0 : Int) = 0 := fun q => absurd q.1 hb9
    refine zH_w (c' := (26, [zR 97, .inl a1, .inl a2, .inl a3, zN, zN], [.inl 0, .inl a2, .inl a1, zR 97])) 1 hz rfl ?_
    refine zH_wE (c1 := (29, [zR 97, .inl a1, .inl a2, .inl a3, zN, zN], [])) 0 hz zp_277 (fh_277_97 hC e98 a1 a2 0) (by rfl) ?_
    show zH n (0, 0) 279 (29, [zR 97, .inl a1, .inl a2, .inl a3, zN, zN], [.inl (if (0 ≤ a1 ∧ a1 ≤ ((2 ^ (Mo 98 0).toNat : Nat) : Int) - 1) ∧ (1 ≤ a2 ∧ a2 ≤ 200) ∧ ¬ (0 : Int) = 0 then (if 9 < qpc 31 a1.toNat then -3 else 1) else -2)]) M _
    obtain ⟨y, hy⟩ : ∃ x : Int, x = (if (0 ≤ a1 ∧ a1 ≤ ((2 ^ (Mo 98 0).toNat : Nat) : Int) - 1) ∧ (1 ≤ a2 ∧ a2 ≤ 200) ∧ ¬ (0 : Int) = 0 then (if 9 < qpc 31 a1.toNat then -3 else 1) else -2) := ⟨_, rfl⟩
    rw [← hy]
    refine zH_w (c' := (34, [zR 97, .inl a1, .inl a2, .inl a3, .inl y, zN], [.inl 1, .inl y])) 3 hz rfl ?_
    refine zH_wi_eq (pc := 34) (n' := 37) (t := 40) (L := [zR 97, .inl a1, .inl a2, .inl a3, .inl y, zN]) (st := []) (x := y) (y := 1) 0 hz (by rfl) (fun hb34 => ?_) (fun hb34 => ?_)
    · skip
      have hz9 : hOkk Mo a1 a2 ∧ qpc 31 a1.toNat ≤ 9 := by
        by_cases z2 : hOkk Mo a1 a2
        · by_cases z4 : qpc 31 a1.toNat ≤ 9
          · exact ⟨z2, z4⟩
          · exfalso
            split at hy
            · rw [if_pos (by omega)] at hy; omega
            · omega
        · rw [if_neg (fun q => z2 ⟨q.1, q.2.1⟩)] at hy; omega
      have hc9 : (0 ≤ a3 ∧ a3 < Mo 98 0) ∧ zband (zbshr a1 a3) 1 = 1 := by
        by_cases z : (0 ≤ a3 ∧ a3 < Mo 98 0) ∧ zband (zbshr a1 a3) 1 = 1
        · exact z
        · have e2 := hcn z
          rw [if_neg (fun q => q.2.2 e2)] at hy; omega
      have hqb := qbit a1 a3 ⟨hz9.1.1.1, by have := hz9.1.1.2; omega⟩ ⟨hc9.1.1, by omega⟩
      rw [hc9.2] at hqb
      have ix := p_idx (m := a1.toNat) (n := (Mo 98 0).toNat) (c := a3.toNat) (by omega) (by omega)
      have n9 := p_n9 hz9.2 (c := (Mo 98 0).toNat) (by omega)
      refine zH_w (c' := (43, [zR 97, .inl a1, .inl a2, .inl a3, .inl y, zN], [.inl a2, .inl a1, zR 97])) 3 hz rfl ?_
      refine zH_wC (c1 := (46, [zR 97, .inl a1, .inl a2, .inl a3, .inl y, zN], [])) 0 hz zp_276 (fh_276_97 hC hM e98 a1 a2 (by have := hz9.1.1; omega) hz9.2) (by rfl) ?_
      rintro _ M1 ⟨v, rfl, hv, hPp9⟩
      show zH n (0, 0) 279 (46, [zR 97, .inl a1, .inl a2, .inl a3, .inl y, zN], [.inl v]) M1 _
      refine zH_wi_ne (pc := 47) (n' := 50) (t := 52) (L := [zR 97, .inl a1, .inl a2, .inl a3, .inl y, zN]) (st := []) (x := v) (y := (-1)) 1 hz (by rfl) (fun hb47 => ?_) (fun hb47 => ?_)
      · skip
        have hPp := hPp9 hb47
        have hpc : ∀ j, j < qpc (Mo 98 0).toNat a1.toNat → M1 116 j = pl a1.toNat (Mo 98 0).toNat j := hPp.2
        have hpx := pl_at (m := a1.toNat) (c := a3.toNat) (n := (Mo 98 0).toNat) (by omega) (by omega)
        refine zH_w (c' := (55, [zR 97, .inl a1, .inl a2, .inl a3, .inl y, .inl 0], [])) 2 hz rfl ?_
        have lp55 : ∀ (N : Nat) (i : Int), (((qpc a3.toNat a1.toNat : Nat) - i).toNat) < N → (0 ≤ i ∧ i ≤ (qpc a3.toNat a1.toNat : Nat)) → zH n (0, 0) 279 (55, [zR 97, .inl a1, .inl a2, .inl a3, .inl y, .inl i], []) M1 (fun r M' => ∃ x : Int, r = some (.inl x) ∧ hHo Mo a1 a2 a3 x) := by
          intro N
          induction N with
          | zero => intro i hN; exact absurd hN (Nat.not_lt_zero _)
          | succ N ih55 =>
            intro i hN hi
            refine zH_w (c' := (61, [zR 97, .inl a1, .inl a2, .inl a3, .inl y, .inl i], [.inl i, zR 116])) 3 hz rfl ?_
            refine zH_iald hz rfl rfl (.inl rfl) (fun hin61 => ?_)
            show zH n (0, 0) 279 (62, [zR 97, .inl a1, .inl a2, .inl a3, .inl y, .inl i], [.inl (M1 116 (i : Int).toNat)]) M1 _
            rw [show M1 116 (i : Int).toNat = pl a1.toNat (Mo 98 0).toNat i.toNat from hpc i.toNat (by omega)]
            refine zH_w (c' := (63, [zR 97, .inl a1, .inl a2, .inl a3, .inl y, .inl i], [.inl a3, .inl (pl a1.toNat (Mo 98 0).toNat i.toNat)])) 1 hz rfl ?_
            refine zH_wi_eq (pc := 63) (n' := 66) (t := 72) (L := [zR 97, .inl a1, .inl a2, .inl a3, .inl y, .inl i]) (st := []) (x := (pl a1.toNat (Mo 98 0).toNat i.toNat)) (y := a3) 0 hz (by rfl) (fun hb63 => ?_) (fun hb63 => ?_)
            · skip
              have hie : i.toNat = qpc a3.toNat a1.toNat := pl_inj (m := a1.toNat) (n := (Mo 98 0).toNat) (by omega) ix (hb63.trans (by rw [hpx]; omega))
              refine zH_w (c' := (78, [zR 97, .inl a1, .inl a2, .inl a3, .inl y, .inl i], [.inl i, zR 117])) 3 hz rfl ?_
              refine zH_iald hz rfl rfl (.inl rfl) (fun hin78 => ?_)
              show zH n (0, 0) 279 (79, [zR 97, .inl a1, .inl a2, .inl a3, .inl y, .inl i], [.inl (M1 117 (i : Int).toNat)]) M1 _
              rw [show M1 117 (i : Int).toNat = M1 117 (qpc a3.toNat a1.toNat) from by rw [hie]]
              exact zH_ret hz rfl rfl (⟨_, rfl, .inr ⟨⟨hc9.1, hc9.2, hz9.1⟩, .inr ⟨hz9.2, v, _, hv, .inr ⟨by omega, rfl⟩⟩⟩⟩)
            · skip
              have hne : ¬ i = (qpc a3.toNat a1.toNat : Nat) := fun z => hb63 (by rw [show i.toNat = qpc a3.toNat a1.toNat by omega, hpx]; omega)
              refine zH_w (c' := (55, [zR 97, .inl a1, .inl a2, .inl a3, .inl y, .inl (i + 1)], [])) 2 hz (by rw [show (.inl (i + 1) : zV) = .inl (w32 (i + 1)) from by rw [w32_id (by omega)]]; rfl) ?_
              refine ih55 (i + 1) (by omega) ?_
              · omega
        refine lp55 (40) 0 (by omega) ?_
        · omega
      · skip
        exact zH_wr (r := some (.inl (-1))) 1 hz (by rfl) (⟨-1, rfl, .inr ⟨⟨hc9.1, hc9.2, hz9.1⟩, .inr ⟨hz9.2, v, _, hv, .inl ⟨by omega, rfl⟩⟩⟩⟩)
    · skip
      have hx : hHo Mo a1 a2 a3 y := by
        by_cases z : (0 ≤ a3 ∧ a3 < Mo 98 0) ∧ zband (zbshr a1 a3) 1 = 1
        · by_cases z2 : hOkk Mo a1 a2
          · have hc9 := hcz z
            rw [if_pos ⟨z2.1, z2.2, hc9⟩] at hy
            split at hy
            · rename_i z3; exact .inr ⟨⟨z.1, z.2, z2⟩, .inl ⟨z3, hy⟩⟩
            · exact absurd hy hb34
          · rw [if_neg (fun q => z2 ⟨q.1, q.2.1⟩)] at hy; exact .inl ⟨fun q => z2 q.2.2, hy⟩
        · have e2 := hcn z
          rw [if_neg (fun q => q.2.2 e2)] at hy
          exact .inl ⟨fun q => z ⟨q.1, q.2.1⟩, hy⟩
      exact zH_wr (r := some (.inl y)) 1 hz (by rfl) (⟨y, rfl, hx⟩)
  · skip
    rw [hx1, hq_182_0 (mBd0 hM), hz0] at hb9
    refine zH_w (c' := (18, [zR 97, .inl a1, .inl a2, .inl a3, zN, zN], [.inl 1, .inl (zband (zbshr a1 a3) 1), .inl a2, .inl a1, zR 97])) 6 hz rfl ?_
    refine zH_wi_ne (pc := 18) (n' := 21) (t := 25) (L := [zR 97, .inl a1, .inl a2, .inl a3, zN, zN]) (st := [.inl a2, .inl a1, zR 97]) (x := (zband (zbshr a1 a3) 1)) (y := 1) 0 hz (by rfl) (fun hb18 => ?_) (fun hb18 => ?_)
    · skip
      have hcn : ¬ ((0 ≤ a3 ∧ a3 < Mo 98 0) ∧ zband (zbshr a1 a3) 1 = 1) → (0 : Int) = 0 := fun _ => rfl
      have hcz : ((0 ≤ a3 ∧ a3 < Mo 98 0) ∧ zband (zbshr a1 a3) 1 = 1) → ¬ (0 : Int) = 0 := fun q => absurd q.2 hb18
      refine zH_wE (c1 := (29, [zR 97, .inl a1, .inl a2, .inl a3, zN, zN], [])) 1 hz zp_277 (fh_277_97 hC e98 a1 a2 0) (by rfl) ?_
      show zH n (0, 0) 279 (29, [zR 97, .inl a1, .inl a2, .inl a3, zN, zN], [.inl (if (0 ≤ a1 ∧ a1 ≤ ((2 ^ (Mo 98 0).toNat : Nat) : Int) - 1) ∧ (1 ≤ a2 ∧ a2 ≤ 200) ∧ ¬ (0 : Int) = 0 then (if 9 < qpc 31 a1.toNat then -3 else 1) else -2)]) M _
      obtain ⟨y, hy⟩ : ∃ x : Int, x = (if (0 ≤ a1 ∧ a1 ≤ ((2 ^ (Mo 98 0).toNat : Nat) : Int) - 1) ∧ (1 ≤ a2 ∧ a2 ≤ 200) ∧ ¬ (0 : Int) = 0 then (if 9 < qpc 31 a1.toNat then -3 else 1) else -2) := ⟨_, rfl⟩
      rw [← hy]
      refine zH_w (c' := (34, [zR 97, .inl a1, .inl a2, .inl a3, .inl y, zN], [.inl 1, .inl y])) 3 hz rfl ?_
      refine zH_wi_eq (pc := 34) (n' := 37) (t := 40) (L := [zR 97, .inl a1, .inl a2, .inl a3, .inl y, zN]) (st := []) (x := y) (y := 1) 0 hz (by rfl) (fun hb34 => ?_) (fun hb34 => ?_)
      · skip
        have hz9 : hOkk Mo a1 a2 ∧ qpc 31 a1.toNat ≤ 9 := by
          by_cases z2 : hOkk Mo a1 a2
          · by_cases z4 : qpc 31 a1.toNat ≤ 9
            · exact ⟨z2, z4⟩
            · exfalso
              split at hy
              · rw [if_pos (by omega)] at hy; omega
              · omega
          · rw [if_neg (fun q => z2 ⟨q.1, q.2.1⟩)] at hy; omega
        have hc9 : (0 ≤ a3 ∧ a3 < Mo 98 0) ∧ zband (zbshr a1 a3) 1 = 1 := by
          by_cases z : (0 ≤ a3 ∧ a3 < Mo 98 0) ∧ zband (zbshr a1 a3) 1 = 1
          · exact z
          · have e2 := hcn z
            rw [if_neg (fun q => q.2.2 e2)] at hy; omega
        have hqb := qbit a1 a3 ⟨hz9.1.1.1, by have := hz9.1.1.2; omega⟩ ⟨hc9.1.1, by omega⟩
        rw [hc9.2] at hqb
        have ix := p_idx (m := a1.toNat) (n := (Mo 98 0).toNat) (c := a3.toNat) (by omega) (by omega)
        have n9 := p_n9 hz9.2 (c := (Mo 98 0).toNat) (by omega)
        refine zH_w (c' := (43, [zR 97, .inl a1, .inl a2, .inl a3, .inl y, zN], [.inl a2, .inl a1, zR 97])) 3 hz rfl ?_
        refine zH_wC (c1 := (46, [zR 97, .inl a1, .inl a2, .inl a3, .inl y, zN], [])) 0 hz zp_276 (fh_276_97 hC hM e98 a1 a2 (by have := hz9.1.1; omega) hz9.2) (by rfl) ?_
        rintro _ M1 ⟨v, rfl, hv, hPp9⟩
        show zH n (0, 0) 279 (46, [zR 97, .inl a1, .inl a2, .inl a3, .inl y, zN], [.inl v]) M1 _
        refine zH_wi_ne (pc := 47) (n' := 50) (t := 52) (L := [zR 97, .inl a1, .inl a2, .inl a3, .inl y, zN]) (st := []) (x := v) (y := (-1)) 1 hz (by rfl) (fun hb47 => ?_) (fun hb47 => ?_)
        · skip
          have hPp := hPp9 hb47
          have hpc : ∀ j, j < qpc (Mo 98 0).toNat a1.toNat → M1 116 j = pl a1.toNat (Mo 98 0).toNat j := hPp.2
          have hpx := pl_at (m := a1.toNat) (c := a3.toNat) (n := (Mo 98 0).toNat) (by omega) (by omega)
          refine zH_w (c' := (55, [zR 97, .inl a1, .inl a2, .inl a3, .inl y, .inl 0], [])) 2 hz rfl ?_
          have lp55 : ∀ (N : Nat) (i : Int), (((qpc a3.toNat a1.toNat : Nat) - i).toNat) < N → (0 ≤ i ∧ i ≤ (qpc a3.toNat a1.toNat : Nat)) → zH n (0, 0) 279 (55, [zR 97, .inl a1, .inl a2, .inl a3, .inl y, .inl i], []) M1 (fun r M' => ∃ x : Int, r = some (.inl x) ∧ hHo Mo a1 a2 a3 x) := by
            intro N
            induction N with
            | zero => intro i hN; exact absurd hN (Nat.not_lt_zero _)
            | succ N ih55 =>
              intro i hN hi
              refine zH_w (c' := (61, [zR 97, .inl a1, .inl a2, .inl a3, .inl y, .inl i], [.inl i, zR 116])) 3 hz rfl ?_
              refine zH_iald hz rfl rfl (.inl rfl) (fun hin61 => ?_)
              show zH n (0, 0) 279 (62, [zR 97, .inl a1, .inl a2, .inl a3, .inl y, .inl i], [.inl (M1 116 (i : Int).toNat)]) M1 _
              rw [show M1 116 (i : Int).toNat = pl a1.toNat (Mo 98 0).toNat i.toNat from hpc i.toNat (by omega)]
              refine zH_w (c' := (63, [zR 97, .inl a1, .inl a2, .inl a3, .inl y, .inl i], [.inl a3, .inl (pl a1.toNat (Mo 98 0).toNat i.toNat)])) 1 hz rfl ?_
              refine zH_wi_eq (pc := 63) (n' := 66) (t := 72) (L := [zR 97, .inl a1, .inl a2, .inl a3, .inl y, .inl i]) (st := []) (x := (pl a1.toNat (Mo 98 0).toNat i.toNat)) (y := a3) 0 hz (by rfl) (fun hb63 => ?_) (fun hb63 => ?_)
              · skip
                have hie : i.toNat = qpc a3.toNat a1.toNat := pl_inj (m := a1.toNat) (n := (Mo 98 0).toNat) (by omega) ix (hb63.trans (by rw [hpx]; omega))
                refine zH_w (c' := (78, [zR 97, .inl a1, .inl a2, .inl a3, .inl y, .inl i], [.inl i, zR 117])) 3 hz rfl ?_
                refine zH_iald hz rfl rfl (.inl rfl) (fun hin78 => ?_)
                show zH n (0, 0) 279 (79, [zR 97, .inl a1, .inl a2, .inl a3, .inl y, .inl i], [.inl (M1 117 (i : Int).toNat)]) M1 _
                rw [show M1 117 (i : Int).toNat = M1 117 (qpc a3.toNat a1.toNat) from by rw [hie]]
                exact zH_ret hz rfl rfl (⟨_, rfl, .inr ⟨⟨hc9.1, hc9.2, hz9.1⟩, .inr ⟨hz9.2, v, _, hv, .inr ⟨by omega, rfl⟩⟩⟩⟩)
              · skip
                have hne : ¬ i = (qpc a3.toNat a1.toNat : Nat) := fun z => hb63 (by rw [show i.toNat = qpc a3.toNat a1.toNat by omega, hpx]; omega)
                refine zH_w (c' := (55, [zR 97, .inl a1, .inl a2, .inl a3, .inl y, .inl (i + 1)], [])) 2 hz (by rw [show (.inl (i + 1) : zV) = .inl (w32 (i + 1)) from by rw [w32_id (by omega)]]; rfl) ?_
                refine ih55 (i + 1) (by omega) ?_
                · omega
          refine lp55 (40) 0 (by omega) ?_
          · omega
        · skip
          exact zH_wr (r := some (.inl (-1))) 1 hz (by rfl) (⟨-1, rfl, .inr ⟨⟨hc9.1, hc9.2, hz9.1⟩, .inr ⟨hz9.2, v, _, hv, .inl ⟨by omega, rfl⟩⟩⟩⟩)
      · skip
        have hx : hHo Mo a1 a2 a3 y := by
          by_cases z : (0 ≤ a3 ∧ a3 < Mo 98 0) ∧ zband (zbshr a1 a3) 1 = 1
          · by_cases z2 : hOkk Mo a1 a2
            · have hc9 := hcz z
              rw [if_pos ⟨z2.1, z2.2, hc9⟩] at hy
              split at hy
              · rename_i z3; exact .inr ⟨⟨z.1, z.2, z2⟩, .inl ⟨z3, hy⟩⟩
              · exact absurd hy hb34
            · rw [if_neg (fun q => z2 ⟨q.1, q.2.1⟩)] at hy; exact .inl ⟨fun q => z2 q.2.2, hy⟩
          · have e2 := hcn z
            rw [if_neg (fun q => q.2.2 e2)] at hy
            exact .inl ⟨fun q => z ⟨q.1, q.2.1⟩, hy⟩
        exact zH_wr (r := some (.inl y)) 1 hz (by rfl) (⟨y, rfl, hx⟩)
    · skip
      have hc8 : (0 ≤ a3 ∧ a3 < Mo 98 0) ∧ zband (zbshr a1 a3) 1 = 1 := ⟨by omega, by omega⟩
      have hcn : ¬ ((0 ≤ a3 ∧ a3 < Mo 98 0) ∧ zband (zbshr a1 a3) 1 = 1) → (1 : Int) = 0 := fun q => absurd hc8 q
      have hcz : ((0 ≤ a3 ∧ a3 < Mo 98 0) ∧ zband (zbshr a1 a3) 1 = 1) → ¬ (1 : Int) = 0 := fun _ => by decide
      refine zH_wE (c1 := (29, [zR 97, .inl a1, .inl a2, .inl a3, zN, zN], [])) 2 hz zp_277 (fh_277_97 hC e98 a1 a2 1) (by rfl) ?_
      show zH n (0, 0) 279 (29, [zR 97, .inl a1, .inl a2, .inl a3, zN, zN], [.inl (if (0 ≤ a1 ∧ a1 ≤ ((2 ^ (Mo 98 0).toNat : Nat) : Int) - 1) ∧ (1 ≤ a2 ∧ a2 ≤ 200) ∧ ¬ (1 : Int) = 0 then (if 9 < qpc 31 a1.toNat then -3 else 1) else -2)]) M _
      obtain ⟨y, hy⟩ : ∃ x : Int, x = (if (0 ≤ a1 ∧ a1 ≤ ((2 ^ (Mo 98 0).toNat : Nat) : Int) - 1) ∧ (1 ≤ a2 ∧ a2 ≤ 200) ∧ ¬ (1 : Int) = 0 then (if 9 < qpc 31 a1.toNat then -3 else 1) else -2) := ⟨_, rfl⟩
      rw [← hy]
      refine zH_w (c' := (34, [zR 97, .inl a1, .inl a2, .inl a3, .inl y, zN], [.inl 1, .inl y])) 3 hz rfl ?_
      refine zH_wi_eq (pc := 34) (n' := 37) (t := 40) (L := [zR 97, .inl a1, .inl a2, .inl a3, .inl y, zN]) (st := []) (x := y) (y := 1) 0 hz (by rfl) (fun hb34 => ?_) (fun hb34 => ?_)
      · skip
        have hz9 : hOkk Mo a1 a2 ∧ qpc 31 a1.toNat ≤ 9 := by
          by_cases z2 : hOkk Mo a1 a2
          · by_cases z4 : qpc 31 a1.toNat ≤ 9
            · exact ⟨z2, z4⟩
            · exfalso
              split at hy
              · rw [if_pos (by omega)] at hy; omega
              · omega
          · rw [if_neg (fun q => z2 ⟨q.1, q.2.1⟩)] at hy; omega
        have hc9 : (0 ≤ a3 ∧ a3 < Mo 98 0) ∧ zband (zbshr a1 a3) 1 = 1 := by
          by_cases z : (0 ≤ a3 ∧ a3 < Mo 98 0) ∧ zband (zbshr a1 a3) 1 = 1
          · exact z
          · have e2 := hcn z
            rw [if_neg (fun q => q.2.2 e2)] at hy; omega
        have hqb := qbit a1 a3 ⟨hz9.1.1.1, by have := hz9.1.1.2; omega⟩ ⟨hc9.1.1, by omega⟩
        rw [hc9.2] at hqb
        have ix := p_idx (m := a1.toNat) (n := (Mo 98 0).toNat) (c := a3.toNat) (by omega) (by omega)
        have n9 := p_n9 hz9.2 (c := (Mo 98 0).toNat) (by omega)
        refine zH_w (c' := (43, [zR 97, .inl a1, .inl a2, .inl a3, .inl y, zN], [.inl a2, .inl a1, zR 97])) 3 hz rfl ?_
        refine zH_wC (c1 := (46, [zR 97, .inl a1, .inl a2, .inl a3, .inl y, zN], [])) 0 hz zp_276 (fh_276_97 hC hM e98 a1 a2 (by have := hz9.1.1; omega) hz9.2) (by rfl) ?_
        rintro _ M1 ⟨v, rfl, hv, hPp9⟩
        show zH n (0, 0) 279 (46, [zR 97, .inl a1, .inl a2, .inl a3, .inl y, zN], [.inl v]) M1 _
        refine zH_wi_ne (pc := 47) (n' := 50) (t := 52) (L := [zR 97, .inl a1, .inl a2, .inl a3, .inl y, zN]) (st := []) (x := v) (y := (-1)) 1 hz (by rfl) (fun hb47 => ?_) (fun hb47 => ?_)
        · skip
          have hPp := hPp9 hb47
          have hpc : ∀ j, j < qpc (Mo 98 0).toNat a1.toNat → M1 116 j = pl a1.toNat (Mo 98 0).toNat j := hPp.2
          have hpx := pl_at (m := a1.toNat) (c := a3.toNat) (n := (Mo 98 0).toNat) (by omega) (by omega)
          refine zH_w (c' := (55, [zR 97, .inl a1, .inl a2, .inl a3, .inl y, .inl 0], [])) 2 hz rfl ?_
          have lp55 : ∀ (N : Nat) (i : Int), (((qpc a3.toNat a1.toNat : Nat) - i).toNat) < N → (0 ≤ i ∧ i ≤ (qpc a3.toNat a1.toNat : Nat)) → zH n (0, 0) 279 (55, [zR 97, .inl a1, .inl a2, .inl a3, .inl y, .inl i], []) M1 (fun r M' => ∃ x : Int, r = some (.inl x) ∧ hHo Mo a1 a2 a3 x) := by
            intro N
            induction N with
            | zero => intro i hN; exact absurd hN (Nat.not_lt_zero _)
            | succ N ih55 =>
              intro i hN hi
              refine zH_w (c' := (61, [zR 97, .inl a1, .inl a2, .inl a3, .inl y, .inl i], [.inl i, zR 116])) 3 hz rfl ?_
              refine zH_iald hz rfl rfl (.inl rfl) (fun hin61 => ?_)
              show zH n (0, 0) 279 (62, [zR 97, .inl a1, .inl a2, .inl a3, .inl y, .inl i], [.inl (M1 116 (i : Int).toNat)]) M1 _
              rw [show M1 116 (i : Int).toNat = pl a1.toNat (Mo 98 0).toNat i.toNat from hpc i.toNat (by omega)]
              refine zH_w (c' := (63, [zR 97, .inl a1, .inl a2, .inl a3, .inl y, .inl i], [.inl a3, .inl (pl a1.toNat (Mo 98 0).toNat i.toNat)])) 1 hz rfl ?_
              refine zH_wi_eq (pc := 63) (n' := 66) (t := 72) (L := [zR 97, .inl a1, .inl a2, .inl a3, .inl y, .inl i]) (st := []) (x := (pl a1.toNat (Mo 98 0).toNat i.toNat)) (y := a3) 0 hz (by rfl) (fun hb63 => ?_) (fun hb63 => ?_)
              · skip
                have hie : i.toNat = qpc a3.toNat a1.toNat := pl_inj (m := a1.toNat) (n := (Mo 98 0).toNat) (by omega) ix (hb63.trans (by rw [hpx]; omega))
                refine zH_w (c' := (78, [zR 97, .inl a1, .inl a2, .inl a3, .inl y, .inl i], [.inl i, zR 117])) 3 hz rfl ?_
                refine zH_iald hz rfl rfl (.inl rfl) (fun hin78 => ?_)
                show zH n (0, 0) 279 (79, [zR 97, .inl a1, .inl a2, .inl a3, .inl y, .inl i], [.inl (M1 117 (i : Int).toNat)]) M1 _
                rw [show M1 117 (i : Int).toNat = M1 117 (qpc a3.toNat a1.toNat) from by rw [hie]]
                exact zH_ret hz rfl rfl (⟨_, rfl, .inr ⟨⟨hc9.1, hc9.2, hz9.1⟩, .inr ⟨hz9.2, v, _, hv, .inr ⟨by omega, rfl⟩⟩⟩⟩)
              · skip
                have hne : ¬ i = (qpc a3.toNat a1.toNat : Nat) := fun z => hb63 (by rw [show i.toNat = qpc a3.toNat a1.toNat by omega, hpx]; omega)
                refine zH_w (c' := (55, [zR 97, .inl a1, .inl a2, .inl a3, .inl y, .inl (i + 1)], [])) 2 hz (by rw [show (.inl (i + 1) : zV) = .inl (w32 (i + 1)) from by rw [w32_id (by omega)]]; rfl) ?_
                refine ih55 (i + 1) (by omega) ?_
                · omega
          refine lp55 (40) 0 (by omega) ?_
          · omega
        · skip
          exact zH_wr (r := some (.inl (-1))) 1 hz (by rfl) (⟨-1, rfl, .inr ⟨⟨hc9.1, hc9.2, hz9.1⟩, .inr ⟨hz9.2, v, _, hv, .inl ⟨by omega, rfl⟩⟩⟩⟩)
      · skip
        have hx : hHo Mo a1 a2 a3 y := by
          by_cases z : (0 ≤ a3 ∧ a3 < Mo 98 0) ∧ zband (zbshr a1 a3) 1 = 1
          · by_cases z2 : hOkk Mo a1 a2
            · have hc9 := hcz z
              rw [if_pos ⟨z2.1, z2.2, hc9⟩] at hy
              split at hy
              · rename_i z3; exact .inr ⟨⟨z.1, z.2, z2⟩, .inl ⟨z3, hy⟩⟩
              · exact absurd hy hb34
            · rw [if_neg (fun q => z2 ⟨q.1, q.2.1⟩)] at hy; exact .inl ⟨fun q => z2 q.2.2, hy⟩
          · have e2 := hcn z
            rw [if_neg (fun q => q.2.2 e2)] at hy
            exact .inl ⟨fun q => z ⟨q.1, q.2.1⟩, hy⟩
        exact zH_wr (r := some (.inl y)) 1 hz (by rfl) (⟨y, rfl, hx⟩)
