/-! HOURS: WHAT THEY COME TO -/
section PR
variable {n : Nat} {k : Int} {h g f : Nat → Int}
/-- how many hours are used ahead of i -/
noncomputable def us (h : Nat → Int) : Nat → Int
  | 0 => 0
  | i + 1 => if us h i < h i + 1 then h i + 1 else us h i
theorem us_s (h : Nat → Int) (i : Nat) : us h (i + 1) = if us h i < h i + 1 then h i + 1 else us h i := rfl
theorem us_0 (h : Nat → Int) : ∀ i : Nat, 0 ≤ us h i
  | 0 => Int.le_refl 0
  | i + 1 => by have := us_0 h i; rw [us_s]; split <;> omega
theorem us_cg : ∀ (i : Nat), (∀ j, j < i → g j = h j) → us g i = us h i
  | 0, _ => rfl
  | i + 1, e => by rw [us_s, us_s, us_cg i (fun j hj => e j (by omega)), e i (by omega)]
theorem us_i : ∀ {i : Nat}, (∀ j, j < i → h j ≤ us h j) → us h i ≤ (i : Int)
  | 0, _ => Int.le_refl 0
  | i + 1, e => by
    have q := us_i (i := i) (fun j hj => e j (by omega))
    have := e i (by omega)
    rw [us_s]
    split <;> omega
noncomputable def RG (n : Nat) (k : Int) (h : Nat → Int) : Prop := ∀ i, i < n → 0 ≤ h i ∧ h i < k ∧ h i ≤ us h i
noncomputable def lxl (n : Nat) (f g : Nat → Int) : Prop := ∃ i, i < n ∧ (∀ j, j < i → f j = g j) ∧ f i < g i
theorem lxl_tri (f g : Nat → Int) : ∀ n : Nat, (∀ i, i < n → f i = g i) ∨ lxl n f g ∨ lxl n g f
  | 0 => .inl (fun i hi => absurd hi (Nat.not_lt_zero _))
  | n + 1 => by
    rcases lxl_tri f g n with q | ⟨i, h1, h2, h3⟩ | ⟨i, h1, h2, h3⟩
    · rcases (by omega : f n = g n ∨ f n < g n ∨ g n < f n) with e | e | e
      · exact .inl (fun i hi => by by_cases z : i = n; rw [z, e]; exact q i (by omega))
      · exact .inr (.inl ⟨n, by omega, q, e⟩)
      · exact .inr (.inr ⟨n, by omega, fun j hj => (q j hj).symm, e⟩)
    · exact .inr (.inl ⟨i, by omega, h2, h3⟩)
    · exact .inr (.inr ⟨i, by omega, h2, h3⟩)
/-- none is behind a row that can't be raised anywhere -/
theorem RG_last (hh : RG n k h) (hi : ∀ p, p < n → 0 < p → ¬ (h p < us h p ∧ h p + 1 < k)) (hg : RG n k g) : ¬ lxl n h g := by
  rintro ⟨l, l1, l2, l3⟩
  have e := us_cg (g := g) (h := h) l (fun j hj => (l2 j hj).symm)
  have q := hg l l1
  rw [e] at q
  by_cases z : l = 0
  · subst z
    have : us h 0 = 0 := rfl
    have := hh 0 l1
    omega
  · exact hi l l1 (by omega) ⟨by omega, by omega⟩
/-- the row behind h: raised at i, 0 behind -/
theorem RG_next {i : Nat} (hh : RG n k h) (hin : i < n) (h1 : h i < us h i) (h2 : h i + 1 < k) (hi : ∀ p, p < n → i < p → ¬ (h p < us h p ∧ h p + 1 < k)) (e1 : ∀ j, j < i → f j = h j) (e2 : f i = h i + 1) (e3 : ∀ j, j < n → i < j → f j = 0) : RG n k f ∧ ∀ g, RG n k g → lxl n g f → ¬ lxl n h g := by
  refine ⟨fun p hp => ?_, ?_⟩
  · rcases (by omega : p < i ∨ p = i ∨ i < p) with z | z | z
    · rw [us_cg p (fun j hj => e1 j (by omega)), e1 p z]; exact hh p hp
    · subst z
      have q := hh p hp
      rw [us_cg p e1, e2]
      omega
    · have q := hh i hin
      rw [e3 p hp z]
      exact ⟨by omega, by omega, us_0 f p⟩
  · rintro g hg ⟨j, j1, j2, j3⟩ ⟨l, l1, l2, l3⟩
    have hgj := hg j j1
    have ji : j ≤ i := by
      rcases (by omega : j ≤ i ∨ i < j) with z | z
      · exact z
      · rw [e3 j j1 z] at j3; omega
    have hfj : f j = h j ∨ (j = i ∧ f j = h j + 1) := by
      rcases (by omega : j < i ∨ j = i) with z | z
      · exact .inl (e1 j z)
      · exact .inr ⟨z, by rw [z]; exact e2⟩
    rcases (by omega : l < j ∨ l = j ∨ j < l) with z | z | z
    · have a := j2 l z
      have b := e1 l (by omega)
      omega
    · subst z
      omega
    · have a := l2 j z
      rcases hfj with b | ⟨b, c⟩
      · omega
      · subst b
        have e := us_cg (g := g) (h := h) l (fun q hq => (l2 q hq).symm)
        have q := hg l l1
        rw [e] at q
        exact hi l l1 z ⟨by omega, by omega⟩
/-- seats taken in hour g by the first j -/
noncomputable def gS (b h : Nat → Int) (g : Int) : Nat → Int
  | 0 => 0
  | j + 1 => if h j = g then gS b h g j + b j else gS b h g j
theorem gS_s (b h : Nat → Int) (g : Int) (j : Nat) : gS b h g (j + 1) = if h j = g then gS b h g j + b j else gS b h g j := rfl
theorem gS_cg {b : Nat → Int} {u : Int} : ∀ (j : Nat), (∀ i, i < j → g i = h i) → gS b g u j = gS b h u j
  | 0, _ => rfl
  | j + 1, e => by rw [gS_s, gS_s, gS_cg j (fun i hi => e i (by omega)), e j (by omega)]
theorem gS_0 {b : Nat → Int} (hb : ∀ j, 0 ≤ b j) (u : Int) : ∀ j : Nat, 0 ≤ gS b h u j
  | 0 => Int.le_refl 0
  | j + 1 => by have := gS_0 hb u j; have := hb j; rw [gS_s]; split <;> omega
theorem gS_mono {b : Nat → Int} (hb : ∀ j, 0 ≤ b j) (u : Int) {i : Nat} : ∀ {j : Nat}, i ≤ j → gS b h u i ≤ gS b h u j
  | 0, e => by rw [show i = 0 by omega]; exact Int.le_refl _
  | j + 1, e => by
    by_cases z : i = j + 1
    · rw [z]; exact Int.le_refl _
    · have q := gS_mono hb u (i := i) (j := j) (by omega)
      have := hb j
      rw [gS_s]
      split <;> omega
/-- papers that stand well: the first p, each beside those ahead of it -/
noncomputable def PG (ap : Nat → Nat → Prop) (b : Nat → Int) (S : Int) (p : Nat) (h : Nat → Int) : Prop := ∀ i, i < p → (∀ j, j < i → h j = h i → ap j i) ∧ gS b h (h i) (i + 1) ≤ S
variable {ap : Nat → Nat → Prop} {b : Nat → Int} {S : Int}
theorem PG_cg {p : Nat} (hp : PG ap b S p h) (e : ∀ j, j < p → g j = h j) : PG ap b S p g := fun i hi => by
  have q := hp i hi
  refine ⟨fun j hj z => q.1 j hj (by rw [← e j (by omega), ← e i hi]; exact z), ?_⟩
  rw [e i hi, gS_cg (i + 1) (fun j hj => e j (by omega))]
  exact q.2
theorem PG_all (hb : ∀ j, 0 ≤ b j) {p : Nat} (hp : PG ap b S p h) : ∀ q : Nat, q ≤ p → ∀ i, i < q → gS b h (h i) q ≤ S
  | 0, _, i, hi => absurd hi (Nat.not_lt_zero _)
  | q + 1, hq, i, hi => by
    rw [gS_s]
    by_cases c : h q = h i
    · rw [if_pos c, ← c]
      have r := (hp q (by omega)).2
      rw [gS_s, if_pos rfl] at r
      exact r
    · rw [if_neg c]
      have : i ≠ q := fun z => c (by rw [z])
      exact PG_all hb hp q (by omega) i (by omega)
theorem PG_of (hb : ∀ j, 0 ≤ b j) {p : Nat} (h1 : ∀ i, i < p → (∀ j, j < i → h j = h i → ap j i) ∧ gS b h (h i) p ≤ S) : PG ap b S p h := fun i hi => ⟨(h1 i hi).1, Int.le_trans (gS_mono hb _ (by omega)) (h1 i hi).2⟩
/-- one hour for each: it does -/
theorem PG_id (hb : ∀ j, j < n → b j ≤ S) (hS : 0 ≤ S) : RG n (n : Int) (fun i => (i : Int)) ∧ PG ap b S n (fun i => (i : Int)) := by
  have u : ∀ i : Nat, us (fun i => (i : Int)) i = (i : Int) := fun i => by
    induction i with
    | zero => rfl
    | succ i ih => rw [us_s, ih, if_pos (by omega)]; omega
  refine ⟨fun i hi => ⟨by dsimp only; omega, by dsimp only; omega, by rw [u]; exact Int.le_refl _⟩, fun i hi => ⟨fun j hj e => absurd e (by dsimp only; omega), ?_⟩⟩
  have z : ∀ q : Nat, q ≤ i → gS b (fun i => (i : Int)) (i : Int) q = 0 := fun q => by
    induction q with
    | zero => intro _; rfl
    | succ q ih => intro hq; rw [gS_s, if_neg (by omega), ih (by omega)]
  rw [gS_s, if_pos rfl, z i (Nat.le_refl _)]
  have := hb i hi
  omega
/-- there is a good row with fewer than k hours -/
noncomputable def hEx (ap : Nat → Nat → Prop) (b : Nat → Int) (S : Int) (n : Nat) (k : Int) : Prop := ∃ h, RG n k h ∧ PG ap b S n h
end PR

/-- who sits -/
noncomputable def hbt (M : zM) (i : Nat) (c : Int) : Int := zband (zbshr (M 98 (82 + 3 * i)) c) 1
theorem hbt_r (M : zM) (i : Nat) (c : Int) : 0 ≤ hbt M i c ∧ hbt M i c ≤ 1 := qband_r _ 1 (qb32 _) (by omega)
noncomputable def hS (M : zM) (c : Int) : Nat → Int
  | 0 => 0
  | i + 1 => hS M c i + hbt M i c
theorem hS_s (M : zM) (c : Int) (i : Nat) : hS M c (i + 1) = hS M c i + hbt M i c := rfl
theorem hS_r (M : zM) (c : Int) : ∀ i : Nat, 0 ≤ hS M c i ∧ hS M c i ≤ (i : Int)
  | 0 => ⟨Int.le_refl 0, Int.le_refl 0⟩
  | i + 1 => by have := hS_r M c i; have := hbt_r M i c; rw [hS_s]; omega
noncomputable def hAp (M : zM) (a b : Int) : Nat → Bool
  | 0 => true
  | i + 1 => if hbt M i a = 1 ∧ hbt M i b = 1 then false else hAp M a b i
theorem hAp_s (M : zM) (a b : Int) (i : Nat) : hAp M a b (i + 1) = if hbt M i a = 1 ∧ hbt M i b = 1 then false else hAp M a b i := rfl
theorem hAp_f {M : zM} {a b : Int} {i : Nat} (h : hAp M a b i = false) : ∀ n : Nat, i ≤ n → hAp M a b n = false
  | 0, q => by rw [show i = 0 by omega] at h; exact h
  | n + 1, q => by
    by_cases e : i = n + 1
    · rw [← e]; exact h
    · rw [hAp_s]; split
      · rfl
      · exact hAp_f h n (by omega)
/-- the rows and what stands beside what -/
noncomputable def hb (Mo M : zM) (j : Nat) : Int := hS Mo (M 116 j) (Mo 98 1).toNat
noncomputable def hap (Mo M : zM) (j i : Nat) : Prop := hAp Mo (M 116 j) (M 116 i) (Mo 98 1).toNat = true
theorem hb_0 (Mo M : zM) (j : Nat) : 0 ≤ hb Mo M j := (hS_r Mo (M 116 j) _).1
theorem gS_r {b h : Nat → Int} (hb : ∀ j, 0 ≤ b j ∧ b j ≤ 20) (u : Int) : ∀ j : Nat, 0 ≤ gS b h u j ∧ gS b h u j ≤ 20 * (j : Int)
  | 0 => ⟨Int.le_refl 0, Int.le_refl 0⟩
  | j + 1 => by have := gS_r (h := h) hb u j; have := hb j; rw [gS_s]; split <;> omega
set_option maxRecDepth 100000 in
theorem fh_272_97 {n : Nat} {M : zM} {Mo : zM} (hC : qMI Mo) (e98 : M 98 = Mo 98) (a1 : Int) : zH n (0, 0) 272 (0, zini [zR 97, .inl a1] 4, []) M (fun r M' => r = some (.inl (hS Mo a1 (Mo 98 1).toNat)) ∧ M' = M) := by
  have hz := zp_272
  show zH n (0, 0) 272 (0, [zR 97, .inl a1, zN, zN], []) M _
  have hn := hC.cnt1
  refine zH_w (c' := (4, [zR 97, .inl a1, .inl 0, .inl 0], [])) 4 hz rfl ?_
  have lp4 : ∀ (N : Nat) (s : Int) (i : Int), ((20 - i).toNat) < N → (0 ≤ i ∧ i ≤ Mo 98 1) → (s = hS Mo a1 i.toNat) → zH n (0, 0) 272 (4, [zR 97, .inl a1, .inl s, .inl i], []) M (fun r M' => r = some (.inl (hS Mo a1 (Mo 98 1).toNat)) ∧ M' = M) := by
    intro N
    induction N with
    | zero => intro s i hN; exact absurd hN (Nat.not_lt_zero _)
    | succ N ih4 =>
      intro s i hN hi hs
      refine zH_w (c' := (10, [zR 97, .inl a1, .inl s, .inl i], [.inl 1, zR 98, .inl i])) 4 hz rfl ?_
      refine zH_iald hz rfl rfl (.inl rfl) (fun hin10 => ?_)
      show zH n (0, 0) 272 (11, [zR 97, .inl a1, .inl s, .inl i], [.inl (M 98 (1 : Int).toNat), .inl i]) M _
      rw [show M 98 (1 : Int).toNat = Mo 98 1 from congrFun e98 1]
      refine zH_icmp_ge hz rfl (fun hb11 => ?_) (fun hb11 => ?_)
      · skip
        refine zH_w (c' := (41, [zR 97, .inl a1, .inl s, .inl i], [.inl s])) 1 hz rfl ?_
        exact zH_wr (r := some (.inl s)) 0 hz (by rfl) (⟨by rw [hs, show i.toNat = (Mo 98 1).toNat by omega], rfl⟩)
      · skip
        refine zH_w (c' := (27, [zR 97, .inl a1, .inl s, .inl i], [.inl (w32 ((w32 (80 + (w32 (3 * i)))) + 2)), zR 98, .inl s])) 10 hz rfl ?_
        refine zH_iald hz rfl rfl (.inl rfl) (fun hin27 => ?_)
        show zH n (0, 0) 272 (28, [zR 97, .inl a1, .inl s, .inl i], [.inl (M 98 (w32 ((w32 (80 + (w32 (3 * i)))) + 2) : Int).toNat), .inl s]) M _
        rw [show M 98 (w32 ((w32 (80 + (w32 (3 * i)))) + 2) : Int).toNat = Mo 98 (82 + 3 * i.toNat) from by rw [e98, w32_id (x := 3 * i) (by omega), w32_id (x := 80 + 3 * i) (by omega), w32_id (by omega)]; exact congrArg (Mo 98) (by omega)]
        refine zH_w (c' := (32, [zR 97, .inl a1, .inl s, .inl i], [.inl (zband (zbshr (Mo 98 (82 + 3 * i.toNat)) a1) 1), .inl s])) 4 hz rfl ?_
        rw [show zband (zbshr (Mo 98 (82 + 3 * i.toNat)) a1) 1 = hbt Mo i.toNat a1 from rfl]
        refine zH_w (c' := (33, [zR 97, .inl a1, .inl s, .inl i], [.inl (w32 (s + (hbt Mo i.toNat a1)))])) 1 hz rfl ?_
        rw [show w32 (s + (hbt Mo i.toNat a1)) = s + hbt Mo i.toNat a1 from w32_id (by have := hbt_r Mo i.toNat a1; have := hS_r Mo a1 i.toNat; omega)]
        refine zH_w (c' := (4, [zR 97, .inl a1, .inl (s + hbt Mo i.toNat a1), .inl (i + 1)], [])) 3 hz (by rw [show (.inl (i + 1) : zV) = .inl (w32 (i + 1)) from by rw [w32_id (by omega)]]; rfl) ?_
        refine ih4 (s + hbt Mo i.toNat a1) (i + 1) (by omega) ?_ ?_
        · omega
        · rw [show (i + 1).toNat = i.toNat + 1 by omega, hS_s, ← hs]
  refine lp4 (21) 0 0 (by omega) ?_ ?_
  · omega
  · rfl
set_option maxRecDepth 100000 in
theorem fh_273_97 {n : Nat} {M : zM} {Mo : zM} (hC : qMI Mo) (e98 : M 98 = Mo 98) (a1 a2 : Int) : zH n (0, 0) 273 (0, zini [zR 97, .inl a1, .inl a2] 5, []) M (fun r M' => r = some (.inl (if hAp Mo a1 a2 (Mo 98 1).toNat = true then 1 else 0)) ∧ M' = M) := by
  have hz := zp_273
  show zH n (0, 0) 273 (0, [zR 97, .inl a1, .inl a2, zN, zN], []) M _
  have hn := hC.cnt1
  refine zH_w (c' := (2, [zR 97, .inl a1, .inl a2, .inl 0, zN], [])) 2 hz rfl ?_
  have lp2 : ∀ (N : Nat) (i : Int) (u4 : zV), ((20 - i).toNat) < N → (0 ≤ i ∧ i ≤ Mo 98 1) → (hAp Mo a1 a2 i.toNat = true) → zH n (0, 0) 273 (2, [zR 97, .inl a1, .inl a2, .inl i, u4], []) M (fun r M' => r = some (.inl (if hAp Mo a1 a2 (Mo 98 1).toNat = true then 1 else 0)) ∧ M' = M) := by
    intro N
    induction N with
    | zero => intro i u4 hN; exact absurd hN (Nat.not_lt_zero _)
    | succ N ih2 =>
      intro i u4 hN hi hs
      refine zH_w (c' := (8, [zR 97, .inl a1, .inl a2, .inl i, u4], [.inl 1, zR 98, .inl i])) 4 hz rfl ?_
      refine zH_iald hz rfl rfl (.inl rfl) (fun hin8 => ?_)
      show zH n (0, 0) 273 (9, [zR 97, .inl a1, .inl a2, .inl i, u4], [.inl (M 98 (1 : Int).toNat), .inl i]) M _
      rw [show M 98 (1 : Int).toNat = Mo 98 1 from congrFun e98 1]
      refine zH_icmp_ge hz rfl (fun hb9 => ?_) (fun hb9 => ?_)
      · skip
        refine zH_w (c' := (56, [zR 97, .inl a1, .inl a2, .inl i, u4], [.inl 1])) 1 hz rfl ?_
        exact zH_zret hz rfl (⟨by rw [if_pos (by rw [show (Mo 98 1).toNat = i.toNat by omega]; exact hs)], rfl⟩)
      · skip
        refine zH_w (c' := (24, [zR 97, .inl a1, .inl a2, .inl i, u4], [.inl (w32 ((w32 (80 + (w32 (3 * i)))) + 2)), zR 98])) 9 hz rfl ?_
        refine zH_iald hz rfl rfl (.inl rfl) (fun hin24 => ?_)
        show zH n (0, 0) 273 (25, [zR 97, .inl a1, .inl a2, .inl i, u4], [.inl (M 98 (w32 ((w32 (80 + (w32 (3 * i)))) + 2) : Int).toNat)]) M _
        rw [show M 98 (w32 ((w32 (80 + (w32 (3 * i)))) + 2) : Int).toNat = Mo 98 (82 + 3 * i.toNat) from by rw [e98, w32_id (x := 3 * i) (by omega), w32_id (x := 80 + 3 * i) (by omega), w32_id (by omega)]; exact congrArg (Mo 98) (by omega)]
        refine zH_w (c' := (33, [zR 97, .inl a1, .inl a2, .inl i, .inl (Mo 98 (82 + 3 * i.toNat))], [.inl (zband (zbshr (Mo 98 (82 + 3 * i.toNat)) a1) 1)])) 6 hz rfl ?_
        rw [show zband (zbshr (Mo 98 (82 + 3 * i.toNat)) a1) 1 = hbt Mo i.toNat a1 from rfl]
        refine zH_w (c' := (34, [zR 97, .inl a1, .inl a2, .inl i, .inl (Mo 98 (82 + 3 * i.toNat))], [.inl 1, .inl (hbt Mo i.toNat a1)])) 1 hz rfl ?_
        refine zH_wi_ne (pc := 34) (n' := 37) (t := 49) (L := [zR 97, .inl a1, .inl a2, .inl i, .inl (Mo 98 (82 + 3 * i.toNat))]) (st := []) (x := (hbt Mo i.toNat a1)) (y := 1) 0 hz (by rfl) (fun hb34 => ?_) (fun hb34 => ?_)
        · skip
          have hno : ¬ (hbt Mo i.toNat a1 = 1 ∧ hbt Mo i.toNat a2 = 1) := fun q => hb34 q.1
          refine zH_w (c' := (2, [zR 97, .inl a1, .inl a2, .inl (i + 1), .inl (Mo 98 (82 + 3 * i.toNat))], [])) 2 hz (by rw [show (.inl (i + 1) : zV) = .inl (w32 (i + 1)) from by rw [w32_id (by omega)]]; rfl) ?_
          refine ih2 (i + 1) (.inl (Mo 98 (82 + 3 * i.toNat))) (by omega) ?_ ?_
          · omega
          · rw [show (i + 1).toNat = i.toNat + 1 by omega, hAp_s, if_neg hno]; exact hs
        · skip
          refine zH_w (c' := (43, [zR 97, .inl a1, .inl a2, .inl i, .inl (Mo 98 (82 + 3 * i.toNat))], [.inl (zband (zbshr (Mo 98 (82 + 3 * i.toNat)) a2) 1)])) 5 hz rfl ?_
          rw [show zband (zbshr (Mo 98 (82 + 3 * i.toNat)) a2) 1 = hbt Mo i.toNat a2 from rfl]
          refine zH_w (c' := (44, [zR 97, .inl a1, .inl a2, .inl i, .inl (Mo 98 (82 + 3 * i.toNat))], [.inl 1, .inl (hbt Mo i.toNat a2)])) 1 hz rfl ?_
          refine zH_wi_ne (pc := 44) (n' := 47) (t := 49) (L := [zR 97, .inl a1, .inl a2, .inl i, .inl (Mo 98 (82 + 3 * i.toNat))]) (st := []) (x := (hbt Mo i.toNat a2)) (y := 1) 0 hz (by rfl) (fun hb44 => ?_) (fun hb44 => ?_)
          · skip
            have hno : ¬ (hbt Mo i.toNat a1 = 1 ∧ hbt Mo i.toNat a2 = 1) := fun q => hb44 q.2
            refine zH_w (c' := (2, [zR 97, .inl a1, .inl a2, .inl (i + 1), .inl (Mo 98 (82 + 3 * i.toNat))], [])) 2 hz (by rw [show (.inl (i + 1) : zV) = .inl (w32 (i + 1)) from by rw [w32_id (by omega)]]; rfl) ?_
            refine ih2 (i + 1) (.inl (Mo 98 (82 + 3 * i.toNat))) (by omega) ?_ ?_
            · omega
            · rw [show (i + 1).toNat = i.toNat + 1 by omega, hAp_s, if_neg hno]; exact hs
          · skip
            refine zH_w (c' := (48, [zR 97, .inl a1, .inl a2, .inl i, .inl (Mo 98 (82 + 3 * i.toNat))], [.inl 0])) 1 hz rfl ?_
            exact zH_zret hz rfl (⟨by rw [if_neg (by rw [hAp_f (i := i.toNat + 1) (by rw [hAp_s, if_pos ⟨by omega, by omega⟩]) (Mo 98 1).toNat (by omega)]; decide)], rfl⟩)
  refine lp2 (21) 0 zN (by omega) ?_ ?_
  · omega
  · rfl
set_option maxRecDepth 100000 in
theorem fh_274_97 {n : Nat} {M : zM} {Mo : zM} (hC : qMI Mo) (e98 : M 98 = Mo 98) (hn : 0 ≤ M 97 34 ∧ M 97 34 ≤ 9) (a1 : Int) : zH n (0, 0) 274 (0, zini [zR 97, .inl a1] 5, []) M (fun r M' => ∃ v : Int, r = some (.inl v) ∧ M' = M ∧ (v = 0 ∨ v = 1) ∧ (v = 1 ↔ ∀ q, q < (M 97 34).toNat → ((∀ j, j < q → M 117 j = M 117 q → hap Mo M j q) ∧ gS (hb Mo M) (M 117) (M 117 q) (M 97 34).toNat ≤ a1))) := by
  have hz := zp_274
  show zH n (0, 0) 274 (0, [zR 97, .inl a1, zN, zN, zN], []) M _
  have hB : ∀ j, 0 ≤ hb Mo M j ∧ hb Mo M j ≤ 20 := fun j => by have q := hS_r Mo (M 116 j) (Mo 98 1).toNat; have := hC.cnt1; unfold hb; omega
  refine zH_w (c' := (2, [zR 97, .inl a1, .inl 0, zN, zN], [])) 2 hz rfl ?_
  have lp2 : ∀ (N : Nat) (i : Int) (u3 : zV) (u4 : zV), ((9 - i).toNat) < N → (0 ≤ i ∧ i ≤ M 97 34) → (∀ q, q < i.toNat → ((∀ j, j < q → M 117 j = M 117 q → hap Mo M j q) ∧ gS (hb Mo M) (M 117) (M 117 q) (M 97 34).toNat ≤ a1)) → zH n (0, 0) 274 (2, [zR 97, .inl a1, .inl i, u3, u4], []) M (fun r M' => ∃ v : Int, r = some (.inl v) ∧ M' = M ∧ (v = 0 ∨ v = 1) ∧ (v = 1 ↔ ∀ q, q < (M 97 34).toNat → ((∀ j, j < q → M 117 j = M 117 q → hap Mo M j q) ∧ gS (hb Mo M) (M 117) (M 117 q) (M 97 34).toNat ≤ a1))) := by
    intro N
    induction N with
    | zero => intro i u3 u4 hN; exact absurd hN (Nat.not_lt_zero _)
    | succ N ih2 =>
      intro i u3 u4 hN hi hg
      refine zH_w (c' := (7, [zR 97, .inl a1, .inl i, u3, u4], [.inl (M 97 34), .inl i])) 3 hz rfl ?_
      refine zH_wi_ge (pc := 7) (n' := 10) (t := 101) (L := [zR 97, .inl a1, .inl i, u3, u4]) (st := []) (x := i) (y := (M 97 34)) 0 hz (by rfl) (fun hb7 => ?_) (fun hb7 => ?_)
      · skip
        refine zH_w (c' := (102, [zR 97, .inl a1, .inl i, u3, u4], [.inl 1])) 1 hz rfl ?_
        exact zH_zret hz rfl (⟨1, rfl, rfl, .inr rfl, ⟨fun _ q hq => hg q (by omega), fun _ => rfl⟩⟩)
      · skip
        have hil : i.toNat < (M 97 34).toNat := by omega
        refine zH_w (c' := (15, [zR 97, .inl a1, .inl i, .inl 0, .inl 0], [])) 4 hz rfl ?_
        have lp15 : ∀ (N : Nat) (t : Int) (j : Int), ((9 - j).toNat) < N → (0 ≤ j ∧ j ≤ M 97 34) → (t = gS (hb Mo M) (M 117) (M 117 i.toNat) j.toNat) → (∀ q, q < j.toNat → q < i.toNat → M 117 q = M 117 i.toNat → hap Mo M q i.toNat) → zH n (0, 0) 274 (15, [zR 97, .inl a1, .inl i, .inl t, .inl j], []) M (fun r M' => ∃ v : Int, r = some (.inl v) ∧ M' = M ∧ (v = 0 ∨ v = 1) ∧ (v = 1 ↔ ∀ q, q < (M 97 34).toNat → ((∀ j, j < q → M 117 j = M 117 q → hap Mo M j q) ∧ gS (hb Mo M) (M 117) (M 117 q) (M 97 34).toNat ≤ a1))) := by
          intro N
          induction N with
          | zero => intro t j hN; exact absurd hN (Nat.not_lt_zero _)
          | succ N ih15 =>
            intro t j hN hj ht ha
            refine zH_w (c' := (21, [zR 97, .inl a1, .inl i, .inl t, .inl j], [.inl (M 97 34), .inl j])) 3 hz rfl ?_
            refine zH_wi_ge (pc := 21) (n' := 24) (t := 88) (L := [zR 97, .inl a1, .inl i, .inl t, .inl j]) (st := []) (x := j) (y := (M 97 34)) 0 hz (by rfl) (fun hb21 => ?_) (fun hb21 => ?_)
            · skip
              refine zH_wi_le (pc := 90) (n' := 93) (t := 95) (L := [zR 97, .inl a1, .inl i, .inl t, .inl j]) (st := []) (x := t) (y := a1) 2 hz (by rfl) (fun hb90 => ?_) (fun hb90 => ?_)
              · skip
                refine zH_w (c' := (2, [zR 97, .inl a1, .inl (i + 1), .inl t, .inl j], [])) 2 hz (by rw [show (.inl (i + 1) : zV) = .inl (w32 (i + 1)) from by rw [w32_id (by omega)]]; rfl) ?_
                refine ih2 (i + 1) (.inl t) (.inl j) (by omega) ?_ ?_
                · omega
                · intro q hq
                  by_cases z : q = i.toNat
                  · rw [z]
                    exact ⟨fun j hj e => ha j (by omega) hj e, by rw [show (M 97 34).toNat = j.toNat by omega, ← ht]; omega⟩
                  · exact hg q (by omega)
              · skip
                refine zH_w (c' := (94, [zR 97, .inl a1, .inl i, .inl t, .inl j], [.inl 0])) 1 hz rfl ?_
                exact zH_zret hz rfl (⟨0, rfl, rfl, .inl rfl, ⟨fun q => absurd q (by decide), fun q => by have z := (q i.toNat hil).2; rw [show (M 97 34).toNat = j.toNat by omega, ← ht] at z; omega⟩⟩)
            · skip
              have gr := gS_r (h := M 117) hB (M 117 i.toNat) j.toNat
              have gs := gS_s (hb Mo M) (M 117) (M 117 i.toNat) j.toNat
              refine zH_w (c' := (30, [zR 97, .inl a1, .inl i, .inl t, .inl j], [.inl j, zR 117])) 3 hz rfl ?_
              refine zH_iald hz rfl rfl (.inl rfl) (fun hin30 => ?_)
              show zH n (0, 0) 274 (31, [zR 97, .inl a1, .inl i, .inl t, .inl j], [.inl (M 117 (j : Int).toNat)]) M _
              refine zH_w (c' := (36, [zR 97, .inl a1, .inl i, .inl t, .inl j], [.inl i, zR 117, .inl (M 117 (j : Int).toNat)])) 3 hz rfl ?_
              refine zH_iald hz rfl rfl (.inl rfl) (fun hin36 => ?_)
              show zH n (0, 0) 274 (37, [zR 97, .inl a1, .inl i, .inl t, .inl j], [.inl (M 117 (i : Int).toNat), .inl (M 117 (j : Int).toNat)]) M _
              refine zH_wi_ne (pc := 37) (n' := 40) (t := 82) (L := [zR 97, .inl a1, .inl i, .inl t, .inl j]) (st := []) (x := (M 117 (j : Int).toNat)) (y := (M 117 (i : Int).toNat)) 0 hz (by rfl) (fun hb37 => ?_) (fun hb37 => ?_)
              · skip
                have hst := gs.trans (if_neg hb37)
                rw [← ht] at hst
                have hap9 : j.toNat < i.toNat → M 117 j.toNat = M 117 i.toNat → hap Mo M j.toNat i.toNat := fun _ e => absurd e hb37
                refine zH_w (c' := (15, [zR 97, .inl a1, .inl i, .inl t, .inl (j + 1)], [])) 2 hz (by rw [show (.inl (j + 1) : zV) = .inl (w32 (j + 1)) from by rw [w32_id (by omega)]]; rfl) ?_
                refine ih15 t (j + 1) (by omega) ?_ ?_ ?_
                · omega
                · rw [show (j + 1).toNat = j.toNat + 1 by omega]; exact hst.symm
                · intro q h1 h2 h3
                  by_cases z : q = j.toNat
                  · rw [z] at h2 h3 ⊢; exact hap9 h2 h3
                  · exact ha q (by omega) h2 h3
              · skip
                have hst := gs.trans (if_pos (Decidable.byContradiction hb37))
                rw [← ht] at hst
                refine zH_w (c' := (48, [zR 97, .inl a1, .inl i, .inl t, .inl j], [.inl j, zR 116, zR 97, .inl t])) 5 hz rfl ?_
                refine zH_iald hz rfl rfl (.inl rfl) (fun hin48 => ?_)
                show zH n (0, 0) 274 (49, [zR 97, .inl a1, .inl i, .inl t, .inl j], [.inl (M 116 (j : Int).toNat), zR 97, .inl t]) M _
                refine zH_wE (c1 := (52, [zR 97, .inl a1, .inl i, .inl t, .inl j], [.inl t])) 0 hz zp_272 (fh_272_97 hC e98 (M 116 (j : Int).toNat)) (by rfl) ?_
                show zH n (0, 0) 274 (52, [zR 97, .inl a1, .inl i, .inl t, .inl j], [.inl (hS Mo (M 116 (j : Int).toNat) (Mo 98 1).toNat), .inl t]) M _
                rw [show hS Mo (M 116 (j : Int).toNat) (Mo 98 1).toNat = hb Mo M j.toNat from rfl]
                refine zH_w (c' := (53, [zR 97, .inl a1, .inl i, .inl t, .inl j], [.inl (w32 (t + (hb Mo M j.toNat)))])) 1 hz rfl ?_
                rw [show w32 (t + (hb Mo M j.toNat)) = t + hb Mo M j.toNat from w32_id (by have := hB j.toNat; omega)]
                refine zH_w (c' := (57, [zR 97, .inl a1, .inl i, .inl (t + hb Mo M j.toNat), .inl j], [.inl i, .inl j])) 3 hz rfl ?_
                refine zH_wi_ge (pc := 57) (n' := 60) (t := 82) (L := [zR 97, .inl a1, .inl i, .inl (t + hb Mo M j.toNat), .inl j]) (st := []) (x := j) (y := i) 0 hz (by rfl) (fun hb57 => ?_) (fun hb57 => ?_)
                · skip
                  have hap9 : j.toNat < i.toNat → M 117 j.toNat = M 117 i.toNat → hap Mo M j.toNat i.toNat := fun q _ => absurd q (by omega)
                  refine zH_w (c' := (15, [zR 97, .inl a1, .inl i, .inl (t + hb Mo M j.toNat), .inl (j + 1)], [])) 2 hz (by rw [show (.inl (j + 1) : zV) = .inl (w32 (j + 1)) from by rw [w32_id (by omega)]]; rfl) ?_
                  refine ih15 (t + hb Mo M j.toNat) (j + 1) (by omega) ?_ ?_ ?_
                  · omega
                  · rw [show (j + 1).toNat = j.toNat + 1 by omega]; exact hst.symm
                  · intro q h1 h2 h3
                    by_cases z : q = j.toNat
                    · rw [z] at h2 h3 ⊢; exact hap9 h2 h3
                    · exact ha q (by omega) h2 h3
                · skip
                  refine zH_w (c' := (67, [zR 97, .inl a1, .inl i, .inl (t + hb Mo M j.toNat), .inl j], [.inl j, zR 116, zR 97])) 4 hz rfl ?_
                  refine zH_iald hz rfl rfl (.inl rfl) (fun hin67 => ?_)
                  show zH n (0, 0) 274 (68, [zR 97, .inl a1, .inl i, .inl (t + hb Mo M j.toNat), .inl j], [.inl (M 116 (j : Int).toNat), zR 97]) M _
                  refine zH_w (c' := (73, [zR 97, .inl a1, .inl i, .inl (t + hb Mo M j.toNat), .inl j], [.inl i, zR 116, .inl (M 116 (j : Int).toNat), zR 97])) 3 hz rfl ?_
                  refine zH_iald hz rfl rfl (.inl rfl) (fun hin73 => ?_)
                  show zH n (0, 0) 274 (74, [zR 97, .inl a1, .inl i, .inl (t + hb Mo M j.toNat), .inl j], [.inl (M 116 (i : Int).toNat), .inl (M 116 (j : Int).toNat), zR 97]) M _
                  refine zH_wE (c1 := (77, [zR 97, .inl a1, .inl i, .inl (t + hb Mo M j.toNat), .inl j], [])) 0 hz zp_273 (fh_273_97 hC e98 (M 116 (j : Int).toNat) (M 116 (i : Int).toNat)) (by rfl) ?_
                  show zH n (0, 0) 274 (77, [zR 97, .inl a1, .inl i, .inl (t + hb Mo M j.toNat), .inl j], [.inl (if hAp Mo (M 116 (j : Int).toNat) (M 116 (i : Int).toNat) (Mo 98 1).toNat = true then 1 else 0)]) M _
                  obtain ⟨y, hy⟩ : ∃ x : Int, x = (if hAp Mo (M 116 (j : Int).toNat) (M 116 (i : Int).toNat) (Mo 98 1).toNat = true then 1 else 0) := ⟨_, rfl⟩
                  rw [← hy]
                  refine zH_if_ne hz rfl (fun hb77 => ?_) (fun hb77 => ?_)
                  · skip
                    have hap9 : j.toNat < i.toNat → M 117 j.toNat = M 117 i.toNat → hap Mo M j.toNat i.toNat := fun _ _ => by
                      by_cases z : hAp Mo (M 116 j.toNat) (M 116 i.toNat) (Mo 98 1).toNat = true
                      · exact z
                      · exact absurd (hy.trans (if_neg z)) hb77
                    refine zH_w (c' := (15, [zR 97, .inl a1, .inl i, .inl (t + hb Mo M j.toNat), .inl (j + 1)], [])) 2 hz (by rw [show (.inl (j + 1) : zV) = .inl (w32 (j + 1)) from by rw [w32_id (by omega)]]; rfl) ?_
                    refine ih15 (t + hb Mo M j.toNat) (j + 1) (by omega) ?_ ?_ ?_
                    · omega
                    · rw [show (j + 1).toNat = j.toNat + 1 by omega]; exact hst.symm
                    · intro q h1 h2 h3
                      by_cases z : q = j.toNat
                      · rw [z] at h2 h3 ⊢; exact hap9 h2 h3
                      · exact ha q (by omega) h2 h3
                  · skip
                    have hnot : ¬ hap Mo M j.toNat i.toNat := fun z => by rw [if_pos (show hAp Mo (M 116 (j : Int).toNat) (M 116 (i : Int).toNat) (Mo 98 1).toNat = true from z)] at hy; omega
                    refine zH_w (c' := (81, [zR 97, .inl a1, .inl i, .inl (t + hb Mo M j.toNat), .inl j], [.inl 0])) 1 hz rfl ?_
                    exact zH_zret hz rfl (⟨0, rfl, rfl, .inl rfl, ⟨fun q => absurd q (by decide), fun q => absurd ((q i.toNat hil).1 j.toNat (by omega) (Decidable.byContradiction hb37)) hnot⟩⟩)
        refine lp15 (10) 0 0 (by omega) ?_ ?_ ?_
        · omega
        · rfl
        · exact fun q hq => absurd hq (Nat.not_lt_zero _)
  refine lp2 (10) 0 zN zN (by omega) ?_ ?_
  · omega
  · exact fun q hq => absurd hq (Nat.not_lt_zero _)
set_option maxRecDepth 100000 in
theorem fh_275_97 {n : Nat} {M : zM} (hn : 1 ≤ M 97 34 ∧ M 97 34 ≤ 9) (a1 : Int) (hk : a1 ≤ 9) (hR : RG (M 97 34).toNat a1 (M 117)) : zH n (0, 0) 275 (0, zini [zR 97, .inl a1] 5, []) M (fun r M' => ∃ v : Int, r = some (.inl v) ∧ (∀ q, q ≠ 117 → q ≠ 118 → M' q = M q) ∧ ((v = 0 ∧ M' 117 = M 117 ∧ ∀ g, RG (M 97 34).toNat a1 g → ¬ lxl (M 97 34).toNat (M 117) g) ∨ (v = 1 ∧ RG (M 97 34).toNat a1 (M' 117) ∧ ∀ g, RG (M 97 34).toNat a1 g → lxl (M 97 34).toNat g (M' 117) → ¬ lxl (M 97 34).toNat (M 117) g))) := by
  have hz := zp_275
  show zH n (0, 0) 275 (0, [zR 97, .inl a1, zN, zN, zN], []) M _
  refine zH_w (c' := (4, [zR 97, .inl a1, .inl 0, .inl 0, zN], [])) 4 hz rfl ?_
  have lp4 : ∀ (N : Nat) (u : Int) (i : Int) (u4 : zV) (M5 : zM), ((9 - i).toNat) < N → (0 ≤ i ∧ i ≤ M 97 34) → (u = us (M 117) i.toNat) → (∀ q, q ≠ 118 → M5 q = M q) → (∀ j, j < i.toNat → M5 118 j = us (M 117) j) → zH n (0, 0) 275 (4, [zR 97, .inl a1, .inl u, .inl i, u4], []) M5 (fun r M' => ∃ v : Int, r = some (.inl v) ∧ (∀ q, q ≠ 117 → q ≠ 118 → M' q = M q) ∧ ((v = 0 ∧ M' 117 = M 117 ∧ ∀ g, RG (M 97 34).toNat a1 g → ¬ lxl (M 97 34).toNat (M 117) g) ∨ (v = 1 ∧ RG (M 97 34).toNat a1 (M' 117) ∧ ∀ g, RG (M 97 34).toNat a1 g → lxl (M 97 34).toNat g (M' 117) → ¬ lxl (M 97 34).toNat (M 117) g))) := by
    intro N
    induction N with
    | zero => intro u i u4 M5 hN; exact absurd hN (Nat.not_lt_zero _)
    | succ N ih4 =>
      intro u i u4 M5 hN hi hu hO hT
      refine zH_w (c' := (9, [zR 97, .inl a1, .inl u, .inl i, u4], [.inl (M5 97 34), .inl i])) 3 hz rfl ?_
      rw [show M5 97 34 = M 97 34 from congrFun (hO 97 (by decide)) 34]
      refine zH_icmp_ge hz rfl (fun hb9 => ?_) (fun hb9 => ?_)
      · skip
        have h7 : M5 117 = M 117 := hO 117 (by decide)
        have hT9 : ∀ j, j < (M 97 34).toNat → M5 118 j = us (M 117) j := fun j hj => hT j (by omega)
        refine zH_w (c' := (54, [zR 97, .inl a1, .inl u, .inl i, u4], [.inl (M5 97 34)])) 2 hz rfl ?_
        rw [show M5 97 34 = M 97 34 from congrFun (hO 97 (by decide)) 34]
        refine zH_w (c' := (56, [zR 97, .inl a1, .inl u, .inl i, u4], [.inl (w32 ((M 97 34) - 1))])) 2 hz rfl ?_
        rw [show w32 ((M 97 34) - 1) = M 97 34 - 1 from w32_id (by omega)]
        refine zH_w (c' := (57, [zR 97, .inl a1, .inl u, .inl (M 97 34 - 1), u4], [])) 1 hz rfl ?_
        have lp57 : ∀ (N : Nat) (i : Int), ((i + 1).toNat) < N → (0 ≤ i ∧ i < M 97 34) → (∀ p, p < (M 97 34).toNat → i.toNat < p → ¬ (M 117 p < us (M 117) p ∧ M 117 p + 1 < a1)) → zH n (0, 0) 275 (57, [zR 97, .inl a1, .inl u, .inl i, u4], []) M5 (fun r M' => ∃ v : Int, r = some (.inl v) ∧ (∀ q, q ≠ 117 → q ≠ 118 → M' q = M q) ∧ ((v = 0 ∧ M' 117 = M 117 ∧ ∀ g, RG (M 97 34).toNat a1 g → ¬ lxl (M 97 34).toNat (M 117) g) ∨ (v = 1 ∧ RG (M 97 34).toNat a1 (M' 117) ∧ ∀ g, RG (M 97 34).toNat a1 g → lxl (M 97 34).toNat g (M' 117) → ¬ lxl (M 97 34).toNat (M 117) g))) := by
          intro N
          induction N with
          | zero => intro i hN; exact absurd hN (Nat.not_lt_zero _)
          | succ N ih57 =>
            intro i hN hi2 hl
            refine zH_w (c' := (58, [zR 97, .inl a1, .inl u, .inl i, u4], [.inl i])) 1 hz rfl ?_
            refine zH_wf_le (pc := 58) (n' := 61) (t := 134) (L := [zR 97, .inl a1, .inl u, .inl i, u4]) (st := []) (x := i) 0 hz (by rfl) (fun hb58 => ?_) (fun hb58 => ?_)
            · skip
              refine zH_w (c' := (135, [zR 97, .inl a1, .inl u, .inl i, u4], [.inl 0])) 1 hz rfl ?_
              exact zH_zret hz rfl (⟨0, rfl, fun r q1 q2 => hO r q2, .inl ⟨rfl, h7, fun g hg => RG_last hR (fun p h1 h2 => hl p h1 (by omega)) hg⟩⟩)
            · skip
              have hRi := hR i.toNat (by omega)
              refine zH_w (c' := (66, [zR 97, .inl a1, .inl u, .inl i, u4], [.inl i, zR 117])) 3 hz rfl ?_
              refine zH_iald hz rfl rfl (.inl rfl) (fun hin66 => ?_)
              show zH n (0, 0) 275 (67, [zR 97, .inl a1, .inl u, .inl i, u4], [.inl (M5 117 (i : Int).toNat)]) M5 _
              rw [show M5 117 (i : Int).toNat = M 117 i.toNat from congrFun h7 _]
              refine zH_w (c' := (72, [zR 97, .inl a1, .inl u, .inl i, u4], [.inl i, zR 118, .inl (M 117 i.toNat)])) 3 hz rfl ?_
              refine zH_iald hz rfl rfl (.inl rfl) (fun hin72 => ?_)
              show zH n (0, 0) 275 (73, [zR 97, .inl a1, .inl u, .inl i, u4], [.inl (M5 118 (i : Int).toNat), .inl (M 117 i.toNat)]) M5 _
              rw [show M5 118 (i : Int).toNat = us (M 117) i.toNat from hT9 i.toNat (by omega)]
              refine zH_icmp_ge hz rfl (fun hb73 => ?_) (fun hb73 => ?_)
              · skip
                have hno : ¬ (M 117 i.toNat < us (M 117) i.toNat ∧ M 117 i.toNat + 1 < a1) := fun q => absurd q.1 (by omega)
                refine zH_w (c' := (57, [zR 97, .inl a1, .inl u, .inl (i - 1), u4], [])) 2 hz (by rw [show (.inl (i - 1) : zV) = .inl (w32 (i + (-1))) from by rw [w32_id (by omega)]; rfl]; rfl) ?_
                refine ih57 (i - 1) (by omega) ?_ ?_
                · omega
                · intro p h1 h2
                  by_cases z : p = i.toNat
                  · rw [z]; exact hno
                  · exact hl p h1 (by omega)
              · skip
                refine zH_w (c' := (81, [zR 97, .inl a1, .inl u, .inl i, u4], [.inl i, zR 117])) 3 hz rfl ?_
                refine zH_iald hz rfl rfl (.inl rfl) (fun hin81 => ?_)
                show zH n (0, 0) 275 (82, [zR 97, .inl a1, .inl u, .inl i, u4], [.inl (M5 117 (i : Int).toNat)]) M5 _
                rw [show M5 117 (i : Int).toNat = M 117 i.toNat from congrFun h7 _]
                refine zH_w (c' := (84, [zR 97, .inl a1, .inl u, .inl i, u4], [.inl (w32 ((M 117 i.toNat) + 1))])) 2 hz rfl ?_
                rw [show w32 ((M 117 i.toNat) + 1) = M 117 i.toNat + 1 from w32_id (by omega)]
                refine zH_w (c' := (85, [zR 97, .inl a1, .inl u, .inl i, u4], [.inl a1, .inl (M 117 i.toNat + 1)])) 1 hz rfl ?_
                refine zH_wi_ge (pc := 85) (n' := 88) (t := 128) (L := [zR 97, .inl a1, .inl u, .inl i, u4]) (st := []) (x := (M 117 i.toNat + 1)) (y := a1) 0 hz (by rfl) (fun hb85 => ?_) (fun hb85 => ?_)
                · skip
                  have hno : ¬ (M 117 i.toNat < us (M 117) i.toNat ∧ M 117 i.toNat + 1 < a1) := fun q => absurd q.2 (by omega)
                  refine zH_w (c' := (57, [zR 97, .inl a1, .inl u, .inl (i - 1), u4], [])) 2 hz (by rw [show (.inl (i - 1) : zV) = .inl (w32 (i + (-1))) from by rw [w32_id (by omega)]; rfl]; rfl) ?_
                  refine ih57 (i - 1) (by omega) ?_ ?_
                  · omega
                  · intro p h1 h2
                    by_cases z : p = i.toNat
                    · rw [z]; exact hno
                    · exact hl p h1 (by omega)
                · skip
                  refine zH_w (c' := (94, [zR 97, .inl a1, .inl u, .inl i, u4], [.inl i, zR 117, .inl i, zR 117])) 4 hz rfl ?_
                  refine zH_iald hz rfl rfl (.inl rfl) (fun hin94 => ?_)
                  show zH n (0, 0) 275 (95, [zR 97, .inl a1, .inl u, .inl i, u4], [.inl (M5 117 (i : Int).toNat), .inl i, zR 117]) M5 _
                  rw [show M5 117 (i : Int).toNat = M 117 i.toNat from congrFun h7 _]
                  refine zH_w (c' := (97, [zR 97, .inl a1, .inl u, .inl i, u4], [.inl (w32 ((M 117 i.toNat) + 1)), .inl i, zR 117])) 2 hz rfl ?_
                  rw [show w32 ((M 117 i.toNat) + 1) = M 117 i.toNat + 1 from w32_id (by omega)]
                  refine zH_iast hz rfl rfl (fun hin97 => ?_)
                  show zH n (0, 0) 275 (98, [zR 97, .inl a1, .inl u, .inl i, u4], []) (zput M5 117 (i : Int).toNat (M 117 i.toNat + 1)) _
                  obtain ⟨M6, hM6⟩ : ∃ X : zM, X = zput M5 117 (i : Int).toNat (M 117 i.toNat + 1) := ⟨_, rfl⟩
                  rw [← hM6]
                  refine zH_w (c' := (101, [zR 97, .inl a1, .inl u, .inl i, u4], [.inl (w32 (i + 1))])) 3 hz rfl ?_
                  rw [show w32 (i + 1) = i + 1 from w32_id (by omega)]
                  refine zH_w (c' := (103, [zR 97, .inl a1, .inl u, .inl i, .inl (i + 1)], [])) 1 hz rfl ?_
                  have lp103 : ∀ (N : Nat) (j : Int) (M7 : zM), ((9 - j).toNat) < N → (i < j ∧ j ≤ M 97 34) → (∀ q, q ≠ 117 → M7 q = M6 q) → (∀ p, p ≤ i.toNat → M7 117 p = M6 117 p) → (∀ p, i.toNat < p → p < j.toNat → M7 117 p = 0) → zH n (0, 0) 275 (103, [zR 97, .inl a1, .inl u, .inl i, .inl j], []) M7 (fun r M' => ∃ v : Int, r = some (.inl v) ∧ (∀ q, q ≠ 117 → q ≠ 118 → M' q = M q) ∧ ((v = 0 ∧ M' 117 = M 117 ∧ ∀ g, RG (M 97 34).toNat a1 g → ¬ lxl (M 97 34).toNat (M 117) g) ∨ (v = 1 ∧ RG (M 97 34).toNat a1 (M' 117) ∧ ∀ g, RG (M 97 34).toNat a1 g → lxl (M 97 34).toNat g (M' 117) → ¬ lxl (M 97 34).toNat (M 117) g))) := by
                    intro N
                    induction N with
                    | zero => intro j M7 hN; exact absurd hN (Nat.not_lt_zero _)
                    | succ N ih103 =>
                      intro j M7 hN hj hO7 hA7 hB7
                      refine zH_w (c' := (109, [zR 97, .inl a1, .inl u, .inl i, .inl j], [.inl (M7 97 34), .inl j])) 3 hz rfl ?_
                      rw [show M7 97 34 = M 97 34 from by rw [hO7 97 (by decide), hM6, zput_oth (by decide)]; exact congrFun (hO 97 (by decide)) 34]
                      refine zH_icmp_ge hz rfl (fun hb109 => ?_) (fun hb109 => ?_)
                      · skip
                        refine zH_w (c' := (127, [zR 97, .inl a1, .inl u, .inl i, .inl j], [.inl 1])) 1 hz rfl ?_
                        refine zH_zret hz rfl ?_
                        have e2 : M7 117 i.toNat = M 117 i.toNat + 1 := by rw [hA7 i.toNat (Nat.le_refl _), hM6, qput_eq]
                        have e1 : ∀ p, p < i.toNat → M7 117 p = M 117 p := fun p hp => by rw [hA7 p (by omega), hM6, qput_nk (by omega), h7]
                        have q := RG_next (f := M7 117) hR (i := i.toNat) (by omega) (by omega) (by omega) hl e1 e2 (fun p h1 h2 => hB7 p h2 (by omega))
                        exact ⟨1, rfl, fun r q1 q2 => by rw [hO7 r q1, hM6, zput_oth q1]; exact hO r q2, .inr ⟨rfl, q.1, q.2⟩⟩
                      · skip
                        refine zH_w (c' := (119, [zR 97, .inl a1, .inl u, .inl i, .inl j], [.inl 0, .inl j, zR 117])) 4 hz rfl ?_
                        refine zH_iast hz rfl rfl (fun hin119 => ?_)
                        show zH n (0, 0) 275 (120, [zR 97, .inl a1, .inl u, .inl i, .inl j], []) (zput M7 117 (j : Int).toNat 0) _
                        refine zH_w (c' := (103, [zR 97, .inl a1, .inl u, .inl i, .inl (j + 1)], [])) 2 hz (by rw [show (.inl (j + 1) : zV) = .inl (w32 (j + 1)) from by rw [w32_id (by omega)]]; rfl) ?_
                        refine ih103 (j + 1) (zput M7 117 (j : Int).toNat 0) (by omega) ?_ ?_ ?_ ?_
                        · omega
                        · exact fun q hq => (zput_oth hq).trans (hO7 q hq)
                        · exact fun p hp => (qput_nk (by omega)).trans (hA7 p hp)
                        · intro p h1 h2
                          by_cases z : p = j.toNat
                          · rw [z]; exact qput_eq
                          · rw [qput_nk z]; exact hB7 p h1 (by omega)
                  refine lp103 (10) (i + 1) M6 (by omega) ?_ ?_ ?_ ?_
                  · omega
                  · exact fun _ _ => rfl
                  · exact fun _ _ => rfl
                  · exact fun p h1 h2 => absurd h2 (by omega)
        refine lp57 (11) (M 97 34 - 1) (by omega) ?_ ?_
        · omega
        · exact fun p h1 h2 => absurd h1 (by omega)
      · skip
        have hRi := hR i.toNat (by omega)
        have gs := us_s (M 117) i.toNat
        rw [← hu] at gs hRi
        refine zH_w (c' := (18, [zR 97, .inl a1, .inl u, .inl i, u4], [.inl u, .inl i, zR 118])) 4 hz rfl ?_
        refine zH_iast hz rfl rfl (fun hin18 => ?_)
        show zH n (0, 0) 275 (19, [zR 97, .inl a1, .inl u, .inl i, u4], []) (zput M5 118 (i : Int).toNat u) _
        refine zH_w (c' := (24, [zR 97, .inl a1, .inl u, .inl i, u4], [.inl i, zR 117])) 3 hz rfl ?_
        refine zH_iald hz rfl rfl (.inl rfl) (fun hin24 => ?_)
        show zH n (0, 0) 275 (25, [zR 97, .inl a1, .inl u, .inl i, u4], [.inl ((zput M5 118 (i : Int).toNat u) 117 (i : Int).toNat)]) (zput M5 118 (i : Int).toNat u) _
        rw [show zput M5 118 (i : Int).toNat u 117 (i : Int).toNat = M 117 i.toNat from by rw [zput_oth (show (117 : Nat) ≠ 118 by decide), hO 117 (by decide)]]
        refine zH_w (c' := (27, [zR 97, .inl a1, .inl u, .inl i, u4], [.inl (w32 ((M 117 i.toNat) + 1))])) 2 hz rfl ?_
        rw [show w32 ((M 117 i.toNat) + 1) = M 117 i.toNat + 1 from w32_id (by omega)]
        refine zH_w (c' := (28, [zR 97, .inl a1, .inl u, .inl i, u4], [.inl u, .inl (M 117 i.toNat + 1)])) 1 hz rfl ?_
        refine zH_wi_le (pc := 28) (n' := 31) (t := 42) (L := [zR 97, .inl a1, .inl u, .inl i, u4]) (st := []) (x := (M 117 i.toNat + 1)) (y := u) 0 hz (by rfl) (fun hb28 => ?_) (fun hb28 => ?_)
        · skip
          have hst := gs.trans (if_neg (by omega))
          refine zH_w (c' := (4, [zR 97, .inl a1, .inl u, .inl (i + 1), u4], [])) 4 hz (by rw [show (.inl (i + 1) : zV) = .inl (w32 (i + 1)) from by rw [w32_id (by omega)]]; rfl) ?_
          refine ih4 u (i + 1) u4 (zput M5 118 (i : Int).toNat u) (by omega) ?_ ?_ ?_ ?_
          · omega
          · rw [show (i + 1).toNat = i.toNat + 1 by omega]; exact hst.symm
          · exact fun q hq => (zput_oth hq).trans (hO q hq)
          · intro j hj
            by_cases z : j = i.toNat
            · rw [z, qput_eq]; exact hu
            · rw [qput_nk z]; exact hT j (by omega)
        · skip
          have hst := gs.trans (if_pos (by omega))
          refine zH_w (c' := (36, [zR 97, .inl a1, .inl u, .inl i, u4], [.inl i, zR 117])) 3 hz rfl ?_
          refine zH_iald hz rfl rfl (.inl rfl) (fun hin36 => ?_)
          show zH n (0, 0) 275 (37, [zR 97, .inl a1, .inl u, .inl i, u4], [.inl ((zput M5 118 (i : Int).toNat u) 117 (i : Int).toNat)]) (zput M5 118 (i : Int).toNat u) _
          rw [show zput M5 118 (i : Int).toNat u 117 (i : Int).toNat = M 117 i.toNat from by rw [zput_oth (show (117 : Nat) ≠ 118 by decide), hO 117 (by decide)]]
          refine zH_w (c' := (39, [zR 97, .inl a1, .inl u, .inl i, u4], [.inl (w32 ((M 117 i.toNat) + 1))])) 2 hz rfl ?_
          rw [show w32 ((M 117 i.toNat) + 1) = M 117 i.toNat + 1 from w32_id (by omega)]
          refine zH_w (c' := (4, [zR 97, .inl a1, .inl (M 117 i.toNat + 1), .inl (i + 1), u4], [])) 4 hz (by rw [show (.inl (i + 1) : zV) = .inl (w32 (i + 1)) from by rw [w32_id (by omega)]]; rfl) ?_
          refine ih4 (M 117 i.toNat + 1) (i + 1) u4 (zput M5 118 (i : Int).toNat u) (by omega) ?_ ?_ ?_ ?_
          · omega
          · rw [show (i + 1).toNat = i.toNat + 1 by omega]; exact hst.symm
          · exact fun q hq => (zput_oth hq).trans (hO q hq)
          · intro j hj
            by_cases z : j = i.toNat
            · rw [z, qput_eq]; exact hu
            · rw [qput_nk z]; exact hT j (by omega)
  refine lp4 (10) 0 0 zN M (by omega) ?_ ?_ ?_ ?_
  · omega
  · rfl
  · exact fun _ _ => rfl
  · exact fun j hj => absurd hj (Nat.not_lt_zero _)
section PM
variable {M M' Mo : zM} {m : Nat} {S : Int}
/-- the papers, in the order of their courses -/
noncomputable def pl (m : Nat) : Nat → Nat → Int
  | 0 => fun _ => 0
  | c + 1 => if m / 2 ^ c % 2 = 1 then hup (pl m c) (qpc c m) (c : Int) else pl m c
theorem pl_s (m c : Nat) : pl m (c + 1) = if m / 2 ^ c % 2 = 1 then hup (pl m c) (qpc c m) (c : Int) else pl m c := rfl
theorem pl_is (m : Nat) : ∀ c j : Nat, j < qpc c m → ∃ d : Nat, d < c ∧ m / 2 ^ d % 2 = 1 ∧ pl m c j = (d : Int)
  | 0, j, h => absurd h (Nat.not_lt_zero _)
  | c + 1, j, h => by
    rw [qpc_next] at h
    rw [pl_s]
    by_cases b : m / 2 ^ c % 2 = 1
    · rw [if_pos b]
      by_cases e : j = qpc c m
      · exact ⟨c, by omega, b, by rw [e, hup_eq]⟩
      · obtain ⟨d, q1, q2, q3⟩ := pl_is m c j (by omega)
        exact ⟨d, by omega, q2, by rw [hup_ne e]; exact q3⟩
    · rw [if_neg b]
      obtain ⟨d, q1, q2, q3⟩ := pl_is m c j (by omega)
      exact ⟨d, by omega, q2, q3⟩
noncomputable def hbP (Mo : zM) (m j : Nat) : Int := hS Mo (pl m (Mo 98 0).toNat j) (Mo 98 1).toNat
noncomputable def hapP (Mo : zM) (m j i : Nat) : Prop := hAp Mo (pl m (Mo 98 0).toNat j) (pl m (Mo 98 0).toNat i) (Mo 98 1).toNat = true
noncomputable def hTo (Mo : zM) (m : Nat) (S : Int) : Prop := ∃ c : Nat, (c : Int) < Mo 98 0 ∧ m / 2 ^ c % 2 = 1 ∧ S < hS Mo (c : Int) (Mo 98 1).toNat
theorem hbP_0 (j : Nat) : 0 ≤ hbP Mo m j := (hS_r Mo _ _).1
theorem gS_b {b b' h : Nat → Int} {u : Int} : ∀ (j : Nat), (∀ i, i < j → b' i = b i) → gS b' h u j = gS b h u j
  | 0, _ => rfl
  | j + 1, e => by rw [gS_s, gS_s, gS_b j (fun i hi => e i (by omega)), e j (by omega)]
theorem PG_b {ap ap' : Nat → Nat → Prop} {b b' h : Nat → Int} {p : Nat} (hp : PG ap b S p h) (e : ∀ i, i < p → b' i = b i) (e2 : ∀ j i, j < p → i < p → ap j i → ap' j i) : PG ap' b' S p h := fun i hi => by
  have q := hp i hi
  exact ⟨fun j hj z => e2 j i (by omega) hi (q.1 j hj z), by rw [gS_b (i + 1) (fun j hj => e j (by omega))]; exact q.2⟩
/-- the memory holds these papers -/
noncomputable def hPp (Mo : zM) (m : Nat) (M : zM) : Prop := M 97 34 = (qpc (Mo 98 0).toNat m : Nat) ∧ ∀ j, j < qpc (Mo 98 0).toNat m → M 116 j = pl m (Mo 98 0).toNat j
theorem hPp.mv (h : hPp Mo m M) (e : M' 97 34 = M 97 34) (e2 : M' 116 = M 116) : hPp Mo m M' := by unfold hPp; rw [e, e2]; exact h
theorem hPp.to (h : hPp Mo m M) {g : Nat → Int} (hp : PG (hap Mo M) (hb Mo M) S (qpc (Mo 98 0).toNat m) g) : PG (hapP Mo m) (hbP Mo m) S (qpc (Mo 98 0).toNat m) g :=
  PG_b hp (fun i hi => by unfold hbP hb; rw [h.2 i hi]) (fun j i hj hi q => by unfold hapP; unfold hap at q; rw [h.2 i hi, h.2 j hj] at q; exact q)
theorem hPp.of (h : hPp Mo m M) {g : Nat → Int} (hp : PG (hapP Mo m) (hbP Mo m) S (qpc (Mo 98 0).toNat m) g) : PG (hap Mo M) (hb Mo M) S (qpc (Mo 98 0).toNat m) g :=
  PG_b hp (fun i hi => by unfold hbP hb; rw [h.2 i hi]) (fun j i hj hi q => by unfold hap; unfold hapP at q; rw [h.2 i hi, h.2 j hj]; exact q)
/-- what is found: so many hours, the row -/
noncomputable def hFd (Mo : zM) (m : Nat) (S v : Int) (h : Nat → Int) : Prop := (v = -1 ∧ hTo Mo m S) ∨ (¬ hTo Mo m S ∧ ((v = 0 ∧ ∀ k : Int, 1 ≤ k → k ≤ (qpc (Mo 98 0).toNat m : Nat) → ¬ hEx (hapP Mo m) (hbP Mo m) S (qpc (Mo 98 0).toNat m) k) ∨ (1 ≤ v ∧ v ≤ (qpc (Mo 98 0).toNat m : Nat) ∧ (∀ k : Int, 1 ≤ k → k < v → ¬ hEx (hapP Mo m) (hbP Mo m) S (qpc (Mo 98 0).toNat m) k) ∧ RG (qpc (Mo 98 0).toNat m) v h ∧ PG (hapP Mo m) (hbP Mo m) S (qpc (Mo 98 0).toNat m) h ∧ ∀ g, RG (qpc (Mo 98 0).toNat m) v g → PG (hapP Mo m) (hbP Mo m) S (qpc (Mo 98 0).toNat m) g → ¬ lxl (qpc (Mo 98 0).toNat m) g h)))
theorem hFd_u {v v' : Int} {h h' : Nat → Int} (a : hFd Mo m S v h) (b : hFd Mo m S v' h') : v = v' ∧ (1 ≤ v → ∀ i, i < qpc (Mo 98 0).toNat m → h i = h' i) := by
  rcases a with ⟨a1, a2⟩ | ⟨a1, a⟩
  · rcases b with ⟨b1, b2⟩ | ⟨b1, b⟩
    · exact ⟨by omega, fun z => by omega⟩
    · exact absurd a2 b1
  · rcases b with ⟨b1, b2⟩ | ⟨b1, b⟩
    · exact absurd b2 a1
    · rcases a with ⟨a2, a3⟩ | ⟨a2, a3, a4, a5, a6, a7⟩
      · rcases b with ⟨b2, b3⟩ | ⟨b2, b3, b4, b5, b6, b7⟩
        · exact ⟨by omega, fun z => by omega⟩
        · exact absurd ⟨h', b5, b6⟩ (a3 v' b2 b3)
      · rcases b with ⟨b2, b3⟩ | ⟨b2, b3, b4, b5, b6, b7⟩
        · exact absurd ⟨h, a5, a6⟩ (b3 v a2 a3)
        · have e : v = v' := by
            rcases (by omega : v = v' ∨ v < v' ∨ v' < v) with z | z | z
            · exact z
            · exact absurd ⟨h, a5, a6⟩ (b4 v a2 z)
            · exact absurd ⟨h', b5, b6⟩ (a4 v' b2 z)
          subst e
          refine ⟨rfl, fun _ => ?_⟩
          rcases lxl_tri h h' (qpc (Mo 98 0).toNat m) with q | q | q
          · exact q
          · exact absurd q (b7 h a5 a6)
          · exact absurd q (a7 h' b5 b6)
theorem p_n9 {m : Nat} (h : qpc 31 m ≤ 9) {c : Nat} (hc : c ≤ 31) : qpc c m ≤ 9 := Nat.le_trans (qpc_mono hc) h
theorem m275q {n : Nat} {M : zM} {Q' : Option zV → zM → Prop} (hM : qMI M) {a1 : Int} (h1 : 1 ≤ a1 ∧ a1 ≤ 9) (h : zH n (0, 0) 275 (0, zini [zR 97, .inl a1] 5, []) M Q') : zH n (0, 0) 275 (0, zini [zR 97, .inl a1] 5, []) M (fun r M' => Q' r M' ∧ qMI M' ∧ ∀ x : Int, r = some (.inl x) → (x = 1 ∧ qHv M + 1 ≤ qHv M') ∨ (x = 0 ∧ qHv M' = qHv M)) :=
  (zG.toH (zG.andH (qm_275_97 (d := 100) (by decide) hM a1 h1) h)).mono (fun r M' q => ⟨q.2, q.1.1.1, fun x e => by
    obtain ⟨y, y1, -, y2⟩ := q.1.2
    rw [e] at y1
    cases y1
    exact y2⟩)
theorem qMI.p97 (h : qMI M) {x : Int} (hx : 0 ≤ x ∧ x ≤ 9) : qMI (zput M 97 34 x) := h.put (by decide) (by decide) (by refine ⟨fun _ => ?_, fun h => ?_, fun _ => ⟨fun h => ?_, fun h => ?_, fun h => ?_, fun _ => hx, fun h => ?_⟩, fun h => ?_, fun h => ?_⟩ <;> first | (unfold qin; omega) | exact absurd h (by decide))
theorem qMI.p116 (h : qMI M) {r k : Nat} {x : Int} (hr : r = 116 ∨ r = 117) (hx : 0 ≤ x ∧ x ≤ 13) : qMI (zput M r k x) := by
  rcases hr with rfl | rfl <;> exact h.put (by decide) (qCd_a (by decide) (by decide)) (by refine ⟨fun _ => ?_, fun h => ?_, fun h => ?_, fun h => ?_, fun _ => hx⟩ <;> first | (unfold qin; omega) | exact absurd h (by decide))
end PM
set_option maxHeartbeats 4000000 in
set_option maxRecDepth 100000 in
theorem fh_276_97 {n : Nat} {M : zM} {Mo : zM} (hC : qMI Mo) (hM : qMI M) (e98 : M 98 = Mo 98) (a1 a2 : Int) (h1 : 0 ≤ a1 ∧ a1 ≤ 16383) (h9 : qpc 31 a1.toNat ≤ 9) : zH n (0, 0) 276 (0, zini [zR 97, .inl a1, .inl a2] 5, []) M (fun r M' => ∃ v : Int, r = some (.inl v) ∧ hFd Mo a1.toNat a2 v (M' 117) ∧ (v ≠ -1 → hPp Mo a1.toNat M')) := by
  have hz := zp_276
  show zH n (0, 0) 276 (0, [zR 97, .inl a1, .inl a2, zN, zN], []) M _
  have hn0 := hC.cnt0
  have hn1 := hC.cnt1
  have hq9 : (qpc (Mo 98 0).toNat a1.toNat) ≤ 9 := p_n9 h9 (by omega)
  refine zH_w (c' := (7, [zR 97, .inl a1, .inl a2, .inl 0, zN], [])) 5 hz rfl ?_
  have lp7 : ∀ (N : Nat) (c : Int) (u4 : zV) (M5 : zM), ((14 - c).toNat) < N → (0 ≤ c ∧ c ≤ Mo 98 0) → (qMI M5) → (∀ r, r ≠ 97 → r ≠ 116 → r ≠ 117 → r ≠ 118 → M5 r = M r) → (M5 97 34 = (qpc c.toNat a1.toNat : Nat)) → (∀ j, j < qpc c.toNat a1.toNat → M5 116 j = pl a1.toNat c.toNat j) → (∀ d : Nat, d < c.toNat → a1.toNat / 2 ^ d % 2 = 1 → hS Mo (d : Int) (Mo 98 1).toNat ≤ a2) → zH n (0, 0) 276 (7, [zR 97, .inl a1, .inl a2, .inl c, u4], []) M5 (fun r M' => ∃ v : Int, r = some (.inl v) ∧ hFd Mo a1.toNat a2 v (M' 117) ∧ (v ≠ -1 → hPp Mo a1.toNat M')) := by
    intro N
    induction N with
    | zero => intro c u4 M5 hN; exact absurd hN (Nat.not_lt_zero _)
    | succ N ih7 =>
      intro c u4 M5 hN hi hM5 hO h34 hcs hsi
      refine zH_w (c' := (13, [zR 97, .inl a1, .inl a2, .inl c, u4], [.inl 0, zR 98, .inl c])) 4 hz rfl ?_
      refine zH_iald hz rfl rfl (.inl rfl) (fun hin13 => ?_)
      show zH n (0, 0) 276 (14, [zR 97, .inl a1, .inl a2, .inl c, u4], [.inl (M5 98 (0 : Int).toNat), .inl c]) M5 _
      rw [show M5 98 (0 : Int).toNat = Mo 98 0 from congrFun ((hO 98 (by decide) (by decide) (by decide) (by decide)).trans e98) 0]
      refine zH_icmp_ge hz rfl (fun hb14 => ?_) (fun hb14 => ?_)
      · skip
        have ecn : c.toNat = (Mo 98 0).toNat := by omega
        rw [ecn] at h34 hcs hsi
        have hP5 : hPp Mo a1.toNat M5 := ⟨h34, hcs⟩
        have hnT : ¬ hTo Mo a1.toNat a2 := fun ⟨d, q1, q2, q3⟩ => by have := hsi d (by omega) q2; omega
        refine zH_w (c' := (65, [zR 97, .inl a1, .inl a2, .inl 1, u4], [])) 2 hz rfl ?_
        have lp65 : ∀ (N : Nat) (k : Int) (u4 : zV) (M6 : zM), ((11 - k).toNat) < N → (1 ≤ k ∧ k ≤ (qpc (Mo 98 0).toNat a1.toNat) + 1) → (qMI M6) → (∀ r, r ≠ 97 → r ≠ 116 → r ≠ 117 → r ≠ 118 → M6 r = M r) → (hPp Mo a1.toNat M6) → (∀ k' : Int, 1 ≤ k' → k' < k → ¬ hEx (hapP Mo a1.toNat) (hbP Mo a1.toNat) a2 (qpc (Mo 98 0).toNat a1.toNat) k') → zH n (0, 0) 276 (65, [zR 97, .inl a1, .inl a2, .inl k, u4], []) M6 (fun r M' => ∃ v : Int, r = some (.inl v) ∧ hFd Mo a1.toNat a2 v (M' 117) ∧ (v ≠ -1 → hPp Mo a1.toNat M')) := by
          intro N
          induction N with
          | zero => intro k u4 M6 hN; exact absurd hN (Nat.not_lt_zero _)
          | succ N ih65 =>
            intro k u4 M6 hN hk hM6 hO6 hP6 hno
            refine zH_w (c' := (70, [zR 97, .inl a1, .inl a2, .inl k, u4], [.inl (M6 97 34), .inl k])) 3 hz rfl ?_
            rw [hP6.1]
            refine zH_icmp_gt hz rfl (fun hb70 => ?_) (fun hb70 => ?_)
            · skip
              refine zH_w (c' := (134, [zR 97, .inl a1, .inl a2, .inl k, u4], [.inl 0])) 1 hz rfl ?_
              exact zH_wr (r := some (.inl 0)) 0 hz (by rfl) (⟨0, rfl, .inr ⟨hnT, .inl ⟨rfl, fun k' q1 q2 => hno k' q1 (by omega)⟩⟩, fun _ => hP6⟩)
            · skip
              refine zH_w (c' := (76, [zR 97, .inl a1, .inl a2, .inl k, .inl 0], [])) 2 hz rfl ?_
              have lp76 : ∀ (N : Nat) (j : Int) (M7 : zM), ((9 - j).toNat) < N → (0 ≤ j ∧ j ≤ (qpc (Mo 98 0).toNat a1.toNat)) → (qMI M7) → (∀ r, r ≠ 97 → r ≠ 116 → r ≠ 117 → r ≠ 118 → M7 r = M r) → (hPp Mo a1.toNat M7) → (∀ q, q < j.toNat → M7 117 q = 0) → zH n (0, 0) 276 (76, [zR 97, .inl a1, .inl a2, .inl k, .inl j], []) M7 (fun r M' => ∃ v : Int, r = some (.inl v) ∧ hFd Mo a1.toNat a2 v (M' 117) ∧ (v ≠ -1 → hPp Mo a1.toNat M')) := by
                intro N
                induction N with
                | zero => intro j M7 hN; exact absurd hN (Nat.not_lt_zero _)
                | succ N ih76 =>
                  intro j M7 hN hj hM7 hO7 hP7 hZ
                  refine zH_w (c' := (82, [zR 97, .inl a1, .inl a2, .inl k, .inl j], [.inl (M7 97 34), .inl j])) 3 hz rfl ?_
                  rw [hP7.1]
                  refine zH_icmp_ge hz rfl (fun hb82 => ?_) (fun hb82 => ?_)
                  · skip
                    have hv7 := hM7.hv
                    refine zH_w (c' := (102, [zR 97, .inl a1, .inl a2, .inl k, .inl 1], [])) 2 hz rfl ?_
                    have lp102 : ∀ (N : Nat) (fl : Int) (M8 : zM), ((2 * (30000000000 - qHv M8) + fl).toNat) < N → (qMI M8) → (∀ r, r ≠ 97 → r ≠ 116 → r ≠ 117 → r ≠ 118 → M8 r = M r) → (hPp Mo a1.toNat M8) → ((fl = 1 ∧ RG (qpc (Mo 98 0).toNat a1.toNat) k (M8 117) ∧ ∀ g, RG (qpc (Mo 98 0).toNat a1.toNat) k g → PG (hapP Mo a1.toNat) (hbP Mo a1.toNat) a2 (qpc (Mo 98 0).toNat a1.toNat) g → ¬ lxl (qpc (Mo 98 0).toNat a1.toNat) g (M8 117)) ∨ (fl = 0 ∧ ∀ g, RG (qpc (Mo 98 0).toNat a1.toNat) k g → ¬ PG (hapP Mo a1.toNat) (hbP Mo a1.toNat) a2 (qpc (Mo 98 0).toNat a1.toNat) g)) → zH n (0, 0) 276 (102, [zR 97, .inl a1, .inl a2, .inl k, .inl fl], []) M8 (fun r M' => ∃ v : Int, r = some (.inl v) ∧ hFd Mo a1.toNat a2 v (M' 117) ∧ (v ≠ -1 → hPp Mo a1.toNat M')) := by
                      intro N
                      induction N with
                      | zero => intro fl M8 hN; exact absurd hN (Nat.not_lt_zero _)
                      | succ N ih102 =>
                        intro fl M8 hN hM8 hO8 hP8 hF
                        refine zH_w (c' := (104, [zR 97, .inl a1, .inl a2, .inl k, .inl fl], [.inl fl])) 1 hz rfl ?_
                        refine zH_wf_eq (pc := 104) (n' := 107) (t := 127) (L := [zR 97, .inl a1, .inl a2, .inl k, .inl fl]) (st := []) (x := fl) 0 hz (by rfl) (fun hb104 => ?_) (fun hb104 => ?_)
                        · skip
                          have hnk : ∀ g, RG (qpc (Mo 98 0).toNat a1.toNat) k g → ¬ PG (hapP Mo a1.toNat) (hbP Mo a1.toNat) a2 (qpc (Mo 98 0).toNat a1.toNat) g := hF.elim (fun q => absurd (q.1.symm.trans hb104) (by decide)) (fun q => q.2)
                          refine zH_w (c' := (65, [zR 97, .inl a1, .inl a2, .inl (k + 1), .inl fl], [])) 2 hz (by rw [show (.inl (k + 1) : zV) = .inl (w32 (k + 1)) from by rw [w32_id (by omega)]]; rfl) ?_
                          refine ih65 (k + 1) (.inl fl) M8 (by omega) ?_ ?_ ?_ ?_ ?_
                          · omega
                          · exact hM8
                          · exact hO8
                          · exact hP8
                          · intro k' q1 q2
                            by_cases z : k' = k
                            · rw [z]; exact fun q => q.elim (fun g hg => hnk g hg.1 hg.2)
                            · exact hno k' q1 (by omega)
                        · skip
                          have hF1 : fl = 1 ∧ RG (qpc (Mo 98 0).toNat a1.toNat) k (M8 117) ∧ ∀ g, RG (qpc (Mo 98 0).toNat a1.toNat) k g → PG (hapP Mo a1.toNat) (hbP Mo a1.toNat) a2 (qpc (Mo 98 0).toNat a1.toNat) g → ¬ lxl (qpc (Mo 98 0).toNat a1.toNat) g (M8 117) := hF.elim id (fun q => absurd q.1 hb104)
                          have hvv := hM8.hv
                          refine zH_wC (c1 := (112, [zR 97, .inl a1, .inl a2, .inl k, .inl fl], [])) 2 hz zp_274 (fh_274_97 hC ((hO8 98 (by decide) (by decide) (by decide) (by decide)).trans e98) (by rw [hP8.1]; omega) a2) (by rfl) ?_
                          rintro _ M9e ⟨v1, rfl, e9, hg0, hg1⟩
                          show zH n (0, 0) 276 (112, [zR 97, .inl a1, .inl a2, .inl k, .inl fl], [.inl v1]) M9e _
                          replace e9 := e9.symm
                          subst e9
                          refine zH_if_eq hz rfl (fun hb112 => ?_) (fun hb112 => ?_)
                          · skip
                            have hbad : ¬ PG (hapP Mo a1.toNat) (hbP Mo a1.toNat) a2 (qpc (Mo 98 0).toNat a1.toNat) (M8 117) := fun q => by
                              have q2 := hP8.of q
                              have z := hg1.mpr (by
                                rw [hP8.1, Int.toNat_natCast]
                                exact fun i hi => ⟨(q2 i hi).1, PG_all (hb_0 Mo M8) q2 _ (Nat.le_refl _) i hi⟩)
                              omega
                            have hF1r := hF1.2.1
                            refine zH_w (c' := (119, [zR 97, .inl a1, .inl a2, .inl k, .inl fl], [.inl k, zR 97])) 2 hz rfl ?_
                            refine zH_wC (c1 := (122, [zR 97, .inl a1, .inl a2, .inl k, .inl fl], [])) 0 hz zp_275 (m275q hM8 (by omega) (fh_275_97 (by rw [hP8.1]; omega) k (by omega) (by rw [hP8.1, Int.toNat_natCast]; exact hF1.2.1))) (by rfl) ?_
                            rintro _ M9 ⟨⟨x9, rfl, f9, hv9a⟩, hM9, hq9v⟩
                            show zH n (0, 0) 276 (122, [zR 97, .inl a1, .inl a2, .inl k, .inl fl], [.inl x9]) M9 _
                            have hv9 : (x9 = 0 ∧ M9 117 = M8 117 ∧ ∀ g, RG (qpc (Mo 98 0).toNat a1.toNat) k g → ¬ lxl (qpc (Mo 98 0).toNat a1.toNat) (M8 117) g) ∨ (x9 = 1 ∧ RG (qpc (Mo 98 0).toNat a1.toNat) k (M9 117) ∧ ∀ g, RG (qpc (Mo 98 0).toNat a1.toNat) k g → lxl (qpc (Mo 98 0).toNat a1.toNat) g (M9 117) → ¬ lxl (qpc (Mo 98 0).toNat a1.toNat) (M8 117) g) := by
                              have z := hv9a
                              rw [hP8.1, Int.toNat_natCast] at z
                              exact z
                            have hvn := hq9v x9 rfl
                            have hv99 := hM9.hv
                            refine zH_w (c' := (102, [zR 97, .inl a1, .inl a2, .inl k, .inl x9], [])) 2 hz rfl ?_
                            refine ih102 x9 M9 (by omega) ?_ ?_ ?_ ?_
                            · exact hM9
                            · exact fun r q1 q2 q3 q4 => (f9 r q3 q4).trans (hO8 r q1 q2 q3 q4)
                            · exact hP8.mv (congrFun (f9 97 (by decide) (by decide)) 34) (f9 116 (by decide) (by decide))
                            · rcases hv9 with ⟨z0, z1, z2⟩ | ⟨z0, z1, z2⟩
                              · refine .inr ⟨z0, fun g hg hp => ?_⟩
                                rcases lxl_tri (M8 117) g (qpc (Mo 98 0).toNat a1.toNat) with q | q | q
                                · exact hbad (PG_cg hp q)
                                · exact z2 g hg q
                                · exact hF1.2.2 g hg hp q
                              · refine .inl ⟨z0, z1, fun g hg hp hl => ?_⟩
                                rcases lxl_tri (M8 117) g (qpc (Mo 98 0).toNat a1.toNat) with q | q | q
                                · exact hbad (PG_cg hp q)
                                · exact z2 g hg hl q
                                · exact hF1.2.2 g hg hp q
                          · skip
                            have hgood : PG (hapP Mo a1.toNat) (hbP Mo a1.toNat) a2 (qpc (Mo 98 0).toNat a1.toNat) (M8 117) := by
                              refine hP8.to (PG_of (hb_0 Mo M8) ?_)
                              have z := hg1.mp (by omega)
                              rw [hP8.1, Int.toNat_natCast] at z
                              exact z
                            refine zH_w (c' := (116, [zR 97, .inl a1, .inl a2, .inl k, .inl fl], [.inl k])) 1 hz rfl ?_
                            exact zH_wr (r := some (.inl k)) 0 hz (by rfl) (⟨k, rfl, .inr ⟨hnT, .inr ⟨hk.1, by omega, hno, hF1.2.1, hgood, hF1.2.2⟩⟩, fun _ => hP8⟩)
                    refine lp102 (60000000010) 1 M7 (by omega) ?_ ?_ ?_ ?_
                    · exact hM7
                    · exact hO7
                    · exact hP7
                    · refine .inl ⟨rfl, fun i hi => ?_, fun g hg _ hl => ?_⟩
                      · rw [hZ i (by omega)]; exact ⟨Int.le_refl 0, by omega, us_0 _ _⟩
                      · obtain ⟨i, i1, i2, i3⟩ := hl
                        rw [hZ i (by omega)] at i3
                        have := (hg i i1).1
                        omega
                  · skip
                    refine zH_w (c' := (92, [zR 97, .inl a1, .inl a2, .inl k, .inl j], [.inl 0, .inl j, zR 117])) 4 hz rfl ?_
                    refine zH_iast hz rfl rfl (fun hin92 => ?_)
                    show zH n (0, 0) 276 (93, [zR 97, .inl a1, .inl a2, .inl k, .inl j], []) (zput M7 117 (j : Int).toNat 0) _
                    refine zH_w (c' := (76, [zR 97, .inl a1, .inl a2, .inl k, .inl (j + 1)], [])) 2 hz (by rw [show (.inl (j + 1) : zV) = .inl (w32 (j + 1)) from by rw [w32_id (by omega)]]; rfl) ?_
                    refine ih76 (j + 1) (zput M7 117 (j : Int).toNat 0) (by omega) ?_ ?_ ?_ ?_ ?_
                    · omega
                    · exact hM7.p116 (.inr rfl) (by decide)
                    · exact fun r q1 q2 q3 q4 => (zput_oth q3).trans (hO7 r q1 q2 q3 q4)
                    · exact hP7.mv (by rw [zput_oth (by decide)]) (by rw [zput_oth (by decide)])
                    · intro q hq
                      by_cases z : q = j.toNat
                      · rw [z]; exact qput_eq
                      · rw [qput_nk z]; exact hZ q (by omega)
              refine lp76 (10) 0 M6 (by omega) ?_ ?_ ?_ ?_ ?_
              · omega
              · exact hM6
              · exact hO6
              · exact hP6
              · exact fun q hq => absurd hq (Nat.not_lt_zero _)
        refine lp65 (12) 1 u4 M5 (by omega) ?_ ?_ ?_ ?_ ?_
        · omega
        · exact hM5
        · exact hO
        · exact hP5
        · exact fun q q1 q2 => absurd q1 (by omega)
      · skip
        have ec : ((c.toNat : Nat) : Int) = c := by omega
        have hqn := qpc_next c.toNat a1.toNat
        have hps := pl_s a1.toNat c.toNat
        have h5e : M5 98 = Mo 98 := (hO 98 (by decide) (by decide) (by decide) (by decide)).trans e98
        have hqc : qpc c.toNat a1.toNat ≤ 9 := p_n9 h9 (by omega)
        have hqc1 : qpc (c.toNat + 1) a1.toNat ≤ 9 := p_n9 h9 (by omega)
        refine zH_w (c' := (22, [zR 97, .inl a1, .inl a2, .inl c, u4], [.inl (zband (zbshr a1 c) 1)])) 5 hz rfl ?_
        rw [show zband (zbshr a1 c) 1 = ((a1.toNat / 2 ^ c.toNat % 2 : Nat) : Int) from qbit a1 c (by omega) (by omega)]
        refine zH_w (c' := (23, [zR 97, .inl a1, .inl a2, .inl c, u4], [.inl 1, .inl ((a1.toNat / 2 ^ c.toNat % 2 : Nat) : Int)])) 1 hz rfl ?_
        refine zH_wi_ne (pc := 23) (n' := 26) (t := 57) (L := [zR 97, .inl a1, .inl a2, .inl c, u4]) (st := []) (x := ((a1.toNat / 2 ^ c.toNat % 2 : Nat) : Int)) (y := 1) 0 hz (by rfl) (fun hb23 => ?_) (fun hb23 => ?_)
        · skip
          have hb0 : ¬ a1.toNat / 2 ^ c.toNat % 2 = 1 := by omega
          have hMn := hM5
          have hOn := hO
          have eq : qpc (c.toNat + 1) a1.toNat = qpc c.toNat a1.toNat := by omega
          have h34n : M5 97 34 = (qpc (c.toNat + 1) a1.toNat : Nat) := by rw [eq]; exact h34
          have hcsn : ∀ j, j < qpc (c.toNat + 1) a1.toNat → M5 116 j = pl a1.toNat (c.toNat + 1) j := by rw [eq, hps, if_neg hb0]; exact hcs
          have hsin : ∀ d : Nat, d < c.toNat + 1 → a1.toNat / 2 ^ d % 2 = 1 → hS Mo (d : Int) (Mo 98 1).toNat ≤ a2 := fun d hd hb => by
            by_cases z : d = c.toNat
            · rw [z] at hb; exact absurd hb hb0
            · exact hsi d (by omega) hb
          refine zH_w (c' := (7, [zR 97, .inl a1, .inl a2, .inl (c + 1), u4], [])) 2 hz (by rw [show (.inl (c + 1) : zV) = .inl (w32 (c + 1)) from by rw [w32_id (by omega)]]; rfl) ?_
          refine ih7 (c + 1) u4 M5 (by omega) ?_ ?_ ?_ ?_ ?_ ?_
          · omega
          · exact hMn
          · exact hOn
          · rw [show (c + 1).toNat = c.toNat + 1 by omega]; exact h34n
          · rw [show (c + 1).toNat = c.toNat + 1 by omega]; exact hcsn
          · rw [show (c + 1).toNat = c.toNat + 1 by omega]; exact hsin
        · skip
          have hb1 : a1.toNat / 2 ^ c.toNat % 2 = 1 := by omega
          have eq : qpc (c.toNat + 1) a1.toNat = qpc c.toNat a1.toNat + 1 := by omega
          refine zH_wE (c1 := (31, [zR 97, .inl a1, .inl a2, .inl c, u4], [])) 2 hz zp_272 (fh_272_97 hC h5e c) (by rfl) ?_
          show zH n (0, 0) 276 (31, [zR 97, .inl a1, .inl a2, .inl c, u4], [.inl (hS Mo c (Mo 98 1).toNat)]) M5 _
          refine zH_wi_le (pc := 32) (n' := 35) (t := 37) (L := [zR 97, .inl a1, .inl a2, .inl c, u4]) (st := []) (x := (hS Mo c (Mo 98 1).toNat)) (y := a2) 1 hz (by rfl) (fun hb32 => ?_) (fun hb32 => ?_)
          · skip
            refine zH_w (c' := (45, [zR 97, .inl a1, .inl a2, .inl c, u4], [.inl (M5 97 34), zR 116])) 4 hz rfl ?_
            rw [h34]
            refine zH_w (c' := (46, [zR 97, .inl a1, .inl a2, .inl c, u4], [.inl c, .inl ((qpc c.toNat a1.toNat : Nat) : Int), zR 116])) 1 hz rfl ?_
            refine zH_iast hz rfl rfl (fun hin46 => ?_)
            show zH n (0, 0) 276 (47, [zR 97, .inl a1, .inl a2, .inl c, u4], []) (zput M5 116 (((qpc c.toNat a1.toNat : Nat) : Int) : Int).toNat c) _
            obtain ⟨M9, hM9⟩ : ∃ X : zM, X = zput M5 116 (((qpc c.toNat a1.toNat : Nat) : Int) : Int).toNat c := ⟨_, rfl⟩
            rw [← hM9]
            refine zH_w (c' := (52, [zR 97, .inl a1, .inl a2, .inl c, u4], [.inl (M9 97 34), zR 97])) 3 hz rfl ?_
            rw [show M9 97 34 = ((qpc c.toNat a1.toNat : Nat) : Int) from by rw [hM9, zput_oth (by decide)]; exact h34]
            refine zH_w (c' := (54, [zR 97, .inl a1, .inl a2, .inl c, u4], [.inl (w32 (((qpc c.toNat a1.toNat : Nat) : Int) + 1)), zR 97])) 2 hz rfl ?_
            rw [show w32 (((qpc c.toNat a1.toNat : Nat) : Int) + 1) = ((qpc c.toNat a1.toNat : Nat) : Int) + 1 from w32_id (by omega)]
            refine zH_w (c' := (57, [zR 97, .inl a1, .inl a2, .inl c, u4], [])) 1 hz rfl ?_
            obtain ⟨M10, hM10⟩ : ∃ X : zM, X = zput M9 97 34 (((qpc c.toNat a1.toNat : Nat) : Int) + 1) := ⟨_, rfl⟩
            rw [← hM10]
            have hMn : qMI M10 := by rw [hM10, hM9]; exact (hM5.p116 (.inl rfl) (by omega)).p97 (by omega)
            have hOn : ∀ r, r ≠ 97 → r ≠ 116 → r ≠ 117 → r ≠ 118 → M10 r = M r := fun r q1 q2 q3 q4 => by rw [hM10, zput_oth q1, hM9, zput_oth q2]; exact hO r q1 q2 q3 q4
            have h34n : M10 97 34 = (qpc (c.toNat + 1) a1.toNat : Nat) := by rw [hM10, qput_eq, eq]; omega
            have hcsn : ∀ j, j < qpc (c.toNat + 1) a1.toNat → M10 116 j = pl a1.toNat (c.toNat + 1) j := fun j hj => by
              rw [hps, if_pos hb1, hM10, zput_oth (by decide), hM9, Int.toNat_natCast]
              by_cases z : j = qpc c.toNat a1.toNat
              · rw [z, qput_eq, hup_eq, ec]
              · rw [qput_nk z, hup_ne z]; exact hcs j (by omega)
            have hsin : ∀ d : Nat, d < c.toNat + 1 → a1.toNat / 2 ^ d % 2 = 1 → hS Mo (d : Int) (Mo 98 1).toNat ≤ a2 := fun d hd hb => by
              by_cases z : d = c.toNat
              · rw [z, ec]; omega
              · exact hsi d (by omega) hb
            refine zH_w (c' := (7, [zR 97, .inl a1, .inl a2, .inl (c + 1), u4], [])) 2 hz (by rw [show (.inl (c + 1) : zV) = .inl (w32 (c + 1)) from by rw [w32_id (by omega)]]; rfl) ?_
            refine ih7 (c + 1) u4 M10 (by omega) ?_ ?_ ?_ ?_ ?_ ?_
            · omega
            · exact hMn
            · exact hOn
            · rw [show (c + 1).toNat = c.toNat + 1 by omega]; exact h34n
            · rw [show (c + 1).toNat = c.toNat + 1 by omega]; exact hcsn
            · rw [show (c + 1).toNat = c.toNat + 1 by omega]; exact hsin
          · skip
            exact zH_wr (r := some (.inl (-1))) 1 hz (by rfl) (⟨-1, rfl, .inl ⟨rfl, c.toNat, by omega, hb1, by rw [ec]; omega⟩, fun q => absurd rfl q⟩)
  refine lp7 (15) 0 zN (zput M 97 34 0) (by omega) ?_ ?_ ?_ ?_ ?_ ?_
  · omega
  · exact hM.p97 (by decide)
  · exact fun r q1 _ _ _ => zput_oth q1
  · exact qput_eq
  · exact fun j hj => absurd hj (Nat.not_lt_zero _)
  · exact fun d hd => absurd hd (Nat.not_lt_zero _)
