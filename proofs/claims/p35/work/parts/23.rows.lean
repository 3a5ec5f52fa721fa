/-! THE TABLES' METHODS; SMALL RULES -/
theorem zts_all {P : Nat → Prop} {lo x : Int} {df : Nat} {ts : List Nat} (h1 : P df) (h2 : ∀ t, t ∈ ts → P t) : P (zts lo x df ts) := by
  unfold zts
  split
  · exact h1
  · rw [List.getD_eq_getElem?_getD]
    cases h : ts[(x - lo).toNat]? with
    | none => exact h1
    | some t => exact h2 t (List.mem_of_getElem? h)
theorem qb32 (x : Int32) : qin x.toInt := by
  have h1 := x.toInt_lt
  have h2 := x.le_toInt
  exact ⟨by omega, by omega⟩
theorem qand_nat (a b : Int) (ha : 0 ≤ a ∧ a ≤ 2147483647) (hb : qin b) : 0 ≤ zband a b ∧ zband a b ≤ a := by
  unfold zband
  rw [← Int32.toInt_toBitVec]
  have e : (Int32.ofInt a &&& Int32.ofInt b).toBitVec = BitVec.ofInt 32 a &&& BitVec.ofInt 32 b := rfl
  rw [e]
  have hA : (BitVec.ofInt 32 a).toNat = a.toNat := by
    rw [BitVec.toNat_ofInt]; omega
  have hle : (BitVec.ofInt 32 a &&& BitVec.ofInt 32 b).toNat ≤ a.toNat := by
    rw [BitVec.toNat_and, hA]; exact Nat.and_le_left
  rw [BitVec.toInt_eq_toNat_of_lt (by omega)]
  omega
theorem qand_comm (a b : Int) : zband a b = zband b a := by
  unfold zband; rw [Int32.and_comm]
theorem qband_l (a b : Int) (ha : 0 ≤ a ∧ a ≤ 2147483647) (hb : qin b) : 0 ≤ zband a b ∧ zband a b ≤ a := qand_nat a b ha hb
theorem qband_r (a b : Int) (ha : qin a) (hb : 0 ≤ b ∧ b ≤ 2147483647) : 0 ≤ zband a b ∧ zband a b ≤ b := by
  rw [qand_comm]; exact qand_nat b a hb ha
theorem qband_lr (a b : Int) (ha : 0 ≤ a ∧ a ≤ 2147483647) (hb : 0 ≤ b ∧ b ≤ 2147483647) : 0 ≤ zband a b ∧ zband a b ≤ a ∧ zband a b ≤ b :=
  ⟨(qband_l a b ha (by omega)).1, (qband_l a b ha (by omega)).2, (qband_r a b (by omega) hb).2⟩
theorem qbshr_n (a b : Int) (ha : 0 ≤ a ∧ a ≤ 2147483647) : 0 ≤ zbshr a b ∧ zbshr a b ≤ a := by
  unfold zbshr
  rw [← Int32.toInt_toBitVec, Int32.toBitVec_shiftRight]
  have hA : (Int32.ofInt a).toBitVec.toNat = a.toNat := by
    show (BitVec.ofInt 32 a).toNat = _
    rw [BitVec.toNat_ofInt]; omega
  have hm : (Int32.ofInt a).toBitVec.msb = false := by
    rw [BitVec.msb_eq_false_iff_two_mul_lt, hA]; omega
  simp only [BitVec.sshiftRight']
  rw [BitVec.sshiftRight_eq_of_msb_false hm]
  have hle : ((Int32.ofInt a).toBitVec >>> ((Int32.ofInt b &&& 31).toBitVec.smod 32).toNat).toNat ≤ a.toNat := by
    rw [BitVec.toNat_ushiftRight, hA]; exact Nat.shiftRight_le _ _
  rw [BitVec.toInt_eq_toNat_of_lt (by omega)]
  omega
theorem qushr (a k p : Int) (ha : 0 ≤ a ∧ a ≤ 2147483647) (hk : 0 ≤ k ∧ k ≤ 31) (hp : 2 ^ k.toNat = p) : zbushr a k = a / p := by
  have hA : (Int32.ofInt a).toUInt32.toNat = a.toNat := by
    show (BitVec.ofInt 32 a).toNat = _
    rw [BitVec.toNat_ofInt]; omega
  have hK : (Int32.ofInt k).toUInt32.toNat = k.toNat := by
    show (BitVec.ofInt 32 k).toNat = _
    rw [BitVec.toNat_ofInt]; omega
  have hK2 : ((Int32.ofInt k).toUInt32 &&& 31).toNat = k.toNat := by
    rw [UInt32.toNat_and, hK]
    show k.toNat &&& 31 = _
    rw [show (31 : Nat) = 2 ^ 5 - 1 from rfl, Nat.and_two_pow_sub_one_eq_mod]; omega
  have hS : ((Int32.ofInt a).toUInt32 >>> ((Int32.ofInt k).toUInt32 &&& 31)).toNat = a.toNat / 2 ^ k.toNat := by
    rw [UInt32.toNat_shiftRight, hA, hK2, Nat.mod_eq_of_lt (by omega), Nat.shiftRight_eq_div_pow]
  have hle : a.toNat / 2 ^ k.toNat ≤ a.toNat := Nat.div_le_self _ _
  unfold zbushr
  show (((Int32.ofInt a).toUInt32 >>> ((Int32.ofInt k).toUInt32 &&& 31)).toBitVec).toInt = _
  rw [BitVec.toInt_eq_toNat_of_lt (by show 2 * (UInt32.toNat _) < _; rw [hS]; omega)]
  show ((UInt32.toNat _ : Nat) : Int) = _
  rw [hS, ← hp, Int.natCast_ediv, Int.toNat_of_nonneg ha.1, Int.natCast_pow]
  rfl
theorem qtmod_in (x y : Int) (hy : 0 < y) : (0 ≤ x → 0 ≤ x.tmod y) ∧ -y < x.tmod y ∧ x.tmod y < y := by
  refine ⟨fun h => Int.tmod_nonneg y h, ?_, Int.tmod_lt_of_pos x hy⟩
  have h := Int.lt_tmod_of_pos x hy
  omega
theorem qtdiv_in (x y : Int) (hx : qin x) (hy : 0 < y) : (0 ≤ x → 0 ≤ w32 (x.tdiv y) ∧ w32 (x.tdiv y) ≤ x) ∧ (x ≤ 0 → x ≤ w32 (x.tdiv y) ∧ w32 (x.tdiv y) ≤ 0) := by
  have h1 : ∀ z : Int, 0 ≤ z → 0 ≤ z.tdiv y ∧ z.tdiv y ≤ z := fun z hz => ⟨Int.tdiv_nonneg hz (by omega), Int.tdiv_le_self y hz⟩
  refine ⟨fun h => ?_, fun h => ?_⟩
  · have := h1 x h; rw [w32_id (by omega)]; exact this
  · have := h1 (-x) (by omega)
    have e : (-x).tdiv y = -(x.tdiv y) := Int.neg_tdiv ..
    rw [e] at this
    rw [w32_id (by omega)]; omega
theorem qite {x a b : Int} {p : Prop} [Decidable p] (h : x = if p then a else b) : (p ∧ x = a) ∨ (¬ p ∧ x = b) := by
  by_cases hp : p
  · rw [if_pos hp] at h; exact .inl ⟨hp, h⟩
  · rw [if_neg hp] at h; exact .inr ⟨hp, h⟩
section QL
variable {n : Nat} {ct : Nat × Nat} {d μ : Nat} {Q : Option zV → zM → Prop} {M : zM} {code : List zE} {mL : Nat} {B : Nat × Nat} {pc : Nat} {L st : List zV}
theorem zG_lc_eq {n1 n' t b : Nat} {x1 : zX} {z off x y : Int} {ts : List Nat} (hd : 0 < d) (hm : zP μ = (code, mL, B)) (he1 : zat code pc = some (pc, .lcmp, n1, x1)) (he : zat code n1 = some (n1, .ifCond .eq off, n', (t, b, z, ts))) (Kt : x = y → zG n ct d μ (t, L, st) M Q) (Kf : ¬ x = y → zG n ct d μ (n', L, st) M Q) : zG n ct d μ (pc, L, .inr (.inl y) :: .inr (.inl x) :: st) M Q := by
  refine zG_one (c' := (n1, L, .inl (if y < x then 1 else if x = y then 0 else -1) :: st)) hd hm he1 rfl ?_
  refine zG_if_eq hd hm he (fun h => Kt ?_) (fun h => Kf ?_)
  · split at h
    · omega
    · split at h <;> omega
  · split at h
    · omega
    · split at h <;> omega
theorem zG_lc_ne {n1 n' t b : Nat} {x1 : zX} {z off x y : Int} {ts : List Nat} (hd : 0 < d) (hm : zP μ = (code, mL, B)) (he1 : zat code pc = some (pc, .lcmp, n1, x1)) (he : zat code n1 = some (n1, .ifCond .ne off, n', (t, b, z, ts))) (Kt : ¬ x = y → zG n ct d μ (t, L, st) M Q) (Kf : x = y → zG n ct d μ (n', L, st) M Q) : zG n ct d μ (pc, L, .inr (.inl y) :: .inr (.inl x) :: st) M Q := by
  refine zG_one (c' := (n1, L, .inl (if y < x then 1 else if x = y then 0 else -1) :: st)) hd hm he1 rfl ?_
  refine zG_if_ne hd hm he (fun h => Kt ?_) (fun h => Kf ?_)
  · split at h
    · omega
    · split at h <;> omega
  · split at h
    · omega
    · split at h <;> omega
theorem zG_lc_lt {n1 n' t b : Nat} {x1 : zX} {z off x y : Int} {ts : List Nat} (hd : 0 < d) (hm : zP μ = (code, mL, B)) (he1 : zat code pc = some (pc, .lcmp, n1, x1)) (he : zat code n1 = some (n1, .ifCond .lt off, n', (t, b, z, ts))) (Kt : x < y → zG n ct d μ (t, L, st) M Q) (Kf : y ≤ x → zG n ct d μ (n', L, st) M Q) : zG n ct d μ (pc, L, .inr (.inl y) :: .inr (.inl x) :: st) M Q := by
  refine zG_one (c' := (n1, L, .inl (if y < x then 1 else if x = y then 0 else -1) :: st)) hd hm he1 rfl ?_
  refine zG_if_lt hd hm he (fun h => Kt ?_) (fun h => Kf ?_)
  · split at h
    · omega
    · split at h <;> omega
  · split at h
    · omega
    · split at h <;> omega
theorem zG_lc_ge {n1 n' t b : Nat} {x1 : zX} {z off x y : Int} {ts : List Nat} (hd : 0 < d) (hm : zP μ = (code, mL, B)) (he1 : zat code pc = some (pc, .lcmp, n1, x1)) (he : zat code n1 = some (n1, .ifCond .ge off, n', (t, b, z, ts))) (Kt : y ≤ x → zG n ct d μ (t, L, st) M Q) (Kf : x < y → zG n ct d μ (n', L, st) M Q) : zG n ct d μ (pc, L, .inr (.inl y) :: .inr (.inl x) :: st) M Q := by
  refine zG_one (c' := (n1, L, .inl (if y < x then 1 else if x = y then 0 else -1) :: st)) hd hm he1 rfl ?_
  refine zG_if_ge hd hm he (fun h => Kt ?_) (fun h => Kf ?_)
  · split at h
    · omega
    · split at h <;> omega
  · split at h
    · omega
    · split at h <;> omega
theorem zG_lc_gt {n1 n' t b : Nat} {x1 : zX} {z off x y : Int} {ts : List Nat} (hd : 0 < d) (hm : zP μ = (code, mL, B)) (he1 : zat code pc = some (pc, .lcmp, n1, x1)) (he : zat code n1 = some (n1, .ifCond .gt off, n', (t, b, z, ts))) (Kt : y < x → zG n ct d μ (t, L, st) M Q) (Kf : x ≤ y → zG n ct d μ (n', L, st) M Q) : zG n ct d μ (pc, L, .inr (.inl y) :: .inr (.inl x) :: st) M Q := by
  refine zG_one (c' := (n1, L, .inl (if y < x then 1 else if x = y then 0 else -1) :: st)) hd hm he1 rfl ?_
  refine zG_if_gt hd hm he (fun h => Kt ?_) (fun h => Kf ?_)
  · split at h
    · omega
    · split at h <;> omega
  · split at h
    · omega
    · split at h <;> omega
theorem zG_lc_le {n1 n' t b : Nat} {x1 : zX} {z off x y : Int} {ts : List Nat} (hd : 0 < d) (hm : zP μ = (code, mL, B)) (he1 : zat code pc = some (pc, .lcmp, n1, x1)) (he : zat code n1 = some (n1, .ifCond .le off, n', (t, b, z, ts))) (Kt : x ≤ y → zG n ct d μ (t, L, st) M Q) (Kf : y < x → zG n ct d μ (n', L, st) M Q) : zG n ct d μ (pc, L, .inr (.inl y) :: .inr (.inl x) :: st) M Q := by
  refine zG_one (c' := (n1, L, .inl (if y < x then 1 else if x = y then 0 else -1) :: st)) hd hm he1 rfl ?_
  refine zG_if_le hd hm he (fun h => Kt ?_) (fun h => Kf ?_)
  · split at h
    · omega
    · split at h <;> omega
  · split at h
    · omega
    · split at h <;> omega
theorem zG_alen {n' r k t : Nat} {x1 : zX} (hd : 0 < d) (hm : zP μ = (code, mL, B)) (he : zat code pc = some (pc, .arraylength, n', x1)) (hr : (zSH n)[r]? = some (.inl (t, k))) (K : zG n ct d μ (n', L, .inl (k : Int) :: st) M Q) : zG n ct d μ (pc, L, .inr (.inr (some r)) :: st) M Q := by
  refine zG_one hd hm he ?_ K
  show zal n' L (.inr (.inr (some r)) :: st) (zSH n, M, ct.1, ct.2) = _
  simp only [zal, hr]
  rfl
theorem zG_lshl {n' : Nat} {x1 : zX} {x y : Int} (hd : 0 < d) (hm : zP μ = (code, mL, B)) (he : zat code pc = some (pc, .lshl, n', x1)) (K : ∀ z : Int, zG n ct d μ (n', L, .inr (.inl z) :: st) M Q) : zG n ct d μ (pc, L, .inl y :: .inr (.inl x) :: st) M Q := zG_one hd hm he rfl (K _)
theorem zG_copy {n' r q kr kq idx : Nat} {z : Int} {ts : List Nat} {k e s : Int} {b : Nat} (hd : 0 < d) (hm : zP μ = (code, mL, B)) (he : zat code pc = some (pc, .invokestatic idx, n', (9000, b, z, ts))) (hr : (zSH n)[r]? = some (.inl (0, kr))) (hq : (zSH n)[q]? = some (.inl (0, kq))) (hc : zsum st ≤ 8 ∧ 0 ≤ k ∧ 0 ≤ e ∧ 0 ≤ s ∧ s + k ≤ kr ∧ e + k ≤ kq) (K : zG n ct d μ (n', L, st) (zcopy M r q s.toNat e.toNat k.toNat) Q) : zG n ct d μ (pc, L, .inl k :: .inl e :: .inr (.inr (some q)) :: .inl s :: .inr (.inr (some r)) :: st) M Q := by
  refine zG_one hd hm he ?_ K
  show zint 9000 n' L (.inl k :: .inl e :: .inr (.inr (some q)) :: .inl s :: .inr (.inr (some r)) :: st) (zSH n, M, ct.1, ct.2) = _
  simp only [zint, hr, hq]
  rw [if_pos hc]
  rfl
end QL
section QR
variable {n d r l c : Nat} {M : zM}
/-- a table's cells -/
def qT (n r l c : Nat) : Prop := (r, l, c) ∈ qRTL ∧ (zSH n)[r]? = some (.inr (8, [.inr 0, .inr 0, .inl (some (r + 1)), .inr 0])) ∧ (zSH n)[r + 1]? = some (.inl (0, l * c))
theorem qat_ix {a b : Int} {l c : Nat} (ha : 0 ≤ a ∧ a < l) (hb : 0 ≤ b ∧ b < c) : 0 ≤ a * c + b ∧ a * c + b < (l * c : Nat) := by
  have h1 : 0 ≤ a * c := Int.mul_nonneg ha.1 (by omega)
  have h2 : (a + 1) * c ≤ l * c := Int.mul_le_mul_of_nonneg_right (by omega) (by omega)
  have h3 : (a + 1) * c = a * c + c := by rw [Int.add_mul, Int.one_mul]
  have h4 : ((l * c : Nat) : Int) = l * c := by simp
  omega
theorem qRTL_lc : ∀ a ∈ qRTL, a.2.1 * a.2.2 ≤ 100000 ∧ 8 ≤ a.1 ∧ a.1 + 1 < 97 ∧ a.1 + 1 ∉ qLG ∧ qRZ (a.1 + 1) = false ∧ a.1 + 1 ≠ 72 ∧ a.1 + 1 ≠ 87 ∧ a.1 + 1 ≠ 4 ∧ a.1 + 1 ≠ 6 := by decide +kernel
theorem qSP_c {r k : Nat} (h : qRZ r = false ∧ r ≠ 72 ∧ r ≠ 87 ∧ r ≠ 4 ∧ r ≠ 6) : qSP r k = false := by
  have h1 : (r == 72) = false := by simpa using h.2.1
  have h2 : (r == 87) = false := by simpa using h.2.2.1
  have h3 : (r == 4) = false := by simpa using h.2.2.2.1
  have h4 : (r == 6) = false := by simpa using h.2.2.2.2
  simp [qSP, h.1, h1, h2, h3, h4]

theorem qw_size (hd : 1 ≤ d) (hC : qCI M) (hT : qT n r l c) : qOkP n d 101 [zR r] 1 M (qRi (fun x => 0 ≤ x ∧ x ≤ l)) := by
  have hT' := hT
  obtain ⟨hm, hr, hq⟩ := hT
  have h1 := hC.rows r l c hm
  have h9 := qRTL_lc _ hm
  have h8 := qRTL_rz _ hm
  simp only at h8 h9
  have hd0 : 0 < d := by omega
  have hA : zisA 9 (some (zR r)) (zSH n) = true := by simp [zisA, hr]
  have hz := zp_101
  show zG n (0, 0) d 101 (0, [zR r], []) M _
  refine zG_blk 1 hd0 hz rfl ?_
  show zG n (0, 0) d 101 (1, [zR r], [zR r]) M _
  refine zG_getf hd0 hz rfl hr rfl rfl ?_
  show zG n (0, 0) d 101 (4, [zR r], [.inl (M r 3)]) M _
  exact zG_ret hd0 hz rfl rfl ⟨rfl, _, rfl, h1.2.2⟩
theorem qw_has (hd : 1 ≤ d) (hC : qCI M) (hT : qT n r l c) (a : Int) (_ha : -2147483648 ≤ a ∧ a ≤ 2147483647) : qOkP n d 102 [zR r, .inl a] 2 M (qRi (fun x => 0 ≤ x ∧ x ≤ 1 ∧ (x = 1 ↔ 0 ≤ a ∧ a < M r 3))) := by
  have hT' := hT
  obtain ⟨hm, hr, hq⟩ := hT
  have h1 := hC.rows r l c hm
  have h9 := qRTL_lc _ hm
  have h8 := qRTL_rz _ hm
  simp only at h8 h9
  have hd0 : 0 < d := by omega
  have hA : zisA 9 (some (zR r)) (zSH n) = true := by simp [zisA, hr]
  have hz := zp_102
  show zG n (0, 0) d 102 (0, [zR r, .inl a], []) M _
  refine zG_blk 1 hd0 hz rfl ?_
  show zG n (0, 0) d 102 (1, [zR r, .inl a], [.inl a]) M _
  have hout : ¬ (0 ≤ a ∧ a < M r 3) → zG n (0, 0) d 102 (16, [zR r, .inl a], []) M (fun v M' => M' = M ∧ qRi (fun x => 0 ≤ x ∧ x ≤ 1 ∧ (x = 1 ↔ 0 ≤ a ∧ a < M r 3)) v) := by
    intro hn
    refine zG_blk 1 hd0 hz rfl ?_
    show zG n (0, 0) d 102 (17, [zR r, .inl a], [.inl 0]) M _
    exact zG_ret hd0 hz rfl rfl ⟨rfl, 0, rfl, by omega⟩
  refine zG_if_lt hd0 hz rfl (fun _ => hout (by omega)) (fun ha => ?_)
  refine zG_blk 2 hd0 hz rfl ?_
  show zG n (0, 0) d 102 (6, [zR r, .inl a], [zR r, .inl a]) M _
  refine zG_getf hd0 hz rfl hr rfl rfl ?_
  show zG n (0, 0) d 102 (9, [zR r, .inl a], [.inl (M r 3), .inl a]) M _
  refine zG_icmp_ge hd0 hz rfl (fun _ => hout (by omega)) (fun hb => ?_)
  refine zG_blk 2 hd0 hz rfl ?_
  show zG n (0, 0) d 102 (17, [zR r, .inl a], [.inl 1]) M _
  exact zG_ret hd0 hz rfl rfl ⟨rfl, 1, rfl, by omega⟩
theorem qw_open (hd : 1 ≤ d) (hC : qCI M) (hT : qT n r l c) : qOkM n d 103 [zR r] 1 qCI [r] M (qRi (fun x => -4 ≤ x ∧ x < l ∧ ((x = -4 ∧ l ≤ M r 3) ∨ x = M r 3))) := by
  have hT' := hT
  obtain ⟨hm, hr, hq⟩ := hT
  have h1 := hC.rows r l c hm
  have h9 := qRTL_lc _ hm
  have h8 := qRTL_rz _ hm
  simp only at h8 h9
  have hd0 : 0 < d := by omega
  have hA : zisA 9 (some (zR r)) (zSH n) = true := by simp [zisA, hr]
  have hz := zp_103
  show zG n (0, 0) d 103 (0, [zR r], []) M _
  refine zG_blk 1 hd0 hz rfl ?_
  show zG n (0, 0) d 103 (1, [zR r], [zR r]) M _
  refine zG_getf hd0 hz rfl hr rfl rfl ?_
  show zG n (0, 0) d 103 (4, [zR r], [.inl (M r 3)]) M _
  refine zG_blk 1 hd0 hz rfl ?_
  show zG n (0, 0) d 103 (5, [zR r], [zR r, .inl (M r 3)]) M _
  refine zG_getf hd0 hz rfl hr rfl rfl ?_
  show zG n (0, 0) d 103 (8, [zR r], [.inl (M r 0), .inl (M r 3)]) M _
  rw [h1.1]
  refine zG_icmp_lt hd0 hz rfl (fun hb => ?_) (fun hb => ?_)
  · show zG n (0, 0) d 103 (14, [zR r], []) M _
    refine zG_blk 2 hd0 hz rfl ?_
    show zG n (0, 0) d 103 (16, [zR r], [zR r, zR r]) M _
    refine zG_getf hd0 hz rfl hr rfl rfl ?_
    show zG n (0, 0) d 103 (19, [zR r], [.inl (M r 3), zR r]) M _
    refine zG_blk (c' := (21, [zR r], [.inl (M r 3 + 1), zR r])) 2 hd0 hz (by rw [show M r 3 + 1 = w32 (M r 3 + 1) from (w32_id (by omega)).symm]; rfl) ?_
    refine zG_putf (.inl rfl) hd0 hz rfl (by omega) hr rfl ?_
    have hC1 : qCI (zput M r 3 (M r 3 + 1)) := hC.putU hm (by omega)
    show zG n (0, 0) d 103 (24, [zR r], []) (zput M r 3 (M r 3 + 1)) _
    refine zG_blk 1 hd0 hz rfl ?_
    show zG n (0, 0) d 103 (25, [zR r], [zR r]) (zput M r 3 (M r 3 + 1)) _
    refine zG_getf hd0 hz rfl hr rfl rfl ?_
    show zG n (0, 0) d 103 (28, [zR r], [.inl (zput M r 3 (M r 3 + 1) r 3)]) (zput M r 3 (M r 3 + 1)) _
    rw [qput_eq]
    refine zG_blk (c' := (30, [zR r], [.inl (M r 3)])) 2 hd0 hz (by rw [show (.inl (M r 3) : zV) = .inl (w32 ((M r 3 + 1) - 1)) from by rw [w32_id (by omega)]; congr 1; omega]; rfl) ?_
    exact zG_ret hd0 hz rfl rfl ⟨⟨hC1, qFr.rfl.put (by simp)⟩, _, rfl, by omega⟩
  · refine zG_blk (c' := (13, [zR r], [.inl (-4)])) 1 hd0 hz rfl ?_
    exact zG_ret hd0 hz rfl rfl ⟨⟨hC, qFr.rfl⟩, _, rfl, by omega⟩
theorem qw_drop (hd : 1 ≤ d) (hC : qCI M) (hT : qT n r l c) : qOkM n d 104 [zR r] 1 qCI [r] M qRn := by
  have hT' := hT
  obtain ⟨hm, hr, hq⟩ := hT
  have h1 := hC.rows r l c hm
  have h9 := qRTL_lc _ hm
  have h8 := qRTL_rz _ hm
  simp only at h8 h9
  have hd0 : 0 < d := by omega
  have hA : zisA 9 (some (zR r)) (zSH n) = true := by simp [zisA, hr]
  have hz := zp_104
  show zG n (0, 0) d 104 (0, [zR r], []) M _
  refine zG_blk 2 hd0 hz rfl ?_
  show zG n (0, 0) d 104 (2, [zR r], [.inl 0, zR r]) M _
  refine zG_putf (.inl rfl) hd0 hz rfl (by omega) hr rfl ?_
  exact zG_ret hd0 hz rfl rfl ⟨⟨hC.putU hm (by omega), qFr.rfl.put (by simp)⟩, rfl⟩
theorem qw_dropLast (hd : 1 ≤ d) (hC : qCI M) (hT : qT n r l c) : qOkM n d 105 [zR r] 1 qCI [r] M qRn := by
  have hT' := hT
  obtain ⟨hm, hr, hq⟩ := hT
  have h1 := hC.rows r l c hm
  have h9 := qRTL_lc _ hm
  have h8 := qRTL_rz _ hm
  simp only at h8 h9
  have hd0 : 0 < d := by omega
  have hA : zisA 9 (some (zR r)) (zSH n) = true := by simp [zisA, hr]
  have hz := zp_105
  show zG n (0, 0) d 105 (0, [zR r], []) M _
  refine zG_blk 3 hd0 hz rfl ?_
  show zG n (0, 0) d 105 (3, [zR r], [zR r, .inl 0, zR r]) M _
  refine zG_getf hd0 hz rfl hr rfl rfl ?_
  show zG n (0, 0) d 105 (6, [zR r], [.inl (M r 3), .inl 0, zR r]) M _
  obtain ⟨x, hx⟩ : ∃ x : Int, x = (if 0 < w32 (M r 3 - 1) then w32 (M r 3 - 1) else 0) := ⟨_, rfl⟩
  refine zG_blk (c' := (11, [zR r], [.inl x, zR r])) 3 hd0 hz (by subst hx; rfl) ?_
  rw [w32_id (by omega)] at hx
  have hxq := qite hx
  refine zG_putf (.inl rfl) hd0 hz rfl (by omega) hr rfl ?_
  exact zG_ret hd0 hz rfl rfl ⟨⟨hC.putU hm (by omega), qFr.rfl.put (by simp)⟩, rfl⟩
theorem qw_get (hd : 1 ≤ d) (hC : qCI M) (hT : qT n r l c) (a : Int) (_ha : -2147483648 ≤ a ∧ a ≤ 2147483647) (b : Int) (_hb : -2147483648 ≤ b ∧ b ≤ 2147483647) : qOkP n d 106 [zR r, .inl a, .inl b] 3 M (qRi (fun x => qin x ∧ (x ≠ -1 → (0 ≤ a ∧ a < l) ∧ 0 ≤ b ∧ b < c))) := by
  have hT' := hT
  obtain ⟨hm, hr, hq⟩ := hT
  have h1 := hC.rows r l c hm
  have h9 := qRTL_lc _ hm
  have h8 := qRTL_rz _ hm
  simp only at h8 h9
  have hd0 : 0 < d := by omega
  have hA : zisA 9 (some (zR r)) (zSH n) = true := by simp [zisA, hr]
  have hz := zp_106
  show zG n (0, 0) d 106 (0, [zR r, .inl a, .inl b], []) M _
  have hout : zG n (0, 0) d 106 (24, [zR r, .inl a, .inl b], []) M (fun v M' => M' = M ∧ (qRi (fun x => qin x ∧ (x ≠ -1 → (0 ≤ a ∧ a < l) ∧ 0 ≤ b ∧ b < c))) v) := by
    refine zG_blk (c' := (25, [zR r, .inl a, .inl b], [.inl (-1)])) 1 hd0 hz rfl ?_
    exact zG_ret hd0 hz rfl rfl ⟨rfl, -1, rfl, by omega, fun h => absurd rfl h⟩
  refine zG_blk 1 hd0 hz rfl ?_
  show zG n (0, 0) d 106 (1, [zR r, .inl a, .inl b], [.inl a]) M _
  refine zG_if_lt hd0 hz rfl (fun _ => hout) (fun ha => ?_)
  refine zG_blk 2 hd0 hz rfl ?_
  show zG n (0, 0) d 106 (6, [zR r, .inl a, .inl b], [zR r, .inl a]) M _
  refine zG_getf hd0 hz rfl hr rfl rfl ?_
  show zG n (0, 0) d 106 (9, [zR r, .inl a, .inl b], [.inl (M r 0), .inl a]) M _
  refine zG_icmp_ge hd0 hz rfl (fun _ => hout) (fun ha' => ?_)
  refine zG_blk 1 hd0 hz rfl ?_
  show zG n (0, 0) d 106 (13, [zR r, .inl a, .inl b], [.inl b]) M _
  refine zG_if_lt hd0 hz rfl (fun _ => hout) (fun hb => ?_)
  refine zG_blk 2 hd0 hz rfl ?_
  show zG n (0, 0) d 106 (18, [zR r, .inl a, .inl b], [zR r, .inl b]) M _
  refine zG_getf hd0 hz rfl hr rfl rfl ?_
  show zG n (0, 0) d 106 (21, [zR r, .inl a, .inl b], [.inl (M r 1), .inl b]) M _
  refine zG_icmp_lt hd0 hz rfl (fun hb' => ?_) (fun _ => hout)
  rw [h1.1] at ha'
  rw [h1.2.1] at hb'
  have hix := qat_ix ⟨ha, ha'⟩ ⟨hb, hb'⟩
  have hac : 0 ≤ a * (c : Int) := Int.mul_nonneg ha (by omega)
  refine zG_blk 1 hd0 hz rfl ?_
  show zG n (0, 0) d 106 (27, [zR r, .inl a, .inl b], [zR r]) M _
  refine zG_getf hd0 hz rfl hr rfl rfl ?_
  show zG n (0, 0) d 106 (30, [zR r, .inl a, .inl b], [zR (r + 1)]) M _
  refine zG_blk 2 hd0 hz rfl ?_
  show zG n (0, 0) d 106 (32, [zR r, .inl a, .inl b], [zR r, .inl a, zR (r + 1)]) M _
  refine zG_getf hd0 hz rfl hr rfl rfl ?_
  show zG n (0, 0) d 106 (35, [zR r, .inl a, .inl b], [.inl (M r 1), .inl a, zR (r + 1)]) M _
  rw [h1.2.1]
  refine zG_blk (c' := (38, [zR r, .inl a, .inl b], [.inl (a * (c : Int) + b), zR (r + 1)])) 3 hd0 hz (by rw [show (.inl (a * (c : Int) + b) : zV) = .inl (w32 (w32 (a * (c : Int)) + b)) from by rw [w32_id (x := a * (c : Int)) (by omega), w32_id (by omega)]]; rfl) ?_
  refine zG_iald hd0 hz rfl hq (.inl rfl) hix ?_
  exact zG_ret hd0 hz rfl rfl ⟨rfl, _, rfl, hC.rng _ _ (by omega) h9.2.2.2.1, fun _ => ⟨⟨ha, ha'⟩, hb, hb'⟩⟩
theorem qw_set (hd : 1 ≤ d) (hC : qCI M) (hT : qT n r l c) (a : Int) (_ha : -2147483648 ≤ a ∧ a ≤ 2147483647) (b : Int) (_hb : -2147483648 ≤ b ∧ b ≤ 2147483647) (x : Int) (_hx : -2147483648 ≤ x ∧ x ≤ 2147483647) : qOkM n d 107 [zR r, .inl a, .inl b, .inl x] 4 qCI [r + 1] M qRn := by
  have hT' := hT
  obtain ⟨hm, hr, hq⟩ := hT
  have h1 := hC.rows r l c hm
  have h9 := qRTL_lc _ hm
  have h8 := qRTL_rz _ hm
  simp only at h8 h9
  have hd0 : 0 < d := by omega
  have hA : zisA 9 (some (zR r)) (zSH n) = true := by simp [zisA, hr]
  have hz := zp_107
  show zG n (0, 0) d 107 (0, [zR r, .inl a, .inl b, .inl x], []) M _
  have hout : zG n (0, 0) d 107 (24, [zR r, .inl a, .inl b, .inl x], []) M (fun v M' => qWf qCI [r + 1] M M' ∧ qRn v) := by
    exact zG_ret hd0 hz rfl rfl ⟨⟨hC, qFr.rfl⟩, rfl⟩
  refine zG_blk 1 hd0 hz rfl ?_
  show zG n (0, 0) d 107 (1, [zR r, .inl a, .inl b, .inl x], [.inl a]) M _
  refine zG_if_lt hd0 hz rfl (fun _ => hout) (fun ha => ?_)
  refine zG_blk 2 hd0 hz rfl ?_
  show zG n (0, 0) d 107 (6, [zR r, .inl a, .inl b, .inl x], [zR r, .inl a]) M _
  refine zG_getf hd0 hz rfl hr rfl rfl ?_
  show zG n (0, 0) d 107 (9, [zR r, .inl a, .inl b, .inl x], [.inl (M r 0), .inl a]) M _
  refine zG_icmp_ge hd0 hz rfl (fun _ => hout) (fun ha' => ?_)
  refine zG_blk 1 hd0 hz rfl ?_
  show zG n (0, 0) d 107 (13, [zR r, .inl a, .inl b, .inl x], [.inl b]) M _
  refine zG_if_lt hd0 hz rfl (fun _ => hout) (fun hb => ?_)
  refine zG_blk 2 hd0 hz rfl ?_
  show zG n (0, 0) d 107 (18, [zR r, .inl a, .inl b, .inl x], [zR r, .inl b]) M _
  refine zG_getf hd0 hz rfl hr rfl rfl ?_
  show zG n (0, 0) d 107 (21, [zR r, .inl a, .inl b, .inl x], [.inl (M r 1), .inl b]) M _
  refine zG_icmp_lt hd0 hz rfl (fun hb' => ?_) (fun _ => hout)
  rw [h1.1] at ha'
  rw [h1.2.1] at hb'
  have hix := qat_ix ⟨ha, ha'⟩ ⟨hb, hb'⟩
  have hac : 0 ≤ a * (c : Int) := Int.mul_nonneg ha (by omega)
  refine zG_blk 1 hd0 hz rfl ?_
  show zG n (0, 0) d 107 (26, [zR r, .inl a, .inl b, .inl x], [zR r]) M _
  refine zG_getf hd0 hz rfl hr rfl rfl ?_
  show zG n (0, 0) d 107 (29, [zR r, .inl a, .inl b, .inl x], [zR (r + 1)]) M _
  refine zG_blk 2 hd0 hz rfl ?_
  show zG n (0, 0) d 107 (31, [zR r, .inl a, .inl b, .inl x], [zR r, .inl a, zR (r + 1)]) M _
  refine zG_getf hd0 hz rfl hr rfl rfl ?_
  show zG n (0, 0) d 107 (34, [zR r, .inl a, .inl b, .inl x], [.inl (M r 1), .inl a, zR (r + 1)]) M _
  rw [h1.2.1]
  refine zG_blk (c' := (37, [zR r, .inl a, .inl b, .inl x], [.inl (a * (c : Int) + b), zR (r + 1)])) 3 hd0 hz (by rw [show (.inl (a * (c : Int) + b) : zV) = .inl (w32 (w32 (a * (c : Int)) + b)) from by rw [w32_id (x := a * (c : Int)) (by omega), w32_id (by omega)]]; rfl) ?_
  refine zG_blk 1 hd0 hz rfl ?_
  show zG n (0, 0) d 107 (38, [zR r, .inl a, .inl b, .inl x], [.inl x, .inl (a * (c : Int) + b), zR (r + 1)]) M _
  refine zG_iast hd0 hz rfl hq hix ?_
  exact zG_ret hd0 hz rfl rfl ⟨⟨hC.put (qSP_c h9.2.2.2.2) (.inl _hx), qFr.rfl.put (by simp)⟩, rfl⟩
theorem qw_add (hd : 2 ≤ d) (hC : qCI M) (hT : qT n r l c) (a : Int) (_ha : -2147483648 ≤ a ∧ a ≤ 2147483647) (b : Int) (_hb : -2147483648 ≤ b ∧ b ≤ 2147483647) (x : Int) (_hx : -2147483648 ≤ x ∧ x ≤ 2147483647) : qOkM n d 108 [zR r, .inl a, .inl b, .inl x] 4 qCI [r + 1] M qRn := by
  have hT' := hT
  obtain ⟨hm, hr, hq⟩ := hT
  have h1 := hC.rows r l c hm
  have h9 := qRTL_lc _ hm
  have h8 := qRTL_rz _ hm
  simp only at h8 h9
  have hd0 : 0 < d := by omega
  have hA : zisA 9 (some (zR r)) (zSH n) = true := by simp [zisA, hr]
  have hz := zp_108
  show zG n (0, 0) d 108 (0, [zR r, .inl a, .inl b, .inl x], []) M _
  refine zG_blk 6 hd0 hz rfl ?_
  show zG n (0, 0) d 108 (6, [zR r, .inl a, .inl b, .inl x], [.inl b, .inl a, zR r, .inl b, .inl a, zR r]) M _
  refine zG_call hd0 hz zp_106 rfl (by exact if_pos ⟨Nat.le_of_ble_eq_true rfl, Nat.le_of_ble_eq_true rfl, hA⟩) (Nat.le_of_ble_eq_true rfl) ⟨Nat.le_refl _, Nat.le_refl _⟩ (qw_get (by omega) hC hT' a _ha b _hb) (fun vr Mr hr' => ?_)
  obtain ⟨rfl, y, rfl, hy⟩ := hr'
  obtain ⟨u, hu⟩ : ∃ u : Int, u = w32 (y + x) := ⟨_, rfl⟩
  have hur := w32_in (y + x)
  rw [← hu] at hur
  show zG n (0, 0) d 108 (9, [zR r, .inl a, .inl b, .inl x], [.inl y, .inl b, .inl a, zR r]) Mr _
  refine zG_blk (c' := (11, [zR r, .inl a, .inl b, .inl x], [.inl u, .inl b, .inl a, zR r])) 2 hd0 hz (by subst hu; rfl) ?_
  refine zG_call hd0 hz zp_107 rfl (by exact if_pos ⟨Nat.le_of_ble_eq_true rfl, Nat.le_of_ble_eq_true rfl, hA⟩) (Nat.le_of_ble_eq_true rfl) ⟨Nat.le_refl _, Nat.le_refl _⟩ (qw_set (by omega) hC hT' a _ha b _hb u hur) (fun vr M1 hr' => ?_)
  obtain ⟨hW, rfl⟩ := hr'
  show zG n (0, 0) d 108 (14, [zR r, .inl a, .inl b, .inl x], []) M1 _
  exact zG_ret hd0 hz rfl rfl ⟨hW, rfl⟩
theorem qw_fillColumn (hd : 2 ≤ d) (hC : qCI M) (hT : qT n r l c) (a : Int) (_ha : -2147483648 ≤ a ∧ a ≤ 2147483647) (b : Int) (_hb : -2147483648 ≤ b ∧ b ≤ 2147483647) (x : Int) (_hx : -2147483648 ≤ x ∧ x ≤ 2147483647) : qOkM n d 109 [zR r, .inl a, .inl b, .inl x] 5 qCI [r + 1] M qRn := by
  have hT' := hT
  obtain ⟨hm, hr, hq⟩ := hT
  have h1 := hC.rows r l c hm
  have h9 := qRTL_lc _ hm
  have h8 := qRTL_rz _ hm
  simp only at h8 h9
  have hd0 : 0 < d := by omega
  have hA : zisA 9 (some (zR r)) (zSH n) = true := by simp [zisA, hr]
  have hz := zp_109
  show zG n (0, 0) d 109 (0, [zR r, .inl a, .inl b, .inl x, zN], []) M _
  refine zG_blk 2 hd0 hz rfl ?_
  show zG n (0, 0) d 109 (3, [zR r, .inl a, .inl b, .inl x, .inl 0], []) M _
  have lp : ∀ (N : Nat) (i : Int) (M1 : zM), ((l : Int) - i).toNat < N → 0 ≤ i ∧ i ≤ l → qWf qCI [r + 1] M M1 → zG n (0, 0) d 109 (3, [zR r, .inl a, .inl b, .inl x, .inl i], []) M1 (fun v M' => qWf qCI [r + 1] M M' ∧ qRn v) := by
    intro N
    induction N with
    | zero => intro i M1 hN; exact absurd hN (Nat.not_lt_zero _)
    | succ N ih =>
      intro i M1 hN hi hW
      have h1' := hW.1.rows r l c hm
      have hout : zG n (0, 0) d 109 (32, [zR r, .inl a, .inl b, .inl x, .inl i], []) M1 (fun v M' => qWf qCI [r + 1] M M' ∧ qRn v) := zG_ret hd0 hz rfl rfl ⟨hW, rfl⟩
      refine zG_blk 2 hd0 hz rfl ?_
      show zG n (0, 0) d 109 (6, [zR r, .inl a, .inl b, .inl x, .inl i], [.inl x, .inl i]) M1 _
      refine zG_icmp_ge hd0 hz rfl (fun _ => hout) (fun h2 => ?_)
      refine zG_blk 2 hd0 hz rfl ?_
      show zG n (0, 0) d 109 (12, [zR r, .inl a, .inl b, .inl x, .inl i], [zR r, .inl i]) M1 _
      refine zG_getf hd0 hz rfl hr rfl rfl ?_
      show zG n (0, 0) d 109 (15, [zR r, .inl a, .inl b, .inl x, .inl i], [.inl (M1 r 0), .inl i]) M1 _
      refine zG_icmp_ge hd0 hz rfl (fun _ => hout) (fun h3 => ?_)
      rw [h1'.1] at h3
      refine zG_blk 4 hd0 hz rfl ?_
      show zG n (0, 0) d 109 (23, [zR r, .inl a, .inl b, .inl x, .inl i], [.inl b, .inl a, .inl i, zR r]) M1 _
      refine zG_call hd0 hz zp_107 rfl (by exact if_pos ⟨Nat.le_of_ble_eq_true rfl, Nat.le_of_ble_eq_true rfl, hA⟩) (Nat.le_of_ble_eq_true rfl) ⟨Nat.le_refl _, Nat.le_refl _⟩ (qw_set (by omega) hW.1 hT' i (by omega) a _ha b _hb) (fun vr M2 hr' => ?_)
      obtain ⟨hW2, rfl⟩ := hr'
      show zG n (0, 0) d 109 (26, [zR r, .inl a, .inl b, .inl x, .inl i], []) M2 _
      refine zG_blk (c' := (3, [zR r, .inl a, .inl b, .inl x, .inl (i + 1)], [])) 2 hd0 hz (by rw [show (.inl (i + 1) : zV) = .inl (w32 (i + 1)) from by rw [w32_id (by omega)]]; rfl) ?_
      exact ih (i + 1) M2 (by omega) (by omega) (hW.tr hW2 (fun _ h => h))
  exact lp (l + 1) 0 M (by omega) (by omega) ⟨hC, qFr.rfl⟩
theorem qw_takeOver (hd : 1 ≤ d) (hC : qCI M) (hT : qT n r l c) {s : Nat} (hT2 : qT n s l c) : qOkM n d 110 [zR r, zR s] 2 qCI [r, r + 1] M qRn := by
  have hT' := hT
  obtain ⟨hm, hr, hq⟩ := hT
  have h1 := hC.rows r l c hm
  have h9 := qRTL_lc _ hm
  have h8 := qRTL_rz _ hm
  simp only at h8 h9
  have hd0 : 0 < d := by omega
  have hA : zisA 9 (some (zR r)) (zSH n) = true := by simp [zisA, hr]
  have hz := zp_110
  show zG n (0, 0) d 110 (0, [zR r, zR s], []) M _
  obtain ⟨hm2, hr2, hq2⟩ := hT2
  have h2 := hC.rows s l c hm2
  have h29 := qRTL_lc _ hm2
  simp only at h29
  refine zG_blk 1 hd0 hz rfl ?_
  show zG n (0, 0) d 110 (1, [zR r, zR s], [zR s]) M _
  refine zG_getf hd0 hz rfl hr2 rfl rfl ?_
  show zG n (0, 0) d 110 (4, [zR r, zR s], [zR (s + 1)]) M _
  refine zG_blk 2 hd0 hz rfl ?_
  show zG n (0, 0) d 110 (6, [zR r, zR s], [zR r, .inl 0, zR (s + 1)]) M _
  refine zG_getf hd0 hz rfl hr rfl rfl ?_
  show zG n (0, 0) d 110 (9, [zR r, zR s], [zR (r + 1), .inl 0, zR (s + 1)]) M _
  refine zG_blk 2 hd0 hz rfl ?_
  show zG n (0, 0) d 110 (11, [zR r, zR s], [zR s, .inl 0, zR (r + 1), .inl 0, zR (s + 1)]) M _
  refine zG_getf hd0 hz rfl hr2 rfl rfl ?_
  show zG n (0, 0) d 110 (14, [zR r, zR s], [zR (s + 1), .inl 0, zR (r + 1), .inl 0, zR (s + 1)]) M _
  refine zG_alen hd0 hz rfl hq2 ?_
  show zG n (0, 0) d 110 (15, [zR r, zR s], [.inl ((l * c : Nat) : Int), .inl 0, zR (r + 1), .inl 0, zR (s + 1)]) M _
  refine zG_blk 1 hd0 hz rfl ?_
  show zG n (0, 0) d 110 (16, [zR r, zR s], [zR r, .inl ((l * c : Nat) : Int), .inl 0, zR (r + 1), .inl 0, zR (s + 1)]) M _
  refine zG_getf hd0 hz rfl hr rfl rfl ?_
  show zG n (0, 0) d 110 (19, [zR r, zR s], [zR (r + 1), .inl ((l * c : Nat) : Int), .inl 0, zR (r + 1), .inl 0, zR (s + 1)]) M _
  refine zG_alen hd0 hz rfl hq ?_
  show zG n (0, 0) d 110 (20, [zR r, zR s], [.inl ((l * c : Nat) : Int), .inl ((l * c : Nat) : Int), .inl 0, zR (r + 1), .inl 0, zR (s + 1)]) M _
  refine zG_blk (c' := (23, [zR r, zR s], [.inl (if ((l * c : Nat) : Int) < ((l * c : Nat) : Int) then ((l * c : Nat) : Int) else ((l * c : Nat) : Int)), .inl 0, zR (r + 1), .inl 0, zR (s + 1)])) 1 hd0 hz rfl ?_
  rw [ite_self]
  obtain ⟨k, hk⟩ : ∃ k : Nat, k = l * c := ⟨_, rfl⟩
  rw [← hk] at hq hq2 ⊢
  show zG n (0, 0) d 110 (23, [zR r, zR s], [.inl (k : Int), .inl 0, zR (r + 1), .inl 0, zR (s + 1)]) M _
  refine zG_copy hd0 hz rfl hq2 hq ⟨Nat.le_of_ble_eq_true rfl, by omega⟩ ?_
  obtain ⟨M1, hM1⟩ : ∃ X : zM, X = zcopy M (s + 1) (r + 1) (0 : Int).toNat (0 : Int).toNat (k : Int).toNat := ⟨_, rfl⟩
  rw [← hM1]
  have hC1 : qCI M1 := by rw [hM1]; exact hC.copy h9.2.2.2.2 ⟨h29.2.2.1, h29.2.2.2.1⟩
  have hF1 : qFr [r, r + 1] M M1 := fun i j hi => by rw [hM1]; simp only [zcopy]; rw [if_neg (by intro e; subst e; simp at hi)]
  have h1b := hC1.rows r l c hm
  have h2b := hC1.rows s l c hm2
  show zG n (0, 0) d 110 (26, [zR r, zR s], []) M1 _
  refine zG_blk 2 hd0 hz rfl ?_
  show zG n (0, 0) d 110 (28, [zR r, zR s], [zR s, zR r]) M1 _
  refine zG_getf hd0 hz rfl hr2 rfl rfl ?_
  show zG n (0, 0) d 110 (31, [zR r, zR s], [.inl (M1 s 3), zR r]) M1 _
  refine zG_blk 1 hd0 hz rfl ?_
  show zG n (0, 0) d 110 (32, [zR r, zR s], [zR r, .inl (M1 s 3), zR r]) M1 _
  refine zG_getf hd0 hz rfl hr rfl rfl ?_
  show zG n (0, 0) d 110 (35, [zR r, zR s], [.inl (M1 r 0), .inl (M1 s 3), zR r]) M1 _
  obtain ⟨x, hx⟩ : ∃ x : Int, x = (if M1 r 0 < M1 s 3 then M1 r 0 else M1 s 3) := ⟨_, rfl⟩
  refine zG_blk (c' := (38, [zR r, zR s], [.inl x, zR r])) 1 hd0 hz (by subst hx; rfl) ?_
  have hxq := qite hx
  refine zG_putf (.inl rfl) hd0 hz rfl (by omega) hr rfl ?_
  exact zG_ret hd0 hz rfl rfl ⟨⟨hC1.putU hm (by omega), hF1.put (by simp)⟩, rfl⟩
end QR
