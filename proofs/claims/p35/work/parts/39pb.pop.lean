/-! BITS COUNTED -/
theorem and_pw (i : Nat) (s t : Nat) {x y : Nat} (hx : x < 2 ^ i) (hy : y < 2 ^ i) : (2 ^ i * s + x) &&& (2 ^ i * t + y) = 2 ^ i * (s &&& t) + (x &&& y) := by
  have hp : 0 < 2 ^ i := Nat.two_pow_pos _
  have h1 : ((2 ^ i * s + x) &&& (2 ^ i * t + y)) / 2 ^ i = (2 ^ i * s + x) / 2 ^ i &&& (2 ^ i * t + y) / 2 ^ i := Nat.and_div_two_pow
  have h2 : ((2 ^ i * s + x) &&& (2 ^ i * t + y)) % 2 ^ i = ((2 ^ i * s + x) % 2 ^ i) &&& ((2 ^ i * t + y) % 2 ^ i) := Nat.and_mod_two_pow
  rw [Nat.mul_add_div hp, Nat.mul_add_div hp, Nat.div_eq_of_lt hx, Nat.div_eq_of_lt hy, Nat.add_zero, Nat.add_zero] at h1
  rw [Nat.mul_add_mod, Nat.mul_add_mod, Nat.mod_eq_of_lt hx, Nat.mod_eq_of_lt hy] at h2
  have h3 := Nat.div_add_mod ((2 ^ i * s + x) &&& (2 ^ i * t + y)) (2 ^ i)
  rw [h1, h2] at h3
  exact h3.symm
/-- what lies above a mask falls away -/
theorem and_lo (i t m : Nat) {y : Nat} (hy : y < 2 ^ i) (hm : m < 2 ^ i) : (2 ^ i * t + y) &&& m = y &&& m := by
  have q := and_pw i t 0 hy hm
  rw [Nat.mul_zero, Nat.zero_add, Nat.and_zero, Nat.mul_zero, Nat.zero_add] at q
  exact q
theorem p12_and (a c : Nat) {b d : Nat} (hb : b < 4096) (hd : d < 4096) : (4096 * a + b) &&& (4096 * c + d) = 4096 * (a &&& c) + (b &&& d) := and_pw 12 a c hb hd
noncomputable def pA (x : Nat) : Nat := x - ((x / 2) &&& 1431655765)
noncomputable def pB (x : Nat) : Nat := (x &&& 858993459) + ((x / 4) &&& 858993459)
noncomputable def pC (x : Nat) : Nat := (x + x / 16) &&& 252645135
noncomputable def pD (x : Nat) : Nat := x + x / 256
noncomputable def pE (x : Nat) : Nat := x + x / 65536
noncomputable def pA1 (a : Nat) : Nat := a - ((a / 2) &&& 349525)
noncomputable def pB1 (a : Nat) : Nat := (a &&& 209715) + ((a / 4) &&& 209715)
noncomputable def pA0 (b : Nat) : Nat := b - ((b / 2) &&& 1365)
noncomputable def pB0 (b : Nat) : Nat := (b &&& 819) + ((b / 4) &&& 819)
set_option maxRecDepth 100000 in
theorem p_d3 : ∀ a : Fin 256, pB1 (pA1 a.val) / 16 < 5 ∧ pB1 (pA1 a.val) % 16 < 5 ∧ pB1 (pA1 a.val) / 16 + pB1 (pA1 a.val) % 16 = qpc 8 a.val := by decide +kernel
noncomputable def pck4 (v q : Nat) : Bool :=
  match v with
  | 0 => Nat.beq 0 q
  | n + 1 => Nat.blt ((n + 1) / 256) 5 && (Nat.blt ((n + 1) / 16 % 16) 5 && (Nat.blt ((n + 1) % 16) 5 && Nat.beq ((n + 1) / 256 + (n + 1) / 16 % 16 + (n + 1) % 16) q))
theorem pck4_ok {v q : Nat} (h : pck4 v q = true) : v / 256 < 5 ∧ v / 16 % 16 < 5 ∧ v % 16 < 5 ∧ v / 256 + v / 16 % 16 + v % 16 = q := by
  cases v with
  | zero =>
    have h1 : (0 : Nat) = q := Nat.eq_of_beq_eq_true h
    subst h1
    decide
  | succ n =>
    have h1 : (Nat.blt ((n + 1) / 256) 5 && (Nat.blt ((n + 1) / 16 % 16) 5 && (Nat.blt ((n + 1) % 16) 5 && Nat.beq ((n + 1) / 256 + (n + 1) / 16 % 16 + (n + 1) % 16) q))) = true := h
    rw [Bool.and_eq_true, Bool.and_eq_true, Bool.and_eq_true] at h1
    exact ⟨Nat.le_of_ble_eq_true h1.1, Nat.le_of_ble_eq_true h1.2.1, Nat.le_of_ble_eq_true h1.2.2.1, Nat.eq_of_beq_eq_true h1.2.2.2⟩
theorem p_d4b : (List.range 4096).all (fun b => pck4 (pB0 (pA0 b)) (qpc 12 b)) = true := by decide +kernel
theorem p_d4 : ∀ b : Fin 4096, pB0 (pA0 b.val) / 256 < 5 ∧ pB0 (pA0 b.val) / 16 % 16 < 5 ∧ pB0 (pA0 b.val) % 16 < 5 ∧ pB0 (pA0 b.val) / 256 + pB0 (pA0 b.val) / 16 % 16 + pB0 (pA0 b.val) % 16 = qpc 12 b.val := fun b => pck4_ok (List.all_eq_true.mp p_d4b b.val (List.mem_range.mpr b.isLt))
theorem p_d5b : (List.range 5).all (fun p => (List.range 5).all (fun q => (List.range 5).all (fun r => (List.range 5).all (fun s => (List.range 5).all (fun t => Nat.beq ((pE (pD (pC (4096 * (16 * p + q) + (256 * r + 16 * s + t))))) &&& 63) (p + q + (r + s + t))))))) = true := by decide +kernel
theorem p_d5 : ∀ p q r s t : Fin 5, (pE (pD (pC (4096 * (16 * p.val + q.val) + (256 * r.val + 16 * s.val + t.val))))) &&& 63 = p.val + q.val + (r.val + s.val + t.val) := fun p q r s t =>
  Nat.eq_of_beq_eq_true (List.all_eq_true.mp (List.all_eq_true.mp (List.all_eq_true.mp (List.all_eq_true.mp (List.all_eq_true.mp p_d5b p.val (List.mem_range.mpr p.isLt)) q.val (List.mem_range.mpr q.isLt)) r.val (List.mem_range.mpr r.isLt)) s.val (List.mem_range.mpr s.isLt)) t.val (List.mem_range.mpr t.isLt))
theorem pA_s {a b : Nat} (hb : b < 4096) : pA (4096 * a + b) = 4096 * pA1 a + pA0 b := by
  have q : (2048 * (a % 2) + b / 2) &&& 1365 = (b / 2) &&& 1365 := and_lo 11 (a % 2) 1365 (show b / 2 < 2048 by omega) (by decide)
  have l1 : (a / 2) &&& 349525 ≤ a / 2 := Nat.and_le_left
  have l2 : (b / 2) &&& 1365 ≤ b / 2 := Nat.and_le_left
  have e : ((4096 * a + b) / 2) &&& 1431655765 = 4096 * ((a / 2) &&& 349525) + ((b / 2) &&& 1365) := by
    rw [show (4096 * a + b) / 2 = 4096 * (a / 2) + (2048 * (a % 2) + b / 2) by omega, show (1431655765 : Nat) = 4096 * 349525 + 1365 from rfl, p12_and _ _ (by omega) (by decide), q]
  unfold pA pA1 pA0
  rw [e]
  omega
theorem pB_s {a b : Nat} (hb : b < 4096) : pB (4096 * a + b) = 4096 * pB1 a + pB0 b := by
  have q : (1024 * (a % 4) + b / 4) &&& 819 = (b / 4) &&& 819 := and_lo 10 (a % 4) 819 (show b / 4 < 1024 by omega) (by decide)
  have e : ((4096 * a + b) / 4) &&& 858993459 = 4096 * ((a / 4) &&& 209715) + ((b / 4) &&& 819) := by
    rw [show (4096 * a + b) / 4 = 4096 * (a / 4) + (1024 * (a % 4) + b / 4) by omega, show (858993459 : Nat) = 4096 * 209715 + 819 from rfl, p12_and _ _ (by omega) (by decide), q]
  have e2 : (4096 * a + b) &&& 858993459 = 4096 * (a &&& 209715) + (b &&& 819) := by
    rw [show (858993459 : Nat) = 4096 * 209715 + 819 from rfl, p12_and _ _ hb (by decide)]
  unfold pB pB1 pB0
  rw [e, e2]
  omega
theorem qpc_add : ∀ (j k v : Nat), qpc (j + k) v = qpc j v + qpc k (v / 2 ^ j)
  | 0, k, v => by rw [Nat.zero_add, Nat.pow_zero, Nat.div_one]; show _ = 0 + _; rw [Nat.zero_add]
  | j + 1, k, v => by
    rw [show j + 1 + k = (j + k) + 1 by omega]
    show v % 2 + qpc (j + k) (v / 2) = v % 2 + qpc j (v / 2) + qpc k (v / 2 ^ (j + 1))
    rw [qpc_add j k (v / 2), Nat.div_div_eq_div_mul, Nat.pow_succ, Nat.mul_comm 2 (2 ^ j), Nat.add_assoc]
theorem qpc_low : ∀ (j a v : Nat), qpc j (2 ^ j * a + v) = qpc j v
  | 0, _, _ => rfl
  | j + 1, a, v => by
    show (2 ^ (j + 1) * a + v) % 2 + qpc j ((2 ^ (j + 1) * a + v) / 2) = v % 2 + qpc j (v / 2)
    have e : 2 ^ (j + 1) * a = 2 * (2 ^ j * a) := by rw [Nat.pow_succ, Nat.mul_comm (2 ^ j) 2, Nat.mul_assoc]
    rw [e, show (2 * (2 ^ j * a) + v) % 2 = v % 2 by omega, show (2 * (2 ^ j * a) + v) / 2 = 2 ^ j * a + v / 2 by omega, qpc_low j a (v / 2)]
theorem p_all {x : Nat} (hx : x < 1048576) : (pE (pD (pC (pB (pA x))))) &&& 63 = qpc 20 x := by
  obtain ⟨a, ha⟩ : ∃ a, a = x / 4096 := ⟨_, rfl⟩
  obtain ⟨b, hb⟩ : ∃ b, b = x % 4096 := ⟨_, rfl⟩
  have hb4 : b < 4096 := by omega
  have e : x = 4096 * a + b := by omega
  have lb : pA0 b < 4096 := by unfold pA0; omega
  rw [e, pA_s hb4, pB_s lb]
  have q3 := p_d3 ⟨a, by omega⟩
  have q4 := p_d4 ⟨b, hb4⟩
  dsimp only at q3 q4
  obtain ⟨u, hu⟩ : ∃ u, u = pB1 (pA1 a) := ⟨_, rfl⟩
  obtain ⟨v, hv⟩ : ∃ v, v = pB0 (pA0 b) := ⟨_, rfl⟩
  rw [← hu] at q3 ⊢
  rw [← hv] at q4 ⊢
  have q5 := p_d5 ⟨u / 16, q3.1⟩ ⟨u % 16, q3.2.1⟩ ⟨v / 256, q4.1⟩ ⟨v / 16 % 16, q4.2.1⟩ ⟨v % 16, q4.2.2.1⟩
  dsimp only at q5
  rw [show 16 * (u / 16) + u % 16 = u by omega, show 256 * (v / 256) + 16 * (v / 16 % 16) + v % 16 = v by omega] at q5
  rw [q5, show (20 : Nat) = 12 + 8 from rfl, qpc_add 12 8, show (4096 : Nat) * a + b = 2 ^ 12 * a + b from rfl, qpc_low, show (2 ^ 12 * a + b) / 2 ^ 12 = a by rw [show (2 : Nat) ^ 12 = 4096 from rfl]; omega]
  omega
theorem hbc20 {M : zM} {x : Int} (hx : 0 ≤ x ∧ x < 1048576) : hf_296 M x = (qpc 20 x.toNat : Nat) := by
  obtain ⟨n, hn⟩ : ∃ n : Nat, x = (n : Int) := ⟨x.toNat, by omega⟩
  subst hn
  have hn : n < 1048576 := by omega
  have lA : pA n ≤ n := by unfold pA; omega
  have e1 : hb1 (n : Int) = (pA n : Nat) := by
    have l1 : (n / 2) &&& 1431655765 ≤ n / 2 := Nat.and_le_left
    unfold hb1 pA
    rw [qushr _ 1 2 (by omega) (by decide) (by decide), show ((n : Int) / 2) = ((n / 2 : Nat) : Int) by omega, qband_N _ _ (by omega) (by decide), Int.toNat_natCast, show (1431655765 : Int).toNat = 1431655765 from rfl, w32_id (by omega)]
    omega
  obtain ⟨m, hm⟩ : ∃ m, m = pA n := ⟨_, rfl⟩
  have lB : pB m ≤ 2 * m := by
    have l1 : m &&& 858993459 ≤ m := Nat.and_le_left
    have l2 : (m / 4) &&& 858993459 ≤ m / 4 := Nat.and_le_left
    unfold pB; omega
  have e2 : hb2 (m : Int) = (pB m : Nat) := by
    have l1 : m &&& 858993459 ≤ m := Nat.and_le_left
    have l2 : (m / 4) &&& 858993459 ≤ m / 4 := Nat.and_le_left
    unfold hb2 pB
    rw [qushr _ 2 4 (by omega) (by decide) (by decide), show ((m : Int) / 4) = ((m / 4 : Nat) : Int) by omega, qband_N _ _ (by omega) (by decide), qband_N _ _ (by omega) (by decide), Int.toNat_natCast, Int.toNat_natCast, show (858993459 : Int).toNat = 858993459 from rfl, w32_id (by omega)]
    omega
  obtain ⟨k, hk⟩ : ∃ k, k = pB m := ⟨_, rfl⟩
  have lC : pC k ≤ 2 * k := by
    have l1 : (k + k / 16) &&& 252645135 ≤ k + k / 16 := Nat.and_le_left
    unfold pC; omega
  have e3 : hb3 (k : Int) = (pC k : Nat) := by
    unfold hb3 pC
    rw [qushr _ 4 16 (by omega) (by decide) (by decide), show ((k : Int) + (k : Int) / 16) = ((k + k / 16 : Nat) : Int) by omega, w32_id (by omega), qband_N _ _ (by omega) (by decide), Int.toNat_natCast, show (252645135 : Int).toNat = 252645135 from rfl]
  obtain ⟨j, hj⟩ : ∃ j, j = pC k := ⟨_, rfl⟩
  have e4 : hb4 (j : Int) = (pD j : Nat) := by
    unfold hb4 pD
    rw [qushr _ 8 256 (by omega) (by decide) (by decide), w32_id (by omega)]
    omega
  have lD : pD j ≤ 2 * j := by unfold pD; omega
  obtain ⟨i, hi⟩ : ∃ i, i = pD j := ⟨_, rfl⟩
  have e5 : hb5 (i : Int) = (pE i : Nat) := by
    unfold hb5 pE
    rw [qushr _ 16 65536 (by omega) (by decide) (by decide), w32_id (by omega)]
    omega
  have lE : pE i ≤ 2 * i := by unfold pE; omega
  unfold hf_296
  rw [e1, ← hm, e2, ← hk, e3, ← hj, e4, ← hi, e5, qband_N _ _ (by omega) (by decide), Int.toNat_natCast, show (63 : Int).toNat = 63 from rfl, Int.toNat_natCast, hi, hj, hk, hm, p_all hn]
theorem qpc_st {m a : Nat} (h : m < 2 ^ a) : ∀ k : Nat, qpc (a + k) m = qpc a m
  | 0 => rfl
  | k + 1 => by
    have e := qpc_next (a + k) m
    have p := Nat.pow_le_pow_right (n := 2) (by decide) (show a ≤ a + k by omega)
    rw [show a + (k + 1) = (a + k) + 1 by omega, e, qpc_st h k, Nat.div_eq_of_lt (show m < 2 ^ (a + k) by omega)]
    rfl
theorem hbc31 {M : zM} {x : Int} (hx : 0 ≤ x ∧ x < 1048576) : hf_296 M x = (qpc 31 x.toNat : Nat) := by
  have q := qpc_st (m := x.toNat) (a := 20) (by rw [show (2 : Nat) ^ 20 = 1048576 from rfl]; omega) 11
  rw [hbc20 hx, ← q]
