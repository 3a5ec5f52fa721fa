/-! THE NEXT ONE WITH AS MANY; WHAT IS SPREAD -/
section WG
theorem wqz : ∀ k, qpc k 0 = 0
  | 0 => rfl
  | k + 1 => by rw [qpc_s, Nat.zero_mod, Nat.zero_div, wqz k]
theorem wq_lt {k v : Nat} (h : v < 2 ^ k) : ∀ j, qpc (k + j) v = qpc k v := fun j => qpc_st h j
theorem wq32 {k v : Nat} (hk : k ≤ 32) (h : v < 2 ^ k) : qpc 32 v = qpc k v := by
  have q := wq_lt h (32 - k)
  rw [show k + (32 - k) = 32 by omega] at q
  exact q
theorem wqs {j x y : Nat} (hj : j ≤ 32) (hy : y < 2 ^ j) (h : 2 ^ j * x + y < 2 ^ 32) : qpc 32 (2 ^ j * x + y) = qpc 32 x + qpc 32 y := by
  have q := qpc_add j (32 - j) (2 ^ j * x + y)
  have e : 2 ^ 32 = 2 ^ j * 2 ^ (32 - j) := by rw [← Nat.pow_add, show j + (32 - j) = 32 by omega]
  have hx : x < 2 ^ (32 - j) := by
    have : 2 ^ j * x < 2 ^ j * 2 ^ (32 - j) := by omega
    exact Nat.lt_of_mul_lt_mul_left this
  rw [show j + (32 - j) = 32 by omega, qpc_low, Nat.mul_add_div (Nat.two_pow_pos j), Nat.div_eq_of_lt hy, Nat.add_zero] at q
  rw [q, wq32 hj hy, wq32 (by omega) hx]; omega
/-- the least and the greatest with as many -/
theorem wq_min : ∀ k r, r < 2 ^ k → 2 ^ qpc k r - 1 ≤ r
  | 0, r, _ => by show 2 ^ 0 - 1 ≤ r; omega
  | k + 1, r, h => by
    rw [Nat.pow_succ] at h
    have q := wq_min k (r / 2) (by omega)
    rw [qpc_s]
    rcases Nat.mod_two_eq_zero_or_one r with e | e
    · rw [e, Nat.zero_add]; omega
    · rw [e, Nat.add_comm 1, Nat.pow_succ]; omega
theorem wq_max : ∀ k r, r < 2 ^ k → r + 2 ^ (k - qpc k r) ≤ 2 ^ k
  | 0, r, h => by rw [Nat.pow_zero] at h; rw [show r = 0 by omega]; decide
  | k + 1, r, h => by
    have l := qpc_le k (r / 2)
    rw [Nat.pow_succ] at h
    have q := wq_max k (r / 2) (by omega)
    rw [qpc_s]
    rcases Nat.mod_two_eq_zero_or_one r with e | e
    · rw [e, Nat.zero_add, show k + 1 - qpc k (r / 2) = (k - qpc k (r / 2)) + 1 by omega, Nat.pow_succ, Nat.pow_succ]; omega
    · have p : 2 ^ (k + 1 - (1 + qpc k (r / 2))) = 2 ^ (k - qpc k (r / 2)) := by rw [show k + 1 - (1 + qpc k (r / 2)) = k - qpc k (r / 2) by omega]
      have z : 0 < 2 ^ (k - qpc k (r / 2)) := Nat.two_pow_pos _
      rw [e, p, Nat.pow_succ]
      omega
theorem wx_pw (i s t : Nat) {x y : Nat} (hx : x < 2 ^ i) (hy : y < 2 ^ i) : (2 ^ i * s + x) ^^^ (2 ^ i * t + y) = 2 ^ i * (s ^^^ t) + (x ^^^ y) := by
  have hp := Nat.two_pow_pos i
  have d : ((2 ^ i * s + x) ^^^ (2 ^ i * t + y)) / 2 ^ i = s ^^^ t := by
    rw [Nat.xor_div_two_pow, Nat.mul_add_div hp, Nat.mul_add_div hp, Nat.div_eq_of_lt hx, Nat.div_eq_of_lt hy, Nat.add_zero, Nat.add_zero]
  have m : ((2 ^ i * s + x) ^^^ (2 ^ i * t + y)) % 2 ^ i = x ^^^ y := by
    rw [Nat.xor_mod_two_pow, Nat.mul_add_mod, Nat.mul_add_mod, Nat.mod_eq_of_lt hx, Nat.mod_eq_of_lt hy]
  rw [← Nat.div_add_mod ((2 ^ i * s + x) ^^^ (2 ^ i * t + y)) (2 ^ i), d, m]
theorem wDo : ∀ (k v : Nat), v < 2 ^ k → v % 2 = 1 → ∃ m a, 1 ≤ m ∧ m ≤ k ∧ v = 2 ^ m * (2 * a) + (2 ^ m - 1)
  | 0, v, h, o => by rw [Nat.pow_zero] at h; omega
  | k + 1, v, h, o => by
    rw [Nat.pow_succ] at h
    rcases Nat.mod_two_eq_zero_or_one (v / 2) with e | e
    · exact ⟨1, v / 2 / 2, by omega, by omega, by rw [Nat.pow_one]; omega⟩
    · obtain ⟨m, a, m1, m2, m3⟩ := wDo k (v / 2) (by omega) e
      have p : 2 ^ (m + 1) = 2 * 2 ^ m := by rw [Nat.pow_succ, Nat.mul_comm]
      have z := Nat.two_pow_pos m
      refine ⟨m + 1, a, by omega, by omega, ?_⟩
      rw [p, Nat.mul_assoc]
      omega
theorem wDe : ∀ (k v : Nat), v < 2 ^ k → 0 < v → ∃ i m a, 1 ≤ m ∧ i + m ≤ k ∧ v = 2 ^ i * (2 ^ m * (2 * a) + (2 ^ m - 1))
  | 0, v, h, o => by rw [Nat.pow_zero] at h; omega
  | k + 1, v, h, o => by
    rcases Nat.mod_two_eq_zero_or_one v with e | e
    · rw [Nat.pow_succ] at h
      obtain ⟨i, m, a, m1, m2, m3⟩ := wDe k (v / 2) (by omega) (by omega)
      refine ⟨i + 1, m, a, m1, by omega, ?_⟩
      rw [Nat.pow_succ, Nat.mul_comm (2 ^ i) 2, Nat.mul_assoc, ← m3]
      omega
    · obtain ⟨m, a, m1, m2, m3⟩ := wDo (k + 1) v h e
      exact ⟨0, m, a, m1, by omega, by rw [Nat.pow_zero, Nat.one_mul]; exact m3⟩
/-- the next one with as many -/
noncomputable def wGp (v : Nat) : Nat := (v + (v &&& (2 ^ 32 - v))) ||| ((v ^^^ (v + (v &&& (2 ^ 32 - v)))) / (v &&& (2 ^ 32 - v)) / 4)
theorem wLb1 {k b : Nat} (h : b < 2 ^ k) : b &&& (2 ^ k - 1 - b) = 0 := by
  have q := (wNx k (F := b) (x := 0) h (Nat.zero_and _)).1
  rw [Nat.zero_add, Nat.and_comm, show 2 ^ k - b - 1 = 2 ^ k - 1 - b by omega] at q
  exact q
theorem wLow2 {i o : Nat} (hi : i ≤ 31) (ho : o % 2 = 1) (h : 2 ^ i * o < 2 ^ 32) : (2 ^ i * o) &&& (2 ^ 32 - 2 ^ i * o) = 2 ^ i := by
  have e : 2 ^ i * 2 ^ (32 - i) = 2 ^ 32 := by rw [← Nat.pow_add, show i + (32 - i) = 32 by omega]
  have e2 : 2 ^ (32 - i) = 2 * 2 ^ (31 - i) := by rw [show 32 - i = (31 - i) + 1 by omega, Nat.pow_succ, Nat.mul_comm]
  have lo : o < 2 ^ (32 - i) := by
    rw [← e] at h
    exact Nat.lt_of_mul_lt_mul_left h
  have d : 2 ^ 32 - 2 ^ i * o = 2 ^ i * (2 ^ (32 - i) - o) := by rw [← e, Nat.mul_sub]
  have w := and_pw i o (2 ^ (32 - i) - o) (x := 0) (y := 0) (Nat.two_pow_pos i) (Nat.two_pow_pos i)
  rw [Nat.add_zero, Nat.add_zero, Nat.and_self, Nat.add_zero] at w
  have hb : 2 * (o / 2) + 1 = o := by omega
  have c : 2 * (2 ^ (31 - i) - 1 - o / 2) + 1 = 2 ^ (32 - i) - o := by omega
  have v := w2_and (o / 2) (2 ^ (31 - i) - 1 - o / 2) 1 1 (by decide) (by decide)
  rw [wLb1 (show o / 2 < 2 ^ (31 - i) by omega), hb, c] at v
  rw [d, w, v]
  show 2 ^ i * 1 = 2 ^ i
  rw [Nat.mul_one]
theorem wqf : ∀ k, qpc k (2 ^ k - 1) = k
  | 0 => rfl
  | k + 1 => by
    have z := Nat.two_pow_pos k
    have p : 2 ^ (k + 1) = 2 * 2 ^ k := by rw [Nat.pow_succ, Nat.mul_comm]
    rw [qpc_s, show (2 ^ (k + 1) - 1) % 2 = 1 by omega, show (2 ^ (k + 1) - 1) / 2 = 2 ^ k - 1 by omega, wqf k]; omega
theorem wGp_eq {i m a : Nat} (hm : 1 ≤ m) (h : 2 ^ i * (2 ^ m * (2 * a) + (2 ^ m - 1)) < 2 ^ 14) : wGp (2 ^ i * (2 ^ m * (2 * a) + (2 ^ m - 1))) = 2 ^ (i + m) * (2 * a + 1) + (2 ^ (m - 1) - 1) := by
  have pm : 2 ^ m = 2 * 2 ^ (m - 1) := by rw [show m = (m - 1) + 1 by omega, Nat.pow_succ, Nat.mul_comm]; rfl
  have zi := Nat.two_pow_pos i
  have zm := Nat.two_pow_pos (m - 1)
  obtain ⟨K, hK⟩ : ∃ K, K = 2 ^ (m - 1) := ⟨_, rfl⟩
  obtain ⟨A, hA⟩ : ∃ A, A = K * (2 * a) := ⟨_, rfl⟩
  rw [← hK] at pm zm
  have ea : 2 ^ m * (2 * a) = 2 * A := by rw [pm, Nat.mul_assoc, hA]
  obtain ⟨o, ho⟩ : ∃ o, o = 2 ^ m * (2 * a) + (2 ^ m - 1) := ⟨_, rfl⟩
  have odd : o % 2 = 1 := by omega
  have o1 : o + 1 = 2 ^ m * (2 * a + 1) := by rw [Nat.mul_add, Nat.mul_one]; omega
  rw [← ho] at h ⊢
  have i31 : i ≤ 31 := by
    rcases Nat.lt_or_ge i 32 with z | z
    · omega
    · have q := Nat.pow_le_pow_right (n := 2) (by decide) z
      have q2 : 2 ^ i * 1 ≤ 2 ^ i * o := Nat.mul_le_mul_left _ (by omega)
      rw [Nat.mul_one] at q2
      have q3 : (2 : Nat) ^ 14 < 2 ^ 32 := by decide
      omega
  have lw := wLow2 i31 odd (Nat.lt_trans h (by decide))
  have u : 2 ^ i * o + 2 ^ i = 2 ^ i * (2 ^ m * (2 * a + 1)) := by rw [← o1, Nat.mul_add, Nat.mul_one]
  have x1 : (2 * a) ^^^ (2 * a + 1) = 1 := by
    have q := wx_pw 1 a a (x := 0) (y := 1) (by decide) (by decide)
    rw [Nat.pow_one, Nat.xor_self, Nat.add_zero] at q
    exact q
  have x2 : o ^^^ (2 ^ m * (2 * a + 1)) = 2 ^ m + (2 ^ m - 1) := by
    have q := wx_pw m (2 * a) (2 * a + 1) (x := 2 ^ m - 1) (y := 0) (by omega) (by omega)
    rw [Nat.add_zero, x1, Nat.mul_one, Nat.xor_zero, ← ho] at q
    exact q
  have x3 : (2 ^ i * o) ^^^ (2 ^ i * (2 ^ m * (2 * a + 1))) = 2 ^ i * (2 ^ m + (2 ^ m - 1)) := by
    have q := wx_pw i o (2 ^ m * (2 * a + 1)) (x := 0) (y := 0) zi zi
    rw [Nat.add_zero, Nat.add_zero, Nat.xor_self, Nat.add_zero, x2] at q
    exact q
  unfold wGp
  rw [lw, u, x3, Nat.mul_div_cancel_left _ zi, ← Nat.mul_assoc, ← Nat.pow_add, show (2 ^ m + (2 ^ m - 1)) / 4 = K - 1 by omega, hK]
  have lt : 2 ^ (m - 1) - 1 < 2 ^ (i + m) := by
    have q := Nat.pow_le_pow_right (n := 2) (by decide) (show m - 1 ≤ i + m by omega)
    omega
  exact (Nat.two_pow_add_eq_or_of_lt lt (2 * a + 1)).symm
theorem wqe (a : Nat) : qpc 32 (2 * a) = qpc 31 a := (qpc_s 31 (2 * a)).trans (by rw [show 2 * a % 2 = 0 by omega, show 2 * a / 2 = a by omega, Nat.zero_add])
theorem wqo (a : Nat) : qpc 32 (2 * a + 1) = 1 + qpc 31 a := (qpc_s 31 (2 * a + 1)).trans (by rw [show (2 * a + 1) % 2 = 1 by omega, show (2 * a + 1) / 2 = a by omega])
theorem wGp_all {v : Nat} (hv : 0 < v) (h : v < 2 ^ 14) : v < wGp v ∧ wGp v < 2 ^ 16 ∧ qpc 32 (wGp v) = qpc 32 v ∧ ∀ w, w < 2 ^ 14 → v < w → qpc 32 w = qpc 32 v → wGp v ≤ w := by
  obtain ⟨i, m, a, m1, m2, e⟩ := wDe 14 v h hv
  rw [e] at h
  have g := wGp_eq m1 h
  rw [← e] at h g
  have zi := Nat.two_pow_pos i
  have zm := Nat.two_pow_pos m
  have pm : 2 ^ (m - 1) ≤ 2 ^ m := Nat.pow_le_pow_right (by decide) (by omega)
  have zm1 := Nat.two_pow_pos (m - 1)
  have pk : 2 ^ m ≤ 2 ^ (i + m) := Nat.pow_le_pow_right (by decide) (by omega)
  have pi : 2 ^ i ≤ 2 ^ (i + m) := Nat.pow_le_pow_right (by decide) (by omega)
  have pk14 : 2 ^ (i + m) ≤ 2 ^ 14 := Nat.pow_le_pow_right (by decide) (by omega)
  obtain ⟨K, hK⟩ : ∃ K, K = 2 ^ (i + m) := ⟨_, rfl⟩
  have e1 : 2 ^ i * (2 ^ m - 1) + 2 ^ i = K := by
    have q : 2 ^ i * (2 ^ m - 1) + 2 ^ i * 1 = 2 ^ i * 2 ^ m := by rw [← Nat.mul_add, show 2 ^ m - 1 + 1 = 2 ^ m by omega]
    rw [Nat.mul_one] at q
    rw [q, hK, Nat.pow_add]
  have e2 : v = K * (2 * a) + 2 ^ i * (2 ^ m - 1) := by rw [e, Nat.mul_add, ← Nat.mul_assoc, hK, Nat.pow_add]
  rw [← hK] at g pk pi pk14
  obtain ⟨R, hR⟩ : ∃ R, R = 2 ^ i * (2 ^ m - 1) := ⟨_, rfl⟩
  rw [← hR] at e1 e2
  have e3 : K * (2 * a + 1) = K * (2 * a) + K := by rw [Nat.mul_add, Nat.mul_one]
  have e4 : K * (2 * a + 2) = K * (2 * a) + 2 * K := by rw [Nat.mul_add, Nat.mul_comm K 2]
  have big : (2 : Nat) ^ 14 + 2 ^ 14 + 2 ^ 14 < 2 ^ 32 := by decide
  have b16 : (2 : Nat) ^ 14 + 2 ^ 14 + 2 ^ 14 < 2 ^ 16 := by decide
  have pr : qpc 32 R = m := by
    have q := wqs (j := i) (x := 2 ^ m - 1) (y := 0) (by omega) zi (by rw [← hR]; omega)
    rw [Nat.add_zero, ← hR, wqz, Nat.add_zero, wq32 (k := m) (v := 2 ^ m - 1) (by omega) (by omega), wqf] at q
    exact q
  have pv : qpc 32 v = qpc 31 a + m := by
    have q := wqs (j := i + m) (x := 2 * a) (y := R) (by omega) (by omega) (by rw [← hK]; omega)
    rw [← hK, ← e2, wqe, pr] at q
    exact q
  have pg : qpc 32 (wGp v) = qpc 31 a + m := by
    have q := wqs (j := i + m) (x := 2 * a + 1) (y := 2 ^ (m - 1) - 1) (by omega) (by omega) (by rw [← hK]; omega)
    rw [← hK, ← g, wqo, wq32 (k := m - 1) (v := 2 ^ (m - 1) - 1) (by omega) (by omega), wqf] at q
    omega
  refine ⟨by omega, by omega, by rw [pg, pv], fun w hw lw pw => ?_⟩
  have dm := Nat.div_add_mod w K
  have kp : 0 < K := by omega
  have lr : w % K < K := Nat.mod_lt _ kp
  have sp : qpc 32 w = qpc 32 (w / K) + qpc 32 (w % K) := by
    have q := wqs (j := i + m) (x := w / K) (y := w % K) (by omega) (by rw [← hK]; exact lr) (by rw [← hK]; omega)
    rw [← hK, dm] at q
    exact q
  rcases (by omega : w / K < 2 * a ∨ w / K = 2 * a ∨ w / K = 2 * a + 1 ∨ 2 * a + 2 ≤ w / K) with z | z | z | z
  · exfalso
    have q : K * (w / K + 1) ≤ K * (2 * a) := Nat.mul_le_mul_left _ z
    rw [Nat.mul_add, Nat.mul_one] at q
    omega
  · exfalso
    rw [z] at dm sp
    rw [wqe] at sp
    have q := wq_max (i + m) (w % K) (by rw [← hK]; exact lr)
    have q2 := wq32 (k := i + m) (v := w % K) (by omega) (by rw [← hK]; exact lr)
    rw [show qpc (i + m) (w % K) = m by omega, show i + m - m = i by omega, ← hK] at q
    omega
  · rw [z] at dm sp
    rw [wqo] at sp
    have q := wq_min (i + m) (w % K) (by rw [← hK]; exact lr)
    have q2 := wq32 (k := i + m) (v := w % K) (by omega) (by rw [← hK]; exact lr)
    rw [show qpc (i + m) (w % K) = m - 1 by omega] at q
    omega
  · have q : K * (2 * a + 2) ≤ K * (w / K) := Nat.mul_le_mul_left _ z
    omega
/-- the first one with as many -/
theorem wGp_0 {w c : Nat} (h : w < 2 ^ 14) (e : qpc 32 w = c) : 2 ^ c - 1 ≤ w := by
  have q := wq_min 14 w h
  rw [← wq32 (k := 14) (by decide) h, e] at q
  exact q
/-- where a set's i-th one is -/
theorem wC_at {m i : Nat} : ∀ k, i < wC m k → ∃ d, d < k ∧ m.testBit d = true ∧ wC m d = i
  | 0, h => absurd h (Nat.not_lt_zero _)
  | k + 1, h => by
    rw [wC_s] at h
    by_cases z : i < wC m k
    · obtain ⟨d, d1, d2⟩ := wC_at k z
      exact ⟨d, by omega, d2⟩
    · by_cases b : m.testBit k = true
      · rw [if_pos b] at h
        exact ⟨k, by omega, b, by omega⟩
      · rw [if_neg b] at h; omega
theorem wC_mo {m j k : Nat} (h : j ≤ k) : wC m j ≤ wC m k := by
  rw [← wqC, ← wqC]; exact qpc_mono h
theorem wC_inj {m d d' : Nat} (h : m.testBit d = true) (h' : m.testBit d' = true) (e : wC m d = wC m d') : d = d' := by
  rcases Nat.lt_trichotomy d d' with z | z | z
  · have q := wC_mo (m := m) (show d + 1 ≤ d' by omega)
    rw [wC_s, if_pos h] at q; omega
  · exact z
  · have q := wC_mo (m := m) (show d' + 1 ≤ d by omega)
    rw [wC_s, if_pos h'] at q; omega
theorem wC_lt2 {m d k : Nat} (hd : d < k) (h : m.testBit d = true) : wC m d < wC m k := by
  have q := wC_mo (m := m) (show d + 1 ≤ k by omega)
  rw [wC_s, if_pos h] at q; omega
/-- places spread over the ones of a set -/
noncomputable def wSpr (F p S : Nat) : Prop := S < 2 ^ 14 ∧ ∀ d, S.testBit d = true ↔ (F.testBit d = true ∧ p.testBit (wC F d) = true)
theorem wSpr.sub {F p S : Nat} (h : wSpr F p S) : wSub S F := fun i q => ((h.2 i).mp q).1
theorem wK_bit : ∀ (k : Nat) {F S d : Nat}, d < k → F.testBit d = true → (wK k F S).testBit (qpc d F) = S.testBit d
  | 0, _, _, d, h, _ => absurd h (Nat.not_lt_zero _)
  | k + 1, F, S, d, h, hF => by
    cases d with
    | zero =>
      have e : F % 2 = 1 := Nat.mod_two_eq_one_iff_testBit_zero.mpr hF
      rw [wK_s, if_pos e, show qpc 0 F = 0 from rfl, Nat.testBit_zero, Nat.testBit_zero]
      rw [show (S % 2 + 2 * wK k (F / 2) (S / 2)) % 2 = S % 2 by omega]
    | succ d =>
      rw [Nat.testBit_add_one] at hF
      have q := wK_bit k (S := S / 2) (show d < k by omega) hF
      rw [wK_s, qpc_s, Nat.testBit_add_one S, ← q]
      rcases Nat.mod_two_eq_zero_or_one F with e | e
      · rw [if_neg (by omega), e, Nat.zero_add]
      · rw [if_pos e, e, Nat.add_comm 1, Nat.testBit_add_one, show (S % 2 + 2 * wK k (F / 2) (S / 2)) / 2 = wK k (F / 2) (S / 2) by omega]
theorem wSpr_K {F p S : Nat} (hF : F < 2 ^ 14) (hp : p < 2 ^ wC F 14) (h : wSpr F p S) : wK 14 F S = p := by
  refine Nat.eq_of_testBit_eq (fun j => ?_)
  rcases Nat.lt_or_ge j (wC F 14) with z | z
  · obtain ⟨d, d1, d2, d3⟩ := wC_at 14 z
    have q := wK_bit 14 (S := S) d1 d2
    rw [wqC, d3] at q
    rw [q]
    have r := h.2 d
    rw [d3] at r
    cases e1 : S.testBit d <;> cases e2 : p.testBit j <;> simp_all
  · have l := wK_lt 14 F S
    rw [wqC] at l
    rw [Nat.testBit_lt_two_pow (Nat.lt_of_lt_of_le l (Nat.pow_le_pow_right (by decide) z)), Nat.testBit_lt_two_pow (Nat.lt_of_lt_of_le hp (Nat.pow_le_pow_right (by decide) z))]
theorem wK_mono : ∀ (k : Nat) {F S S' : Nat}, S' < 2 ^ k → S &&& F = S → S' &&& F = S' → S < S' → wK k F S < wK k F S'
  | 0, _, _, _, l, _, _, h => by rw [Nat.pow_zero] at l; omega
  | k + 1, F, S, S', l, a, b, h => by
    have a2 := w2_h a
    have b2 := w2_h b
    rw [Nat.pow_succ] at l
    rw [wK_s, wK_s]
    by_cases e : F % 2 = 1
    · rw [if_pos e, if_pos e]
      by_cases z : S / 2 = S' / 2
      · rw [z]; omega
      · have q := wK_mono k (show S' / 2 < 2 ^ k by omega) a2.1 b2.1 (show S / 2 < S' / 2 by omega)
        omega
    · rw [if_neg e, if_neg e]
      have z1 : S % 2 = 0 := by have := a2.2; omega
      have z2 : S' % 2 = 0 := by have := b2.2; omega
      exact wK_mono k (show S' / 2 < 2 ^ k by omega) a2.1 b2.1 (show S / 2 < S' / 2 by omega)
theorem wK_pc : ∀ (k : Nat) {F S : Nat}, S &&& F = S → qpc k (wK k F S) = qpc k S
  | 0, _, _, _ => rfl
  | k + 1, F, S, a => by
    have a2 := w2_h a
    have q := wK_pc k a2.1
    rw [wK_s, qpc_s k S]
    by_cases e : F % 2 = 1
    · rw [if_pos e, qpc_s, show (S % 2 + 2 * wK k (F / 2) (S / 2)) % 2 = S % 2 by omega, show (S % 2 + 2 * wK k (F / 2) (S / 2)) / 2 = wK k (F / 2) (S / 2) by omega, q]
    · have z : S % 2 = 0 := by have := a2.2; omega
      have l := wK_lt k (F / 2) (S / 2)
      have l2 : 2 ^ qpc k (F / 2) ≤ 2 ^ k := Nat.pow_le_pow_right (by decide) (qpc_le k (F / 2))
      rw [if_neg e, z, Nat.zero_add, qpc_big k _ (by omega), q]
end WG
