/-! LOCALS AND STACK -/
def zLv (φ : List Nat) (L : List zV) (lv : List (Nat × Value)) : Prop := ∀ (i : Nat) (v : zV), L[i]? = some v → v ≠ zN → ∃ u : Value, (i, u) ∈ lv ∧ zVR φ v u
theorem zLR.ld {φ : List Nat} {L : List zV} {ls : Array Slot} (h : zLR φ L ls) {i : Nat} {v : zV} (hi : L[i]? = some v) (hv : v ≠ zN) : ∃ u, ls[i]? = some (.val u) ∧ zVR φ v u := by
  obtain ⟨lv, h1, h2⟩ := h
  obtain ⟨u, h3, h4⟩ := h2 i v hi hv
  exact ⟨u, h1.2.2 _ h3, h4⟩
theorem zclr_len (L : List zV) (i : Nat) : (zclr L i).length = L.length := by
  unfold zclr
  split
  · rfl
  · split
    · simp
    · rfl
theorem zsto_len (L : List zV) (i : Nat) (v : zV) : (zsto L i v).length = L.length := by simp [zsto, zclr_len]
theorem zstl_len (L : List zV) (i : Nat) (v : zV) : (zstl L i v).length = L.length := by simp [zstl, zclr_len]
theorem zclr_at {L : List zV} {i j : Nat} {w : zV} (h : (zclr L i)[j]? = some w) (hw : w ≠ zN) : L[j]? = some w ∧ ¬ (j + 1 = i ∧ zcat w = 2) := by
  unfold zclr at h
  split at h
  · exact ⟨h, by omega⟩
  · rename_i k
    split at h
    · rename_i x hx
      by_cases hj : j = k
      · subst hj
        rw [List.getElem?_set_self (by exact (List.getElem?_eq_some_iff.mp hx).1)] at h
        exact absurd (Option.some.inj h).symm hw
      · rw [List.getElem?_set_ne (fun q => hj q.symm)] at h
        exact ⟨h, by omega⟩
    · rename_i hx
      refine ⟨h, ?_⟩
      rintro ⟨h1, h2⟩
      have hj : j = k := by omega
      subst hj
      rcases w with x | x | x
      · simp [zcat] at h2
      · exact hx x h
      · simp [zcat] at h2
theorem zLv.st1 {φ : List Nat} {L : List zV} {lv : List (Nat × Value)} (h : zLv φ L lv) {i : Nat} {v : zV} {u : Value} (hu : zVR φ v u) : zLv φ (zsto L i v) ((i, u) :: lv.filter (fun q => !(q.1 == i) && !(q.1 + 1 == i && q.2.category == 2))) := by
  intro j w hj hw
  by_cases hji : j = i
  · subst hji
    unfold zsto at hj
    have hlt : j < (zclr L j).length := by
      have := (List.getElem?_eq_some_iff.mp hj).1
      simpa using this
    rw [List.getElem?_set_self hlt] at hj
    cases hj
    exact ⟨u, List.mem_cons_self, hu⟩
  · unfold zsto at hj
    rw [List.getElem?_set_ne (fun q => hji q.symm)] at hj
    obtain ⟨h1, h2⟩ := zclr_at hj hw
    obtain ⟨u', h3, h4⟩ := h j w h1 hw
    refine ⟨u', List.mem_cons_of_mem _ (List.mem_filter.mpr ⟨h3, ?_⟩), h4⟩
    rw [← h4.cat] at h2
    simp only [Bool.and_eq_true, Bool.not_eq_true', beq_eq_false_iff_ne, Bool.and_eq_false_iff]
    refine ⟨hji, ?_⟩
    by_cases hq : j + 1 = i
    · exact Or.inr (fun z => h2 ⟨hq, z⟩)
    · exact Or.inl hq
theorem zLv.st2 {φ : List Nat} {L : List zV} {lv : List (Nat × Value)} (h : zLv φ L lv) {i : Nat} {v : zV} {u : Value} (hu : zVR φ v u) : zLv φ (zstl L i v) ((i, u) :: lv.filter (fun q => !(q.1 == i) && (!(q.1 == i + 1) && !(q.1 + 1 == i && q.2.category == 2)))) := by
  intro j w hj hw
  unfold zstl at hj
  by_cases hj1 : j = i + 1
  · subst hj1
    have hlt := (List.getElem?_eq_some_iff.mp hj).1
    rw [List.getElem?_set_self (by simpa using hlt)] at hj
    cases hj
    exact absurd rfl hw
  rw [List.getElem?_set_ne (fun q => hj1 q.symm)] at hj
  by_cases hji : j = i
  · subst hji
    have hlt : j < (zclr L j).length := by
      have := (List.getElem?_eq_some_iff.mp hj).1
      simpa using this
    rw [List.getElem?_set_self hlt] at hj
    cases hj
    exact ⟨u, List.mem_cons_self, hu⟩
  · rw [List.getElem?_set_ne (fun q => hji q.symm)] at hj
    obtain ⟨h1, h2⟩ := zclr_at hj hw
    obtain ⟨u', h3, h4⟩ := h j w h1 hw
    refine ⟨u', List.mem_cons_of_mem _ (List.mem_filter.mpr ⟨h3, ?_⟩), h4⟩
    rw [← h4.cat] at h2
    simp only [Bool.and_eq_true, Bool.not_eq_true', beq_eq_false_iff_ne, Bool.and_eq_false_iff]
    refine ⟨hji, hj1, ?_⟩
    by_cases hq : j + 1 = i
    · exact Or.inr (fun z => h2 ⟨hq, z⟩)
    · exact Or.inl hq
/-! what a load, a store says -/
theorem zld_spec {L : List zV} {i n k : Nat} {st : List zV} {w : zW} {c : zC} {w' : zW} (h : zld L i n k st w = some (.inl (c, w'))) :
    w' = w ∧ ((k = 0 ∧ ∃ x, L[i]? = some (.inl x) ∧ c = (n, L, .inl x :: st)) ∨ (k = 1 ∧ ∃ x, L[i]? = some (.inr (.inl x)) ∧ c = (n, L, .inr (.inl x) :: st)) ∨ (k = 2 ∧ ∃ r, L[i]? = some (.inr (.inr (some r))) ∧ c = (n, L, .inr (.inr (some r)) :: st))) := by
  unfold zld zgo at h
  split at h
  · cases h; exact ⟨rfl, Or.inl ⟨rfl, _, by assumption, rfl⟩⟩
  · cases h; exact ⟨rfl, Or.inr (Or.inl ⟨rfl, _, by assumption, rfl⟩)⟩
  · cases h; exact ⟨rfl, Or.inr (Or.inr ⟨rfl, _, by assumption, rfl⟩)⟩
  · cases h
theorem zss_spec {L : List zV} {i n k : Nat} {st : List zV} {w : zW} {c : zC} {w' : zW} (h : zss L i n k st w = some (.inl (c, w'))) :
    w' = w ∧ ((k = 0 ∧ ∃ x st', st = .inl x :: st' ∧ i < L.length ∧ c = (n, zsto L i (.inl x), st')) ∨ (k = 1 ∧ ∃ x st', st = .inr (.inl x) :: st' ∧ i + 1 < L.length ∧ c = (n, zstl L i (.inr (.inl x)), st')) ∨ (k = 2 ∧ ∃ r st', st = .inr (.inr (some r)) :: st' ∧ i < L.length ∧ c = (n, zsto L i (.inr (.inr (some r))), st'))) := by
  unfold zss zgo at h
  split at h
  · split at h
    · cases h; exact ⟨rfl, Or.inl ⟨rfl, _, _, rfl, by assumption, rfl⟩⟩
    · cases h
  · split at h
    · cases h; exact ⟨rfl, Or.inr (Or.inl ⟨rfl, _, _, rfl, by assumption, rfl⟩)⟩
    · cases h
  · split at h
    · cases h; exact ⟨rfl, Or.inr (Or.inr ⟨rfl, _, _, rfl, by assumption, rfl⟩)⟩
    · cases h
  · cases h
theorem zi2_spec {g : Int → Int → Int} {n : Nat} {L st : List zV} {w : zW} {c : zC} {w' : zW} (h : zi2 g n L st w = some (.inl (c, w'))) : w' = w ∧ ∃ y x st', st = .inl y :: .inl x :: st' ∧ c = (n, L, .inl (g x y) :: st') := by
  unfold zi2 zgo at h
  split at h
  · cases h; exact ⟨rfl, _, _, _, rfl, rfl⟩
  · cases h
theorem zl2_spec {g : Int → Int → Int} {n : Nat} {L st : List zV} {w : zW} {c : zC} {w' : zW} (h : zl2 g n L st w = some (.inl (c, w'))) : w' = w ∧ ∃ y x st', st = .inr (.inl y) :: .inr (.inl x) :: st' ∧ c = (n, L, .inr (.inl (g x y)) :: st') := by
  unfold zl2 zgo at h
  split at h
  · cases h; exact ⟨rfl, _, _, _, rfl, rfl⟩
  · cases h
theorem zli_spec {g : Int → Int → Int} {n : Nat} {L st : List zV} {w : zW} {c : zC} {w' : zW} (h : zli g n L st w = some (.inl (c, w'))) : w' = w ∧ ∃ y x st', st = .inl y :: .inr (.inl x) :: st' ∧ c = (n, L, .inr (.inl (g x y)) :: st') := by
  unfold zli zgo at h
  split at h
  · cases h; exact ⟨rfl, _, _, _, rfl, rfl⟩
  · cases h
theorem zi2d_spec {g : Int → Int → Int} {n : Nat} {L st : List zV} {w : zW} {c : zC} {w' : zW} (h : zi2d g n L st w = some (.inl (c, w'))) : w' = w ∧ ∃ y x st', ¬ y = 0 ∧ st = .inl y :: .inl x :: st' ∧ c = (n, L, .inl (g x y) :: st') := by
  unfold zi2d zgo at h
  split at h
  · split at h
    · cases h
    · cases h; exact ⟨rfl, _, _, _, by assumption, rfl, rfl⟩
  · cases h
theorem zl2d_spec {g : Int → Int → Int} {n : Nat} {L st : List zV} {w : zW} {c : zC} {w' : zW} (h : zl2d g n L st w = some (.inl (c, w'))) : w' = w ∧ ∃ y x st', ¬ y = 0 ∧ st = .inr (.inl y) :: .inr (.inl x) :: st' ∧ c = (n, L, .inr (.inl (g x y)) :: st') := by
  unfold zl2d zgo at h
  split at h
  · split at h
    · cases h
    · cases h; exact ⟨rfl, _, _, _, by assumption, rfl, rfl⟩
  · cases h
/-! numbers -/
theorem w32_bmod (x : Int) : w32 x = x.bmod (2 ^ 32) := by
  unfold w32 Int.bmod
  have h : ((2 ^ 32 : Nat) : Int) = 4294967296 := by decide
  simp only [h]
  split <;> omega
theorem w64_bmod (x : Int) : w64 x = x.bmod (2 ^ 64) := by
  unfold w64 Int.bmod
  have h : ((2 ^ 64 : Nat) : Int) = 18446744073709551616 := by decide
  simp only [h]
  split <;> omega
theorem z_ofI (x : Int32) : Int32.ofInt x.toInt = x := by simp
theorem z_ofL (x : Int64) : Int64.ofInt x.toInt = x := by simp
theorem z_add (x y : Int32) : (x + y).toInt = w32 (x.toInt + y.toInt) := by rw [w32_bmod, Int32.toInt_add]
theorem z_sub (x y : Int32) : (x - y).toInt = w32 (x.toInt - y.toInt) := by rw [w32_bmod, Int32.toInt_sub]
theorem z_mul (x y : Int32) : (x * y).toInt = w32 (x.toInt * y.toInt) := by rw [w32_bmod, Int32.toInt_mul]
theorem z_neg (x : Int32) : (-x).toInt = w32 (-x.toInt) := by rw [w32_bmod, Int32.toInt_neg]
theorem z_div (x y : Int32) : (x / y).toInt = w32 (x.toInt.tdiv y.toInt) := by rw [w32_bmod, Int32.toInt_div]
theorem z_rem (x y : Int32) : (x - x / y * y).toInt = x.toInt.tmod y.toInt := rem_toInt x y
theorem z_ladd (x y : Int64) : (x + y).toInt = w64 (x.toInt + y.toInt) := by rw [w64_bmod, Int64.toInt_add]
theorem z_lsub (x y : Int64) : (x - y).toInt = w64 (x.toInt - y.toInt) := by rw [w64_bmod, Int64.toInt_sub]
theorem z_lmul (x y : Int64) : (x * y).toInt = w64 (x.toInt * y.toInt) := by rw [w64_bmod, Int64.toInt_mul]
theorem z_lneg (x : Int64) : (-x).toInt = w64 (-x.toInt) := by rw [w64_bmod, Int64.toInt_neg]
theorem z_ldiv (x y : Int64) : (x / y).toInt = w64 (x.toInt.tdiv y.toInt) := by rw [w64_bmod, Int64.toInt_div]
theorem z_i2l (x : Int32) : x.toInt64.toInt = x.toInt := by simp
theorem z_l2i (x : Int64) : x.toInt32.toInt = w32 x.toInt := by rw [w32_bmod]; simp
theorem z_i2c (x : Int32) : (x.toUInt32 % 65536).toInt32.toInt = x.toInt % 65536 := by
  show (x.toBitVec % 65536#32).toInt = x.toBitVec.toInt % 65536
  rw [BitVec.toInt_eq_toNat_bmod, BitVec.toInt_eq_toNat_bmod, BitVec.toNat_umod]
  have := x.toBitVec.isLt
  have h : 65536 % 2 ^ 32 = 65536 := by decide
  simp only [Int.bmod, BitVec.toNat_ofNat, h]
  omega
theorem z_i2b (x : Int32) : x.toInt8.toInt32.toInt = (x.toInt + 128) % 256 - 128 := by
  rw [Int8.toInt_toInt32, Int32.toInt_toInt8]
  simp only [Int.bmod]
  omega
theorem z_nat (i : Int32) : i.toNatClampNeg = i.toInt.toNat := rfl
theorem z_in {i : Int32} {n : Nat} (h : 0 ≤ i.toInt ∧ i.toInt < n) : vp_in i n := by
  unfold vp_in
  rintro (q | q)
  · have := Int32.lt_iff_toInt_lt.mp q
    simp at this
    omega
  · have : n ≤ i.toInt.toNat := q
    omega
theorem z_lrem (x y : Int64) : (x - x / y * y).toInt = x.toInt.tmod y.toInt := by
  have h1 := Int64.le_toInt (x % y)
  have h2 := Int64.toInt_lt (x % y)
  rw [← Int64.toInt_mod]
  rw [Int64.toInt_sub, Int64.toInt_mul, Int64.toInt_div, Int.bmod_mul_bmod, Int.sub_bmod_bmod, Int.mul_comm (x.toInt.tdiv y.toInt), ← Int.tmod_def, ← Int64.toInt_mod]
  exact Int.bmod_eq_of_le_mul_two (by omega) (by omega)
theorem z_lcmp (x y : Int64) : (lg_cmp x y).toInt = if y.toInt < x.toInt then 1 else if x.toInt = y.toInt then 0 else -1 := by
  unfold lg_cmp
  simp only [gt_iff_lt, Int64.lt_iff_toInt_lt, ← Int64.toInt_inj]
  repeat' split
  all_goals first | rfl | omega | simp_all
theorem zcmp_eq {x y : Int32} (h : x = y) : zcmp .eq x.toInt y.toInt = true := by simp [zcmp, h]
theorem zcmp_eqN {x y : Int32} (h : ¬ x = y) : ¬ zcmp .eq x.toInt y.toInt = true := by simpa [zcmp, Int32.toInt_inj] using h
theorem zcmp_ne {x y : Int32} (h : ¬ x = y) : zcmp .ne x.toInt y.toInt = true := by simpa [zcmp, Int32.toInt_inj] using h
theorem zcmp_neN {x y : Int32} (h : x = y) : ¬ zcmp .ne x.toInt y.toInt = true := by simp [zcmp, h]
theorem zcmp_lt {x y : Int32} (h : x < y) : zcmp .lt x.toInt y.toInt = true := by simpa [zcmp] using Int32.lt_iff_toInt_lt.mp h
theorem zcmp_ltN {x y : Int32} (h : ¬ x < y) : ¬ zcmp .lt x.toInt y.toInt = true := by simpa [zcmp, Int32.lt_iff_toInt_lt] using h
theorem zcmp_gt {x y : Int32} (h : y < x) : zcmp .gt x.toInt y.toInt = true := by simpa [zcmp] using Int32.lt_iff_toInt_lt.mp h
theorem zcmp_gtN {x y : Int32} (h : ¬ y < x) : ¬ zcmp .gt x.toInt y.toInt = true := by simpa [zcmp, Int32.lt_iff_toInt_lt] using h
theorem zcmp_le {x y : Int32} (h : x ≤ y) : zcmp .le x.toInt y.toInt = true := by simpa [zcmp] using Int32.le_iff_toInt_le.mp h
theorem zcmp_leN {x y : Int32} (h : ¬ x ≤ y) : ¬ zcmp .le x.toInt y.toInt = true := by simpa [zcmp, Int32.le_iff_toInt_le] using h
theorem zcmp_ge {x y : Int32} (h : y ≤ x) : zcmp .ge x.toInt y.toInt = true := by simpa [zcmp] using Int32.le_iff_toInt_le.mp h
theorem zcmp_geN {x y : Int32} (h : ¬ y ≤ x) : ¬ zcmp .ge x.toInt y.toInt = true := by simpa [zcmp, Int32.le_iff_toInt_le] using h
theorem z_char {v : Int32} (h : 0 ≤ v.toInt ∧ v.toInt < 65536) : narrow .char (.int v) = .int v := by
  show Value.int v.toUInt32.toUInt16.toUInt32.toInt32 = Value.int v
  congr 1
  apply Int32.toInt_inj.mp
  have e : v.toUInt32.toUInt16.toUInt32.toInt32.toInt = v.toInt % 65536 := by
    rw [← z_i2c]
    congr 1
  rw [e]
  omega
theorem z_byte {v : Int32} (h : -128 ≤ v.toInt ∧ v.toInt < 128) : narrow .byte (.int v) = .int v := by
  show Value.int v.toInt8.toInt32 = Value.int v
  congr 1
  apply Int32.toInt_inj.mp
  rw [z_i2b]
  omega
