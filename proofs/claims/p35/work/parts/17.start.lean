/-! THE LAW'S START, IN THE SIMPLE MACHINE -/
def zranks : List Int := [1, 0, 2, 3, 4, 8, 8, 0, 0, 0, 0, 0, 0, 0, 0, 5, 5, 5, 6, 6, 7, 7, 0, 0, 0, 0, 8]
def zplp : List Int := [-8, 39, -17, -11, -5]
def zplc : List Int := [-13, 10, -22]
def zwords : List Int := [117, 110, 108, 101, 115, 115, 32, 105, 102, 32, 101, 108, 115, 101, 32, 111, 114, 32, 97, 110, 100, 32, 110, 111, 116, 32, 98, 101, 115, 116, 32, 109, 97, 114, 107, 32, 116, 114, 105, 101, 115, 32, 101, 120, 99, 117, 115, 101, 100, 32, 108, 101, 97, 110, 115, 32, 99, 111, 117, 114, 115, 101, 32, 99, 114, 101, 100, 105, 116, 32, 109, 101, 97, 110, 32, 112, 97, 115, 115, 101, 100, 32]
def zsigns : List Int := [60, 62, 61, 43, 45, 42, 47, 40, 41]
def zxS (L : Nat) : List zSh := [.inl (10, L), .inl (10, 27), .inl (10, 5), .inl (10, 3), .inr (100, [.inl (some 5), .inr 0]), .inl (14, 82), .inr (100, [.inl (some 7), .inr 0]), .inl (14, 9)]
def zxc (xs : Nat → Int32) : zM := fun i j =>
  match i with
  | 0 => (xs j).toInt
  | 1 => zranks.getD j 0
  | 2 => zplp.getD j 0
  | 3 => zplc.getD j 0
  | 5 => zwords.getD j 0
  | 7 => zsigns.getD j 0
  | _ => 0
/-- what is left to be shown, of the simple machine alone -/
def zPure : Prop := ∀ (L : Nat) (xs : Nat → Int32), L ≤ 4096 → ∃ (f : Nat) (w' : zW), zrun zP f 300 311 (0, zini [.inr (.inr (some 0))] 4, []) (zxS L, zxc xs, 0, 0) = some (some (.inl 1), w')
noncomputable abbrev zfl : List Cond := flatC (Jvm.Cond.and given_1 narrow_1)
abbrev zTr : Term := .static "SenateRoll$Reader" "RANKS" "[I"
abbrev zTp : Term := .static "SenateRoll$Judge" "PLAIN_PASSES" "[I"
abbrev zTc : Term := .static "SenateRoll$Judge" "PLAIN_CLASSES" "[I"
def zix (i : Nat) : Nat := if i = 0 then 161 else 151
def zTs (i : Nat) : Term := .string "SenateRoll$Reader" (zix i)
def zlen : List Nat := [82, 9]
def zbyt : List (List Int32) := [zwords.map Int32.ofInt, zsigns.map Int32.ofInt]
theorem ztr_a : Cond.arrayOf zTr .int ∈ zfl := by decide +kernel
theorem ztr_l : Cond.eq (.length zTr) (.int (Int32.ofNat 27)) ∈ zfl := by decide +kernel
theorem ztr_e0 : ∀ j, j < 27 → zfl[26 + j]? = some (Cond.eq (.elem zTr (.int (Int32.ofNat j))) (.int (Int32.ofInt (zranks.getD j 0)))) := by decide +kernel
theorem ztr_e : ∀ j, j < 27 → Cond.eq (.elem zTr (.int (Int32.ofNat j))) (.int (Int32.ofInt (zranks.getD j 0))) ∈ zfl := fun j h => List.mem_of_getElem? (ztr_e0 j h)
theorem ztr_v : ∀ j, j < 27 → (Int32.ofInt (zranks.getD j 0)).toInt = zranks.getD j 0 := by decide +kernel
theorem ztp_a : Cond.arrayOf zTp .int ∈ zfl := by decide +kernel
theorem ztp_l : Cond.eq (.length zTp) (.int (Int32.ofNat 5)) ∈ zfl := by decide +kernel
theorem ztp_e : ∀ j, j < 5 → Cond.eq (.elem zTp (.int (Int32.ofNat j))) (.int (Int32.ofInt (zplp.getD j 0))) ∈ zfl := by decide +kernel
theorem ztp_v : ∀ j, j < 5 → (Int32.ofInt (zplp.getD j 0)).toInt = zplp.getD j 0 := by decide +kernel
theorem ztc_a : Cond.arrayOf zTc .int ∈ zfl := by decide +kernel
theorem ztc_l : Cond.eq (.length zTc) (.int (Int32.ofNat 3)) ∈ zfl := by decide +kernel
theorem ztc_e : ∀ j, j < 3 → Cond.eq (.elem zTc (.int (Int32.ofNat j))) (.int (Int32.ofInt (zplc.getD j 0))) ∈ zfl := by decide +kernel
theorem ztc_v : ∀ j, j < 3 → (Int32.ofInt (zplc.getD j 0)).toInt = zplc.getD j 0 := by decide +kernel
theorem zts_x : ∀ i, i < 2 → Cond.exactly (zTs i) "java/lang/String" ∈ zfl := by decide +kernel
theorem zts_c : ∀ i, i < 2 → Cond.eq (.field (zTs i) "java/lang/String" "coder" "B") (.int 0) ∈ zfl := by decide +kernel
theorem zts_a : ∀ i, i < 2 → Cond.arrayOf (.field (zTs i) "java/lang/String" "value" "[B") .byte ∈ zfl := by decide +kernel
theorem zts_l : ∀ i, i < 2 → Cond.eq (.length (.field (zTs i) "java/lang/String" "value" "[B")) (.int (Int32.ofNat (zlen.getD i 0))) ∈ zfl := by decide +kernel
theorem zts_e0 : ∀ i, i < 2 → ∀ j, j < zlen.getD i 0 → zfl[(if i = 0 then 57 else 143) + j]? = some (Cond.eq (.elem (.field (zTs i) "java/lang/String" "value" "[B") (.int (Int32.ofNat j))) (.int ((zbyt.getD i []).getD j 0))) := by decide +kernel
theorem zts_e : ∀ i, i < 2 → ∀ j, j < zlen.getD i 0 → Cond.eq (.elem (.field (zTs i) "java/lang/String" "value" "[B") (.int (Int32.ofNat j))) (.int ((zbyt.getD i []).getD j 0)) ∈ zfl := fun i hi j h => List.mem_of_getElem? (zts_e0 i hi j h)
theorem zts_n : Cond.not (Cond.eq (zTs 0) (zTs 1)) ∈ zfl := by decide +kernel
theorem zts_v0 : ∀ j, j < zlen.getD 0 0 → ((zbyt.getD 0 []).getD j 0).toInt = zwords.getD j 0 := by decide +kernel
theorem zts_v1 : ∀ j, j < zlen.getD 1 0 → ((zbyt.getD 1 []).getD j 0).toInt = zsigns.getD j 0 := by decide +kernel
theorem zlens2 : ∀ i, i < 2 → zlen.getD i 0 < 2 ^ 31 := by decide +kernel
theorem zq_compact : Cond.eq (.static "java/lang/String" "COMPACT_STRINGS" "Z") (.int 1) ∈ zfl := by decide +kernel
theorem zq_sio : Cond.isRef (.static "jdk/internal/util/Preconditions" "SIOOBE_FORMATTER" "Ljava/util/function/BiFunction;") ∈ zfl := by decide +kernel
theorem zl_in {c j : Nat} {w : Cond} (h : (zch c)[j]? = some w) : w ∈ lw_tbl := zch_sub c w (List.mem_of_getElem? h)
theorem zls_r : Cond.laysStatic "SenateRoll$Reader" "RANKS" "[I" ∈ lw_tbl := zl_in (c := 4) (j := 218) rfl
theorem zli_r : Cond.initialized "SenateRoll$Reader" ∈ lw_tbl := zl_in (c := 1) (j := 6) rfl
theorem zls_p : Cond.laysStatic "SenateRoll$Judge" "PLAIN_PASSES" "[I" ∈ lw_tbl := zl_in (c := 1) (j := 212) rfl
theorem zli_p : Cond.initialized "SenateRoll$Judge" ∈ lw_tbl := zl_in (c := 1) (j := 8) rfl
theorem zls_c : Cond.laysStatic "SenateRoll$Judge" "PLAIN_CLASSES" "[I" ∈ lw_tbl := zl_in (c := 1) (j := 222) rfl
theorem zli_c : Cond.initialized "SenateRoll$Judge" ∈ lw_tbl := zl_in (c := 1) (j := 8) rfl
theorem zls_z : Cond.laysStatic "java/lang/String" "COMPACT_STRINGS" "Z" ∈ lw_tbl := zl_in (c := 4) (j := 86) rfl
theorem zli_z : Cond.initialized "java/lang/String" ∈ lw_tbl := zl_in (c := 1) (j := 16) rfl
theorem zls_q : Cond.laysStatic "jdk/internal/util/Preconditions" "SIOOBE_FORMATTER" "Ljava/util/function/BiFunction;" ∈ lw_tbl := zl_in (c := 4) (j := 102) rfl
theorem zli_q : Cond.initialized "jdk/internal/util/Preconditions" ∈ lw_tbl := zl_in (c := 1) (j := 18) rfl
theorem zac_i : Cond.arrayClass .int ∈ lw_tbl := zl_in (c := 1) (j := 58) rfl
theorem zac_j : Cond.arrayClass .long ∈ lw_tbl := zl_in (c := 1) (j := 202) rfl
theorem zac_z : Cond.arrayClass .boolean ∈ lw_tbl := zl_in (c := 6) (j := 192) rfl
theorem zsr_0 : Cond.stringRef "SenateRoll$Reader" 161 "unless if else or and not best mark tries excused leans course credit mean passed " ∈ lw_tbl := zl_in (c := 4) (j := 76) rfl
theorem zsr_1 : Cond.stringRef "SenateRoll$Reader" 151 "<>=+-*/()" ∈ lw_tbl := zl_in (c := 4) (j := 129) rfl
theorem zne_0 : Cond.methodLinkNest "SenateRoll" 9 ⟨"SenateRoll$House", "<init>", "()V"⟩ "SenateRoll" ∈ lw_tbl := zl_in (c := 1) (j := 32) rfl
theorem zne_1 : Cond.methodLinkNest "SenateRoll" 46 ⟨"SenateRoll$Machine", "<init>", "()V"⟩ "SenateRoll" ∈ lw_tbl := zl_in (c := 1) (j := 179) rfl
theorem zne_2 : Cond.methodLinkNest "SenateRoll" 85 ⟨"SenateRoll$Doubts", "<init>", "()V"⟩ "SenateRoll" ∈ lw_tbl := zl_in (c := 2) (j := 87) rfl
theorem z_cls {args : Array Value} {s : State} {ty : FieldType} (h : (Cond.arrayClass ty).before args s = true) : ∃ cA : ClassId, ArrOfT s cA ty ∧ s.vm.findClass ("[" ++ ty.toString) = some cA := by
  obtain ⟨cA, kA, comp, h1, h2, h3⟩ := Cond.arrayClass_spec h
  exact ⟨cA, fun n z => ⟨fun k h => (by cases h), kA, h2, comp, h3⟩, h1⟩
set_option maxHeartbeats 4000000 in
theorem z_ext {s : State} {b L : Nat} {xs : Nat → Int32} (hL : L ≤ 4096) (hts : ∀ w ∈ lw_tbl, w.before #[Value.ref b] s = true) (hX : va_X b L xs s s.heap) (hbl : b < s.heap.size) (hgv : (Jvm.Cond.and given_1 narrow_1).before #[Value.ref b] s = true) :
    ∃ (φ : List Nat) (cy : Nat → ClassId), φ.length = 8 ∧ φ[0]? = some b ∧ (ArrOfT s (cy 0) .int ∧ va_RA s (cy 0) .int) ∧ (ArrOfT s (cy 1) .long ∧ va_RA s (cy 1) .long) ∧ (ArrOfT s (cy 2) .boolean ∧ va_RA s (cy 2) .boolean) ∧ zXR zstt ztxt znel (zxS L) (zxc xs) φ (fun q => s.heap.size ≤ q) s s.heap := by
  have hs : ∀ c ∈ zfl, c.before #[Value.ref b] s = true := flat_of_before _ hgv
  have hA : ∀ a : Nat, a < s.heap.size → ¬ (fun q : Nat => s.heap.size ≤ q) a := fun a h => Nat.not_le.mpr h
  obtain ⟨t1, ht1, hT1⟩ := va_Tof (tm := zTr) (ty := .int) (f := fun j => .int (Int32.ofInt (zranks.getD j 0))) (by decide) (hs _ ztr_a) (va_eqt (hs _ ztr_l)) (fun j hj => va_eqt (hs _ (ztr_e j hj))) hA
  obtain ⟨t2, ht2, hT2⟩ := va_Tof (tm := zTp) (ty := .int) (f := fun j => .int (Int32.ofInt (zplp.getD j 0))) (by decide) (hs _ ztp_a) (va_eqt (hs _ ztp_l)) (fun j hj => va_eqt (hs _ (ztp_e j hj))) hA
  obtain ⟨t3, ht3, hT3⟩ := va_Tof (tm := zTc) (ty := .int) (f := fun j => .int (Int32.ofInt (zplc.getD j 0))) (by decide) (hs _ ztc_a) (va_eqt (hs _ ztc_l)) (fun j hj => va_eqt (hs _ (ztc_e j hj))) hA
  obtain ⟨adK, adV, hSS, hSe⟩ := vk_Sof (tm := zTs) (len := zlen) (byt := zbyt) zlens2 (fun i hi => hs _ (zts_x i hi)) (fun i hi => hs _ (zts_c i hi)) (fun i hi => hs _ (zts_a i hi)) (fun i hi => hs _ (zts_l i hi)) (fun i hi j hj => hs _ (zts_e i hi j hj)) (fun i j hi hj hij => by
    have : (i = 0 ∧ j = 1) ∨ (i = 1 ∧ j = 0) := by omega
    rcases this with ⟨rfl, rfl⟩ | ⟨rfl, rfl⟩
    · exact Or.inl (hs _ zts_n)
    · exact Or.inr (hs _ zts_n)) hA
  obtain ⟨cI, hI1, hI2⟩ := z_cls (hts _ zac_i)
  obtain ⟨cJ, hJ1, hJ2⟩ := z_cls (hts _ zac_j)
  obtain ⟨cZ, hZ1, hZ2⟩ := z_cls (hts _ zac_z)
  have hT0 : va_T .int b L (fun j => .int (xs j)) (fun q => s.heap.size ≤ q) s s.heap := by
    obtain ⟨scr, h1, h2, h3, h4, h5⟩ := hX
    exact ⟨scr, h1, h2, h3, by omega, by rw [h4], h5, hA b hbl⟩
  obtain ⟨k1, k2, k3, k4⟩ := hSS.1 0 (by decide)
  obtain ⟨m1, m2, m3, m4⟩ := hSS.1 1 (by decide)
  refine ⟨[b, t1, t2, t3, adK 0, adV 0, adK 1, adV 1], fun k => if k = 0 then cI else if k = 1 then cJ else cZ, rfl, rfl, ⟨hI1, hI2⟩, ⟨hJ1, hJ2⟩, ⟨hZ1, hZ2⟩, ?_, ?_, ?_, ?_, ?_⟩
  · intro i t n hi
    match i, hi with
    | 0, hi => cases hi; exact ⟨Or.inl rfl, by omega, b, xs, rfl, hT0, fun j _ => rfl⟩
    | 1, hi => cases hi; exact ⟨Or.inl rfl, by decide, t1, _, rfl, hT1, ztr_v⟩
    | 2, hi => cases hi; exact ⟨Or.inl rfl, by decide, t2, _, rfl, hT2, ztp_v⟩
    | 3, hi => cases hi; exact ⟨Or.inl rfl, by decide, t3, _, rfl, hT3, ztc_v⟩
    | 4, hi => cases hi
    | 5, hi => cases hi; exact ⟨Or.inr rfl, by decide, adV 0, _, rfl, k4, zts_v0⟩
    | 6, hi => cases hi
    | 7, hi => cases hi; exact ⟨Or.inr rfl, by decide, adV 1, _, rfl, m4, zts_v1⟩
    | i + 8, hi => cases hi
  · intro i c fs hi
    match i, hi with
    | 0, hi => cases hi
    | 1, hi => cases hi
    | 2, hi => cases hi
    | 3, hi => cases hi
    | 4, hi => cases hi; exact ⟨rfl, adK 0, 5, adV 0, rfl, rfl, rfl, k1, k2, k3, rfl⟩
    | 5, hi => cases hi
    | 6, hi => cases hi; exact ⟨rfl, adK 1, 7, adV 1, rfl, rfl, rfl, m1, m2, m3, rfl⟩
    | 7, hi => cases hi
    | i + 8, hi => cases hi
  · intro q hq
    simp only [zstt, List.mem_cons, List.not_mem_nil, or_false] at hq
    rcases hq with rfl | rfl | rfl | rfl | rfl
    · exact ⟨t1, va_Zref (hts _ zls_r) (hts _ zli_r) ht1 hA, rfl⟩
    · exact ⟨t2, va_Zref (hts _ zls_p) (hts _ zli_p) ht2 hA, rfl⟩
    · exact ⟨t3, va_Zref (hts _ zls_c) (hts _ zli_c) ht3 hA, rfl⟩
    · exact ⟨1, va_Zof (hts _ zls_z) (hts _ zli_z) (va_eqi (hs _ zq_compact)) hA, rfl⟩
    · exact va_Zqof (hts _ zls_q) (hts _ zli_q) (hs _ zq_sio) hA
  · intro q hq
    simp only [ztxt, List.mem_cons, List.not_mem_nil, or_false] at hq
    rcases hq with rfl | rfl
    · exact ⟨adK 0, vk_R.of (hts _ zsr_0) (hSe 0 (by decide)), rfl⟩
    · exact ⟨adK 1, vk_R.of (hts _ zsr_1) (hSe 1 (by decide)), rfl⟩
  · intro q hq
    simp only [znel, List.mem_cons, List.not_mem_nil, or_false] at hq
    rcases hq with rfl | rfl | rfl
    · exact va_Nw.of rfl (hts _ zne_0)
    · exact va_Nw.of rfl (hts _ zne_1)
    · exact va_Nw.of rfl (hts _ zne_2)
