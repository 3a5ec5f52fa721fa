/-! CELLS -/
def zCl (Ts : List Cond) (cl : List vw_C) (tf : Nat → Nat → FieldType) : Prop :=
  cl[100]? = none ∧ ∀ (ci : Nat) (q : vw_C), cl[ci]? = some q → (∀ w ∈ u_ws q.1 q.2.1 q.2.2, w ∈ Ts) ∧ (∀ k, k < q.2.2 → parseFieldDescriptor (q.2.1 k).2.2.1 = some (tf ci k)) ∧ (∀ a, a < q.2.2 → ∀ b, b < q.2.2 → a ≠ b → (q.2.1 a).2.1 ≠ (q.2.1 b).2.1)
def zFV (ft : zFT) (z : Int) : Option zV :=
  match ft with
  | .inl (some q) => some (.inr (.inr (some q)))
  | .inl none => none
  | .inr t => if t = 1 then some (.inr (.inl z)) else some (.inl z)
theorem zFR.val {φ : List Nat} {z : Int} {ft : zFT} {ty : FieldType} {u : Value} {v : zV} (h : zFR φ z ft ty u) (hv : zFV ft z = some v) : zVR φ v u := by
  rcases ft with (_ | r) | t
  · cases hv
  · cases hv
    exact h.1
  · match t, h, hv with
    | 0, h, hv => cases hv; exact h.2
    | 1, h, hv => cases hv; exact h.2
    | 2, h, hv => cases hv; exact h.2
theorem zWR.at8 {cy : Nat → ClassId} {tf : Nat → Nat → FieldType} {xS : List zSh} {xc : zM} {φ : List Nat} {S : List zSh} {M : zM} {ws : va_W} (h : zWR cy tf xS xc φ S M ws) {r : Nat} {sh : zSh} (hr : S[r]? = some sh) (h8 : 8 ≤ r) : ∃ (i a : Nat) (e : va_E), r = i + 8 ∧ ws[i]? = some (a, e) ∧ φ[r]? = some a ∧ zER cy tf φ (M r) sh e := by
  obtain ⟨i, rfl⟩ : ∃ i, r = i + 8 := ⟨r - 8, by omega⟩
  obtain ⟨a, e, h1, h2, h3⟩ := h.2.2.2 i sh hr
  exact ⟨i, a, e, rfl, h1, h2, h3⟩
theorem zWR.upd {cy : Nat → ClassId} {tf : Nat → Nat → FieldType} {xS : List zSh} {xc : zM} {φ : List Nat} {S S' : List zSh} {M M' : zM} {ws : va_W} (h : zWR cy tf xS xc φ S M ws) {i a : Nat} {e e' : va_E} (hi : ws[i]? = some (a, e)) (ha : φ[i + 8]? = some a) (hl : S'.length = S.length) (hS : ∀ j, j ≠ i + 8 → S'[j]? = S[j]? ∧ M' j = M j) (hE : ∀ sh, S'[i + 8]? = some sh → zER cy tf φ (M' (i + 8)) sh e') : zWR cy tf xS xc φ S' M' (ws.set i (a, e')) := by
  obtain ⟨h1, h2, h3, h4⟩ := h
  refine ⟨by rw [hl]; exact h1, by rw [hl]; simpa using h2, fun j hj => ?_, fun j sh hj => ?_⟩
  · obtain ⟨q1, q2⟩ := hS j (by omega)
    rw [q1, q2]
    exact h3 j hj
  · by_cases hji : j = i
    · subst hji
      exact ⟨a, e', List.getElem?_set_self (List.getElem?_eq_some_iff.mp hi).1, ha, hE sh hj⟩
    · obtain ⟨q1, q2⟩ := hS (j + 8) (by omega)
      rw [q1] at hj
      rw [q2, List.getElem?_set_ne (fun q => hji q.symm)]
      exact h4 j sh hj
theorem zWR.push {cy : Nat → ClassId} {tf : Nat → Nat → FieldType} {xS : List zSh} {xc : zM} {φ : List Nat} {S : List zSh} {M : zM} {ws : va_W} (h : zWR cy tf xS xc φ S M ws) {q : Nat} {sh : zSh} {e : va_E} (hE : zER cy tf (φ ++ [q]) (fun _ => 0) sh e) : zWR cy tf xS xc (φ ++ [q]) (S ++ [sh]) (zzero M S.length) (ws ++ [(q, e)]) := by
  obtain ⟨h1, h2, h3, h4⟩ := h
  refine ⟨by simp [h1], by simp; omega, fun j hj => ?_, fun j sh' hj => ?_⟩
  · rw [List.getElem?_append_left (by omega)]
    refine ⟨(h3 j hj).1, ?_⟩
    rw [← (h3 j hj).2]
    funext k
    simp only [zzero]
    rw [if_neg (by omega)]
  · by_cases hlt : j + 8 < S.length
    · rw [List.getElem?_append_left hlt] at hj
      obtain ⟨a, e1, g1, g2, g3⟩ := h4 j sh' hj
      refine ⟨a, e1, by rw [List.getElem?_append_left (List.getElem?_eq_some_iff.mp g1).1]; exact g1, zpre (List.prefix_append _ _) g2, ?_⟩
      have e9 : zzero M S.length (j + 8) = M (j + 8) := by
        funext k
        simp only [zzero]
        rw [if_neg (by omega)]
      rw [e9]
      exact g3.up (List.prefix_append _ _)
    · have hz := (List.getElem?_eq_some_iff.mp hj).1
      simp only [List.length_append, List.length_singleton] at hz
      have hj8 : j + 8 = S.length := by omega
      have hjw : j = ws.length := by omega
      rw [hj8, List.getElem?_append_right (Nat.le_refl _), Nat.sub_self] at hj
      cases hj
      refine ⟨q, e, by rw [hjw, List.getElem?_append_right (Nat.le_refl _), Nat.sub_self]; rfl, by rw [hj8, ← h1, List.getElem?_append_right (Nat.le_refl _), Nat.sub_self]; rfl, ?_⟩
      have e9 : zzero M S.length (j + 8) = fun _ => 0 := by
        funext k
        simp only [zzero]
        rw [if_pos hj8]
      rw [e9]
      exact hE
theorem zput_self (M : zM) (r k : Nat) (x : Int) (j : Nat) : zput M r k x r j = if j = k then x else M r j := by simp [zput]
theorem zput_ne (M : zM) {r i : Nat} (k : Nat) (x : Int) (h : i ≠ r) : zput M r k x i = M i := by
  funext j
  simp [zput, h]
section ZM
variable {p : Program} {l : Launch} {e : Env} {R : Room} {s : State} {m : MethodId} {args : Array Value} {below : List Frame} {meth : Method} {c : Code} {Q : State → Prop} {D : va_G} {cl : List vw_C} {cy : Nat → ClassId} {tf : Nat → Nat → FieldType} {A : Nat → Prop} {xS : List zSh} {xc : zM} {φ0 : List Nat}
variable {cc : ByteArray} {pc : Nat} {L st : List zV} {w : zW} {Ts : List Cond} {own : String}
variable {stt : List (String × String × String × Nat × Nat × Int)} {txt : List (String × Nat × String × Nat)} {nel : List (String × Nat × MethodName × String)}
theorem zs_getf (hx : p.tables.exec = Jvm.exec) (hb : c.code = cc) (hts : ∀ w ∈ Ts, w.before args s = true) (hcl : zCl Ts cl tf) (hown : s.vm.findClass own = some m.cls) (hK : va_K D cl (zty cy) s) (hX : zXR stt txt nel xS xc φ0 A s s.heap) {ci k idx r : Nat} {C : String} {T : u_T} {N : Nat} (hc : cl[ci]? = some (C, T, N)) (hk : k < N) (hlink : (Jvm.Cond.fieldLink own idx (T k).1 (T k).2.1 (T k).2.2.1).before args s = true) (hd : decode cc pc = .ok (.getfield idx, 3)) {fts : List zFT} {ft : zFT} {v : zV} (hr : w.1[r]? = some (.inr (ci, fts))) (hf : fts[k]? = some ft) (hv : zFV ft (w.2.1 r k) = some v) (K : zOk p l e R s m args below meth c Q D cl cy tf xS xc φ0 A (pc + 3, L, v :: st) w) : zOk p l e R s m args below meth c Q D cl cy tf xS xc φ0 A (pc, L, .inr (.inr (some r)) :: st) w := by
  intro φ ws H locs ls stk hR
  obtain ⟨hφ, hW, hP, hD, hS, hl, hs⟩ := hR
  obtain ⟨_, _, rfl, ⟨a, rfl, ha⟩, hs⟩ := hs
  by_cases h8 : r < 8
  · have h1 := (hW.2.2.1 r h8).1
    rw [hr] at h1
    obtain ⟨h2, -⟩ := hX.2.1 r ci fts h1.symm
    rw [h2, hcl.1] at hc
    cases hc
  · obtain ⟨i, a', e', rfl, g1, g2, fs, rfl, g4, g5⟩ := hW.at8 hr (by omega)
    cases g2.symm.trans ha
    obtain ⟨u, g6, g7⟩ := g5 k ft hf
    exact va_get hx hb hts (hcl.2 ci _ hc).1 hown hK hP i g1 hc k hk hlink (fun _ h => h) g6 hd (K φ ws H locs ls _ ⟨hφ, hW, hP, hD, hS, hl, _, _, rfl, g7.val hv, hs⟩)
theorem zs_getx (hx : p.tables.exec = Jvm.exec) (hb : c.code = cc) (hcl : zCl Ts cl tf) (hown : s.vm.findClass own = some m.cls) (hX : zXR stt txt nel xS xc φ0 A s s.heap) {k idx r : Nat} (hlink : (k = 0 ∧ (Jvm.Cond.fieldLink own idx "java/lang/String" "value" "[B").before args s = true) ∨ (k = 1 ∧ (Jvm.Cond.fieldLink own idx "java/lang/String" "coder" "B").before args s = true)) (hd : decode cc pc = .ok (.getfield idx, 3)) {fts : List zFT} {ft : zFT} {v : zV} (hr : w.1[r]? = some (.inr (100, fts))) (hf : fts[k]? = some ft) (hv : zFV ft (w.2.1 r k) = some v) (K : zOk p l e R s m args below meth c Q D cl cy tf xS xc φ0 A (pc + 3, L, v :: st) w) : zOk p l e R s m args below meth c Q D cl cy tf xS xc φ0 A (pc, L, .inr (.inr (some r)) :: st) w := by
  intro φ ws H locs ls stk hR
  obtain ⟨hφ, hW, hP, hD, hS, hl, hs⟩ := hR
  obtain ⟨_, _, rfl, ⟨a, rfl, ha⟩, hs⟩ := hs
  by_cases h8 : r < 8
  · have h1 := (hW.2.2.1 r h8).1
    rw [hr] at h1
    obtain ⟨-, a', q, b, rfl, h3, h4, h5, h6, h7, h9⟩ := hX.2.1 r _ fts h1.symm
    cases (zpre hφ h3).symm.trans ha
    rcases hlink with ⟨rfl, hlink⟩ | ⟨rfl, hlink⟩
    · cases hf
      cases hv
      exact vk_getf hx hb h7 hS hown hlink (fun _ h => h) hd (K φ ws H locs ls _ ⟨hφ, hW, hP, hD, hS, hl, _, _, rfl, ⟨_, rfl, zpre hφ h4⟩, hs⟩)
    · cases hf
      cases hv
      exact vk_getf hx hb h6 hS hown hlink (fun _ h => h) hd (K φ ws H locs ls _ ⟨hφ, hW, hP, hD, hS, hl, _, _, rfl, ⟨_, rfl, by rw [(hW.2.2.1 r h8).2, h9]; rfl⟩, hs⟩)
  · obtain ⟨i, a', e', rfl, g1, g2, fs, rfl, g4, g5⟩ := hW.at8 hr (by omega)
    obtain ⟨r', h1, -⟩ := hP i _ g1
    rw [hcl.1] at h1
    cases h1
theorem zs_alen (hx : p.tables.exec = Jvm.exec) (hb : c.code = cc) (hK : va_K D cl (zty cy) s) (hX : zXR stt txt nel xS xc φ0 A s s.heap) {r t n : Nat} (hd : decode cc pc = .ok (.arraylength, 1)) (hr : w.1[r]? = some (.inl (t, n))) (K : zOk p l e R s m args below meth c Q D cl cy tf xS xc φ0 A (pc + 1, L, .inl n :: st) w) : zOk p l e R s m args below meth c Q D cl cy tf xS xc φ0 A (pc, L, .inr (.inr (some r)) :: st) w := by
  intro φ ws H locs ls stk hR
  obtain ⟨hφ, hW, hP, hD, hS, hl, hs⟩ := hR
  obtain ⟨_, _, rfl, ⟨a, rfl, ha⟩, hs⟩ := hs
  have key : n < 2147483648 → (Int32.ofNat n).toInt = (n : Int) := fun h => nI_toInt (n := n) (by omega)
  by_cases h8 : r < 8
  · have h1 := (hW.2.2.1 r h8).1
    rw [hr] at h1
    obtain ⟨-, hn, a', f, h3, h4, h5⟩ := hX.1 r t n h1.symm
    cases (zpre hφ h3).symm.trans ha
    exact va_tlen hx hb h4 hS rfl hd (K φ ws H locs ls _ ⟨hφ, hW, hP, hD, hS, hl, _, _, rfl, ⟨_, rfl, key hn⟩, hs⟩)
  · obtain ⟨i, a', e', rfl, g1, g2, hn, g3⟩ := hW.at8 hr (by omega)
    cases g2.symm.trans ha
    rcases g3 with ⟨rfl | rfl, f, rfl, g5⟩ | ⟨rfl, f, rfl, g5⟩
    · exact va_alen hx hb hK hP i 0 g1 rfl rfl hd (K φ ws H locs ls _ ⟨hφ, hW, hP, hD, hS, hl, _, _, rfl, ⟨_, rfl, key hn⟩, hs⟩)
    · exact va_alen hx hb hK hP i 2 g1 rfl rfl hd (K φ ws H locs ls _ ⟨hφ, hW, hP, hD, hS, hl, _, _, rfl, ⟨_, rfl, key hn⟩, hs⟩)
    · exact va_alen hx hb hK hP i 1 g1 rfl rfl hd (K φ ws H locs ls _ ⟨hφ, hW, hP, hD, hS, hl, _, _, rfl, ⟨_, rfl, key hn⟩, hs⟩)
theorem zs_iald (hx : p.tables.exec = Jvm.exec) (hb : c.code = cc) (hK : va_K D cl (zty cy) s) (hX : zXR stt txt nel xS xc φ0 A s s.heap) {r t n : Nat} {i : Int} (ht : t = 0 ∨ t = 10) (hd : decode cc pc = .ok (.iaload, 1)) (hr : w.1[r]? = some (.inl (t, n))) (hi : 0 ≤ i ∧ i < n) (K : zOk p l e R s m args below meth c Q D cl cy tf xS xc φ0 A (pc + 1, L, .inl (w.2.1 r i.toNat) :: st) w) : zOk p l e R s m args below meth c Q D cl cy tf xS xc φ0 A (pc, L, .inl i :: .inr (.inr (some r)) :: st) w := by
  intro φ ws H locs ls stk hR
  obtain ⟨hφ, hW, hP, hD, hS, hl, hs⟩ := hR
  obtain ⟨_, _, rfl, ⟨y, rfl, hy⟩, _, _, rfl, ⟨a, rfl, ha⟩, hs⟩ := hs
  subst hy
  by_cases h8 : r < 8
  · have h1 := (hW.2.2.1 r h8).1
    rw [hr] at h1
    obtain ⟨ht2, hn, a', f, h3, h4, h5⟩ := hX.1 r t n h1.symm
    cases (zpre hφ h3).symm.trans ha
    have ht : t = 10 := by omega
    subst ht
    exact va_ti hx hb h4 hS (z_in hi) rfl hd (K φ ws H locs ls _ ⟨hφ, hW, hP, hD, hS, hl, _, _, rfl, ⟨_, rfl, by rw [z_nat, h5 _ (by omega), (hW.2.2.1 r h8).2]⟩, hs⟩)
  · obtain ⟨j, a', e', rfl, g1, g2, hn, g3⟩ := hW.at8 hr (by omega)
    cases g2.symm.trans ha
    rcases g3 with ⟨h0, f, rfl, g5⟩ | ⟨h0, f, rfl, g5⟩
    · have ht : t = 0 := by omega
      subst ht
      exact va_iald hx hb hK hP j 0 g1 rfl (z_in hi) hd (K φ ws H locs ls _ ⟨hφ, hW, hP, hD, hS, hl, _, _, rfl, ⟨_, rfl, by rw [z_nat, g5]⟩, hs⟩)
    · omega
theorem zs_bald (hx : p.tables.exec = Jvm.exec) (hb : c.code = cc) (hK : va_K D cl (zty cy) s) (hX : zXR stt txt nel xS xc φ0 A s s.heap) {r t n : Nat} {i : Int} (ht : t = 2 ∨ t = 14) (hd : decode cc pc = .ok (.baload, 1)) (hr : w.1[r]? = some (.inl (t, n))) (hi : 0 ≤ i ∧ i < n) (K : zOk p l e R s m args below meth c Q D cl cy tf xS xc φ0 A (pc + 1, L, .inl (w.2.1 r i.toNat) :: st) w) : zOk p l e R s m args below meth c Q D cl cy tf xS xc φ0 A (pc, L, .inl i :: .inr (.inr (some r)) :: st) w := by
  intro φ ws H locs ls stk hR
  obtain ⟨hφ, hW, hP, hD, hS, hl, hs⟩ := hR
  obtain ⟨_, _, rfl, ⟨y, rfl, hy⟩, _, _, rfl, ⟨a, rfl, ha⟩, hs⟩ := hs
  subst hy
  by_cases h8 : r < 8
  · have h1 := (hW.2.2.1 r h8).1
    rw [hr] at h1
    obtain ⟨ht2, hn, a', f, h3, h4, h5⟩ := hX.1 r t n h1.symm
    cases (zpre hφ h3).symm.trans ha
    have ht : t = 14 := by omega
    subst ht
    exact va_tb hx hb h4 hS (z_in hi) rfl hd (K φ ws H locs ls _ ⟨hφ, hW, hP, hD, hS, hl, _, _, rfl, ⟨_, rfl, by rw [z_nat, h5 _ (by omega), (hW.2.2.1 r h8).2]⟩, hs⟩)
  · obtain ⟨j, a', e', rfl, g1, g2, hn, g3⟩ := hW.at8 hr (by omega)
    cases g2.symm.trans ha
    rcases g3 with ⟨h0, f, rfl, g5⟩ | ⟨h0, f, rfl, g5⟩
    · have ht : t = 2 := by omega
      subst ht
      exact va_zald hx hb hK hP j 2 g1 rfl (z_in hi) hd (K φ ws H locs ls _ ⟨hφ, hW, hP, hD, hS, hl, _, _, rfl, ⟨_, rfl, by rw [z_nat, g5]⟩, hs⟩)
    · omega
theorem zs_lald (hx : p.tables.exec = Jvm.exec) (hb : c.code = cc) (hK : va_K D cl (zty cy) s) (hX : zXR stt txt nel xS xc φ0 A s s.heap) {r n : Nat} {i : Int} (hd : decode cc pc = .ok (.laload, 1)) (hr : w.1[r]? = some (.inl (1, n))) (hi : 0 ≤ i ∧ i < n) (K : zOk p l e R s m args below meth c Q D cl cy tf xS xc φ0 A (pc + 1, L, .inr (.inl (w.2.1 r i.toNat)) :: st) w) : zOk p l e R s m args below meth c Q D cl cy tf xS xc φ0 A (pc, L, .inl i :: .inr (.inr (some r)) :: st) w := by
  intro φ ws H locs ls stk hR
  obtain ⟨hφ, hW, hP, hD, hS, hl, hs⟩ := hR
  obtain ⟨_, _, rfl, ⟨y, rfl, hy⟩, _, _, rfl, ⟨a, rfl, ha⟩, hs⟩ := hs
  subst hy
  by_cases h8 : r < 8
  · have h1 := (hW.2.2.1 r h8).1
    rw [hr] at h1
    obtain ⟨ht2, -⟩ := hX.1 r 1 n h1.symm
    omega
  · obtain ⟨j, a', e', rfl, g1, g2, hn, g3⟩ := hW.at8 hr (by omega)
    cases g2.symm.trans ha
    rcases g3 with ⟨h0, f, rfl, g5⟩ | ⟨h0, f, rfl, g5⟩
    · omega
    · exact va_lald hx hb hK hP j 1 g1 rfl (z_in hi) hd (K φ ws H locs ls _ ⟨hφ, hW, hP, hD, hS, hl, _, _, rfl, ⟨_, rfl, by rw [z_nat, g5]⟩, hs⟩)
theorem zs_iast (hx : p.tables.exec = Jvm.exec) (hb : c.code = cc) (hK : va_K D cl (zty cy) s) (hX : zXR stt txt nel xS xc φ0 A s s.heap) {r n : Nat} {i x : Int} (hd : decode cc pc = .ok (.iastore, 1)) (hr : w.1[r]? = some (.inl (0, n))) (hi : 0 ≤ i ∧ i < n) (K : zOk p l e R s m args below meth c Q D cl cy tf xS xc φ0 A (pc + 1, L, st) (w.1, zput w.2.1 r i.toNat x, w.2.2)) : zOk p l e R s m args below meth c Q D cl cy tf xS xc φ0 A (pc, L, .inl x :: .inl i :: .inr (.inr (some r)) :: st) w := by
  intro φ ws H locs ls stk hR
  obtain ⟨hφ, hW, hP, hD, hS, hl, hs⟩ := hR
  obtain ⟨_, _, rfl, ⟨z, rfl, hz⟩, _, _, rfl, ⟨y, rfl, hy⟩, _, _, rfl, ⟨a, rfl, ha⟩, hs⟩ := hs
  subst hy
  by_cases h8 : r < 8
  · have h1 := (hW.2.2.1 r h8).1
    rw [hr] at h1
    obtain ⟨ht2, -⟩ := hX.1 r 0 n h1.symm
    omega
  · obtain ⟨j, a', e', rfl, g1, g2, hn, g3⟩ := hW.at8 hr (by omega)
    cases g2.symm.trans ha
    rcases g3 with ⟨h0, f, rfl, g5⟩ | ⟨h0, f, rfl, g5⟩
    · refine va_iast hx hb hK hP hD hS j 0 g1 rfl (z_in hi) hd (fun H1 locs1 hP hD hS => K φ _ H1 locs1 ls _ ⟨hφ, hW.upd g1 g2 rfl (fun q hq => ⟨rfl, zput_ne _ _ _ hq⟩) (fun sh hsh => ?_), hP, hD, hS, hl, hs⟩)
      rw [hr] at hsh
      cases hsh
      refine ⟨hn, Or.inl ⟨Or.inl rfl, _, rfl, fun q => ?_⟩⟩
      show (upd f _ _ q).toInt = zput w.2.1 (j + 8) y.toInt.toNat x (j + 8) q
      rw [zput_self, upd, z_nat]
      by_cases hq : q = y.toInt.toNat
      · rw [if_pos hq, if_pos hq, hz]
      · rw [if_neg hq, if_neg hq, g5]
    · omega
theorem zs_last (hx : p.tables.exec = Jvm.exec) (hb : c.code = cc) (hK : va_K D cl (zty cy) s) (hX : zXR stt txt nel xS xc φ0 A s s.heap) {r n : Nat} {i x : Int} (hd : decode cc pc = .ok (.lastore, 1)) (hr : w.1[r]? = some (.inl (1, n))) (hi : 0 ≤ i ∧ i < n) (K : zOk p l e R s m args below meth c Q D cl cy tf xS xc φ0 A (pc + 1, L, st) (w.1, zput w.2.1 r i.toNat x, w.2.2)) : zOk p l e R s m args below meth c Q D cl cy tf xS xc φ0 A (pc, L, .inr (.inl x) :: .inl i :: .inr (.inr (some r)) :: st) w := by
  intro φ ws H locs ls stk hR
  obtain ⟨hφ, hW, hP, hD, hS, hl, hs⟩ := hR
  obtain ⟨_, _, rfl, ⟨z, rfl, hz⟩, _, _, rfl, ⟨y, rfl, hy⟩, _, _, rfl, ⟨a, rfl, ha⟩, hs⟩ := hs
  subst hy
  by_cases h8 : r < 8
  · have h1 := (hW.2.2.1 r h8).1
    rw [hr] at h1
    obtain ⟨ht2, -⟩ := hX.1 r 1 n h1.symm
    omega
  · obtain ⟨j, a', e', rfl, g1, g2, hn, g3⟩ := hW.at8 hr (by omega)
    cases g2.symm.trans ha
    rcases g3 with ⟨h0, f, rfl, g5⟩ | ⟨h0, f, rfl, g5⟩
    · omega
    · refine va_last hx hb hK hP hD hS j 1 g1 rfl (z_in hi) hd (fun H1 locs1 hP hD hS => K φ _ H1 locs1 ls _ ⟨hφ, hW.upd g1 g2 rfl (fun q hq => ⟨rfl, zput_ne _ _ _ hq⟩) (fun sh hsh => ?_), hP, hD, hS, hl, hs⟩)
      rw [hr] at hsh
      cases hsh
      refine ⟨hn, Or.inr ⟨rfl, _, rfl, fun q => ?_⟩⟩
      show (vp_updL f _ _ q).toInt = zput w.2.1 (j + 8) y.toInt.toNat x (j + 8) q
      rw [zput_self, vp_updL, z_nat]
      by_cases hq : q = y.toInt.toNat
      · rw [if_pos hq, if_pos hq, hz]
      · rw [if_neg hq, if_neg hq, g5]
theorem z_bool {z : Int32} {x : Int} (hz : z.toInt = x) (hx : x = 0 ∨ x = 1) : z = 0 ∨ z = 1 := by
  subst hz
  rcases hx with h | h
  · exact Or.inl (Int32.toInt_inj.mp h)
  · exact Or.inr (Int32.toInt_inj.mp h)
theorem zs_bast (hx : p.tables.exec = Jvm.exec) (hb : c.code = cc) (hK : va_K D cl (zty cy) s) (hX : zXR stt txt nel xS xc φ0 A s s.heap) {r n : Nat} {i x : Int} (hx01 : x = 0 ∨ x = 1) (hd : decode cc pc = .ok (.bastore, 1)) (hr : w.1[r]? = some (.inl (2, n))) (hi : 0 ≤ i ∧ i < n) (K : zOk p l e R s m args below meth c Q D cl cy tf xS xc φ0 A (pc + 1, L, st) (w.1, zput w.2.1 r i.toNat x, w.2.2)) : zOk p l e R s m args below meth c Q D cl cy tf xS xc φ0 A (pc, L, .inl x :: .inl i :: .inr (.inr (some r)) :: st) w := by
  intro φ ws H locs ls stk hR
  obtain ⟨hφ, hW, hP, hD, hS, hl, hs⟩ := hR
  obtain ⟨_, _, rfl, ⟨z, rfl, hz⟩, _, _, rfl, ⟨y, rfl, hy⟩, _, _, rfl, ⟨a, rfl, ha⟩, hs⟩ := hs
  subst hy
  have hnar : vp_nar .boolean z = z := by
    rcases z_bool hz hx01 with rfl | rfl <;> rfl
  by_cases h8 : r < 8
  · have h1 := (hW.2.2.1 r h8).1
    rw [hr] at h1
    obtain ⟨ht2, -⟩ := hX.1 r 2 n h1.symm
    omega
  · obtain ⟨j, a', e', rfl, g1, g2, hn, g3⟩ := hW.at8 hr (by omega)
    cases g2.symm.trans ha
    rcases g3 with ⟨h0, f, rfl, g5⟩ | ⟨h0, f, rfl, g5⟩
    · refine va_zast hx hb hK hP hD hS j 2 g1 rfl (z_in hi) hd (fun H1 locs1 hP hD hS => K φ _ H1 locs1 ls _ ⟨hφ, hW.upd g1 g2 rfl (fun q hq => ⟨rfl, zput_ne _ _ _ hq⟩) (fun sh hsh => ?_), hP, hD, hS, hl, hs⟩)
      rw [hr] at hsh
      cases hsh
      refine ⟨hn, Or.inl ⟨Or.inr rfl, _, rfl, fun q => ?_⟩⟩
      show (upd f _ _ q).toInt = zput w.2.1 (j + 8) y.toInt.toNat x (j + 8) q
      rw [zput_self, upd, z_nat, hnar]
      by_cases hq : q = y.toInt.toNat
      · rw [if_pos hq, if_pos hq, hz]
      · rw [if_neg hq, if_neg hq, g5]
    · omega
end ZM
