/-! FIELDS ARE WRITTEN, CELLS ARE MADE, STATICS ARE READ, CELLS ARE COPIED -/
theorem z_nv {z y : Int32} (hz : z = 0 ∨ z = 1) : narrow .boolean (.int z) = .int z ∧ fits .boolean (.int z) = true := by
  rcases hz with rfl | rfl <;> exact ⟨rfl, rfl⟩
def zFW (ft : zFT) (v : zV) : Option (zFT × Option Int) :=
  match ft, v with
  | .inl none, .inr (.inr (some q)) => some (.inl (some q), none)
  | .inr 0, .inl x => some (.inr 0, some x)
  | .inr 1, .inr (.inl x) => some (.inr 1, some x)
  | .inr 2, .inl x => if x = 0 ∨ x = 1 then some (.inr 2, some x) else none
  | _, _ => none
def zMW (M : zM) (r k : Nat) (o : Option Int) : zM :=
  match o with
  | none => M
  | some x => zput M r k x
theorem zFW_ok {φ : List Nat} {z : Int} {ft : zFT} {ty : FieldType} {u0 u : Value} {v : zV} {q : zFT × Option Int} (h0 : zFR φ z ft ty u0) (hv : zVR φ v u) (h : zFW ft v = some q) : narrow ty u = u ∧ fits ty u = true ∧ zFR φ (q.2.getD z) q.1 ty u := by
  unfold zFW at h
  split at h
  · cases h
    obtain ⟨a, rfl, ha⟩ := hv
    obtain ⟨-, ⟨C, rfl⟩ | ⟨t, rfl⟩⟩ := h0
    · exact ⟨rfl, rfl, ⟨a, rfl, ha⟩, Or.inl ⟨C, rfl⟩⟩
    · exact ⟨rfl, rfl, ⟨a, rfl, ha⟩, Or.inr ⟨t, rfl⟩⟩
  · cases h
    obtain ⟨y, rfl, hy⟩ := hv
    obtain ⟨rfl, -⟩ := h0
    exact ⟨rfl, rfl, rfl, y, rfl, hy⟩
  · cases h
    obtain ⟨y, rfl, hy⟩ := hv
    obtain ⟨rfl, -⟩ := h0
    exact ⟨rfl, rfl, rfl, y, rfl, hy⟩
  · split at h
    · rename_i hx
      cases h
      obtain ⟨y, rfl, hy⟩ := hv
      obtain ⟨rfl, -⟩ := h0
      obtain ⟨h1, h2⟩ := z_nv (y := y) (z_bool hy hx)
      exact ⟨h1, h2, rfl, y, rfl, hy⟩
    · cases h
  · cases h
theorem zMW_ne (M : zM) {r i : Nat} (k : Nat) (o : Option Int) (h : i ≠ r) : zMW M r k o i = M i := by
  cases o with
  | none => rfl
  | some x => exact zput_ne M k x h
theorem zMW_self (M : zM) (r k j : Nat) (o : Option Int) : zMW M r k o r j = if j = k then o.getD (M r k) else M r j := by
  cases o with
  | none =>
    show M r j = _
    by_cases h : j = k
    · rw [if_pos h, h]; rfl
    · rw [if_neg h]
  | some x => exact zput_self M r k x j
section ZK
variable {p : Program} {l : Launch} {e : Env} {R : Room} {s : State} {m : MethodId} {args : Array Value} {below : List Frame} {meth : Method} {c : Code} {Q : State → Prop} {D : va_G} {cl : List vw_C} {cy : Nat → ClassId} {tf : Nat → Nat → FieldType} {A : Nat → Prop} {xS : List zSh} {xc : zM} {φ0 : List Nat}
variable {cc : ByteArray} {pc : Nat} {L st : List zV} {w : zW} {Ts : List Cond} {own : String}
variable {stt : List (String × String × String × Nat × Nat × Int)} {txt : List (String × Nat × String × Nat)} {nel : List (String × Nat × MethodName × String)}
theorem zs_putf (hx : p.tables.exec = Jvm.exec) (hb : c.code = cc) (hts : ∀ w ∈ Ts, w.before args s = true) (hcl : zCl Ts cl tf) (hown : s.vm.findClass own = some m.cls) (hK : va_K D cl (zty cy) s) {ci k idx r : Nat} {C : String} {T : u_T} {N : Nat} (hc : cl[ci]? = some (C, T, N)) (hk : k < N) (hlink : (Jvm.Cond.fieldLink own idx (T k).1 (T k).2.1 (T k).2.2.1).before args s = true) (hd : decode cc pc = .ok (.putfield idx, 3)) (hfin : (T k).2.2.2 = false ∨ ((T k).2.2.2 = true ∧ meth.name = "<init>" ∧ (T k).1 = own)) (h8 : 8 ≤ r) {fts : List zFT} {ft : zFT} {v : zV} {q : zFT × Option Int} (hr : w.1[r]? = some (.inr (ci, fts))) (hf : fts[k]? = some ft) (hv : zFW ft v = some q) (K : zOk p l e R s m args below meth c Q D cl cy tf xS xc φ0 A (pc + 3, L, st) (w.1.set r (.inr (ci, fts.set k q.1)), zMW w.2.1 r k q.2, w.2.2)) : zOk p l e R s m args below meth c Q D cl cy tf xS xc φ0 A (pc, L, v :: .inr (.inr (some r)) :: st) w := by
  intro φ ws H locs ls stk hR
  obtain ⟨hφ, hW, hP, hD, hS, hl, hs⟩ := hR
  obtain ⟨u, _, rfl, hu, _, rs, rfl, ⟨a, rfl, ha⟩, hs⟩ := hs
  obtain ⟨i, a', e', rfl, g1, g2, fs, rfl, g4, g5⟩ := hW.at8 hr h8
  cases g2.symm.trans ha
  obtain ⟨u0, g6, g7⟩ := g5 k ft hf
  obtain ⟨n1, n2, n3⟩ := zFW_ok g7 hu hv
  obtain ⟨q1, q2, q3⟩ := hcl.2 ci _ hc
  have hkf : k < fts.length := (List.getElem?_eq_some_iff.mp hf).1
  have hkl : k < fs.length := by omega
  have fin : ∀ (H1 : Heap) (locs1 : List Loc), va_P D cl (ws.set i (a, .inr (ci, fs.set k u))) H1 → va_D A (ws.set i (a, .inr (ci, fs.set k u))) → va_S A s.heap H1 locs1 → W p l e R s m args below meth c H1 locs1 w.2.2.1 w.2.2.2 Q (F0 m (pc + 3) ls rs) := by
    intro H1 locs1 hP hD hS
    refine K φ _ H1 locs1 ls _ ⟨hφ, hW.upd g1 g2 (by simp) (fun j hj => ⟨List.getElem?_set_ne (fun z => hj z.symm), zMW_ne _ _ _ hj⟩) (fun sh hsh => ?_), hP, hD, hS, hl, hs⟩
    rw [List.getElem?_set_self (List.getElem?_eq_some_iff.mp hr).1] at hsh
    cases hsh
    refine ⟨fs.set k u, rfl, by simpa using g4, fun j ft' hj => ?_⟩
    show ∃ v, (fs.set k u)[j]? = some v ∧ zFR φ (zMW w.2.1 (i + 8) k q.2 (i + 8) j) ft' (tf ci j) v
    rw [zMW_self]
    by_cases hjk : j = k
    · subst hjk
      rw [List.getElem?_set_self hkf] at hj
      cases hj
      rw [if_pos rfl, List.getElem?_set_self hkl]
      exact ⟨u, rfl, n3⟩
    · rw [List.getElem?_set_ne (fun z => hjk z.symm)] at hj
      rw [if_neg hjk, List.getElem?_set_ne (fun z => hjk z.symm)]
      exact g5 j ft' hj
  rcases hfin with h1 | ⟨h1, h2, h3⟩
  · exact va_put hx hb hts q1 (tf ci) q2 q3 hown hK hP hD hS i g1 hc k hk hlink (fun _ h => h) h1 (q2 k hk) n1 n2 hkl hd fin
  · exact va_putF hx hb hts q1 (tf ci) q2 q3 hown hK hP hD hS i g1 hc k hk hlink (fun _ h => h) h1 h2 h3 (q2 k hk) n1 n2 hkl hd fin
def zdf (t : Nat) : Value := if t = 9 then .null else if t = 1 then .long 0 else .int 0
def ztc (t : Nat) (ty : FieldType) : Prop := (t = 9 ∧ ((∃ C, ty = .object C) ∨ ∃ u, ty = .array u)) ∨ (t = 0 ∧ ty = .int) ∨ (t = 1 ∧ ty = .long) ∨ (t = 2 ∧ ty = .boolean)
theorem zs_new (hx : p.tables.exec = Jvm.exec) (hb : c.code = cc) (hts : ∀ w ∈ Ts, w.before args s = true) (hcl : zCl Ts cl tf) (hown : s.vm.findClass own = some m.cls) (hK : va_K D cl (zty cy) s) (hA : ∀ q, s.heap.size ≤ q → A q) {ci idx : Nat} {C : String} {T : u_T} {N : Nat} (hc : cl[ci]? = some (C, T, N)) (hlink : (Jvm.Cond.classLink own idx C).before args s = true) (hin : (Jvm.Cond.instantiable C N).before args s = true) (hini : (Jvm.Cond.initialized C).before args s = true) (hd : decode cc pc = .ok (.new idx, 3)) {ts : List Nat} (hn : ts.length = N) (ht : ∀ k t, ts[k]? = some t → ztc t (tf ci k)) (hroom : w.2.2.1 + 1 ≤ R.cells ∧ w.2.2.2 + ts.length ≤ R.slots) (K : zOk p l e R s m args below meth c Q D cl cy tf xS xc φ0 A (pc + 3, L, .inr (.inr (some w.1.length)) :: st) (w.1 ++ [.inr (ci, ts.map (fun t => if t = 9 then .inl none else .inr t))], zzero w.2.1 w.1.length, w.2.2.1 + 1, w.2.2.2 + ts.length)) : zOk p l e R s m args below meth c Q D cl cy tf xS xc φ0 A (pc, L, st) w := by
  intro φ ws H locs ls stk hR
  obtain ⟨hφ, hW, hP, hD, hS, hl, hs⟩ := hR
  obtain ⟨q1, q2, q3⟩ := hcl.2 ci _ hc
  subst hn
  refine va_new hx hb hts q1 (tf ci) q2 hown hlink hin hini hK hP hD hS hA hc (fs := ts.map zdf) (fun j hj => ?_) hroom.1 hroom.2 hd (fun q H1 hP hD hS => ?_)
  · have e1 : vp_V (ts.map zdf) j = zdf ts[j] := by simp [vp_V, hj]
    rw [e1]
    rcases ht j _ (List.getElem?_eq_getElem hj) with ⟨h, ⟨C, h2⟩ | ⟨t, h2⟩⟩ | ⟨h, h2⟩ | ⟨h, h2⟩ | ⟨h, h2⟩ <;> rw [h, h2] <;> rfl
  · have hpre : φ <+: φ ++ [q] := List.prefix_append _ _
    have hlen : (φ ++ [q])[w.1.length]? = some q := by rw [← hW.1, List.getElem?_append_right (Nat.le_refl _), Nat.sub_self]; rfl
    refine K (φ ++ [q]) _ H1 locs ls _ ⟨hφ.trans hpre, hW.push ?_, hP, hD, hS, hl.up hpre, _, _, rfl, ⟨q, rfl, hlen⟩, hs.up hpre⟩
    refine ⟨ts.map zdf, rfl, by simp, fun k ft hk => ?_⟩
    rw [List.getElem?_map] at hk
    obtain ⟨t, h1, h2⟩ := Option.map_eq_some_iff.mp hk
    refine ⟨zdf t, by rw [List.getElem?_map, h1]; rfl, ?_⟩
    subst h2
    rcases ht k t h1 with ⟨rfl, h2⟩ | ⟨rfl, h2⟩ | ⟨rfl, h2⟩ | ⟨rfl, h2⟩
    · exact ⟨rfl, h2⟩
    · exact ⟨h2, 0, rfl, rfl⟩
    · exact ⟨h2, 0, rfl, rfl⟩
    · exact ⟨h2, 0, rfl, rfl⟩
theorem zs_newa (hx : p.tables.exec = Jvm.exec) (hb : c.code = cc) (hK : va_K D cl (zty cy) s) (hA : ∀ q, s.heap.size ≤ q → A q) (harr : ∀ at_ : ArrayType, (zti at_).isSome → (Jvm.Cond.arrayClass (newarray.typeOf at_)).before args s = true) {at_ : ArrayType} {t : Nat} (ht : zti at_ = some t) {k : Int} (hk : 0 ≤ k ∧ k < 100000) (hd : decode cc pc = .ok (.newarray at_, 2)) (hroom : w.2.2.1 + 1 ≤ R.cells ∧ w.2.2.2 + k.toNat ≤ R.slots) (K : zOk p l e R s m args below meth c Q D cl cy tf xS xc φ0 A (pc + 2, L, .inr (.inr (some w.1.length)) :: st) (w.1 ++ [.inl (t, k.toNat)], zzero w.2.1 w.1.length, w.2.2.1 + 1, w.2.2.2 + k.toNat)) : zOk p l e R s m args below meth c Q D cl cy tf xS xc φ0 A (pc, L, .inl k :: st) w := by
  intro φ ws H locs ls stk hR
  obtain ⟨hφ, hW, hP, hD, hS, hl, hs⟩ := hR
  obtain ⟨_, rs, rfl, ⟨y, rfl, hy⟩, hs⟩ := hs
  subst hy
  have hneg : ¬ y < 0 := by
    intro h
    have := Int32.lt_iff_toInt_lt.mp h
    simp at this
    omega
  have fin : ∀ (ty : FieldType) (a0 : vp_A), newarray.typeOf at_ = ty → (∀ cA : ClassId, vp_cell cA a0 = arrV cA y.toInt.toNat (fun _ => defaultValue ty)) → componentBytes ty ≤ 8 → (∀ (cA : ClassId), (va_RA s cA ty) → zER cy tf [] (fun _ => 0) (.inl (t, y.toInt.toNat)) (.inl (cA, a0))) → W p l e R s m args below meth c H locs w.2.2.1 w.2.2.2 Q (F0 m pc ls (.int y :: rs)) := by
    intro ty a0 h1 h2 h3 h4
    refine va_newa (ty := ty) (a0 := a0) hx hb (harr at_ (by rw [ht]; rfl)) h1 hK hP hD hS hA h2 hneg rfl (by have := Nat.mul_le_mul (show y.toInt.toNat ≤ 100000 by omega) h3; omega) hroom.1 hroom.2 hd (fun q cA H1 hK2 hP hD hS => ?_)
    have hpre : φ <+: φ ++ [q] := List.prefix_append _ _
    have hlen : (φ ++ [q])[w.1.length]? = some q := by rw [← hW.1, List.getElem?_append_right (Nat.le_refl _), Nat.sub_self]; rfl
    have hra : va_RA s cA ty := (hK2.2 3 (cA, ty) rfl).2
    exact K (φ ++ [q]) _ H1 locs ls _ ⟨hφ.trans hpre, hW.push (h4 cA hra), hP, hD, hS, hl.up hpre, _, _, rfl, ⟨q, rfl, hlen⟩, hs.up hpre⟩
  have hn : y.toInt.toNat < 2147483648 := by omega
  cases at_ <;> first | (simp [zti] at ht; done) | skip
  · cases ht
    refine fin .boolean (y.toInt.toNat, .inl fun _ => 0) rfl (fun _ => rfl) (by decide) (fun cA h => ?_)
    cases (va_nm_boolean h).symm.trans (va_nm_boolean (hK.2 2 (cy 2, .boolean) rfl).2)
    exact ⟨hn, Or.inl ⟨Or.inr rfl, _, rfl, fun _ => rfl⟩⟩
  · cases ht
    refine fin .int (y.toInt.toNat, .inl fun _ => 0) rfl (fun _ => rfl) (by decide) (fun cA h => ?_)
    cases (va_nm_int h).symm.trans (va_nm_int (hK.2 0 (cy 0, .int) rfl).2)
    exact ⟨hn, Or.inl ⟨Or.inl rfl, _, rfl, fun _ => rfl⟩⟩
  · cases ht
    refine fin .long (y.toInt.toNat, .inr (.inl fun _ => 0)) rfl (fun _ => rfl) (by decide) (fun cA h => ?_)
    cases (va_nm_long h).symm.trans (va_nm_long (hK.2 1 (cy 1, .long) rfl).2)
    exact ⟨hn, Or.inr ⟨rfl, _, rfl, fun _ => rfl⟩⟩
theorem zs_gets (hx : p.tables.exec = Jvm.exec) (hb : c.code = cc) (hown : s.vm.findClass own = some m.cls) (hX : zXR stt txt nel xS xc φ0 A s s.heap) {idx : Nat} {q : String × String × String × Nat × Nat × Int} (hq : q ∈ stt) (hlink : (Jvm.Cond.fieldLink own idx q.1 q.2.1 q.2.2.1).before args s = true) (hd : decode cc pc = .ok (.getstatic idx, 3)) (K : zOk p l e R s m args below meth c Q D cl cy tf xS xc φ0 A (pc + 3, L, (if q.2.2.2.1 = 0 then .inl q.2.2.2.2.2 else if q.2.2.2.1 = 1 then .inr (.inr (some q.2.2.2.2.1)) else .inr (.inr none)) :: st) w) : zOk p l e R s m args below meth c Q D cl cy tf xS xc φ0 A (pc, L, st) w := by
  intro φ ws H locs ls stk hR
  obtain ⟨hφ, hW, hP, hD, hS, hl, hs⟩ := hR
  have h := hX.2.2.1 q hq
  split at h
  · rename_i h0
    rw [if_pos h0] at K
    obtain ⟨y, h1, h2⟩ := h
    exact va_gets hx hb h1 hS hown hlink (fun _ h => h) hd (K φ ws H locs ls _ ⟨hφ, hW, hP, hD, hS, hl, _, _, rfl, ⟨y, rfl, h2⟩, hs⟩)
  · rename_i h0
    rw [if_neg h0] at K
    split at h
    · rename_i h9
      rw [if_pos h9] at K
      obtain ⟨y, h1, h2⟩ := h
      exact va_gets hx hb h1 hS hown hlink (fun _ h => h) hd (K φ ws H locs ls _ ⟨hφ, hW, hP, hD, hS, hl, _, _, rfl, ⟨y, rfl, zpre hφ h2⟩, hs⟩)
    · rename_i h9
      rw [if_neg h9] at K
      rcases h with h | ⟨y, h⟩
      · exact va_gets hx hb h hS hown hlink (fun _ h => h) hd (K φ ws H locs ls _ ⟨hφ, hW, hP, hD, hS, hl, _, _, rfl, Or.inl rfl, hs⟩)
      · exact va_gets hx hb h hS hown hlink (fun _ h => h) hd (K φ ws H locs ls _ ⟨hφ, hW, hP, hD, hS, hl, _, _, rfl, Or.inr ⟨y, rfl⟩, hs⟩)
theorem zs_ldcs (hx : p.tables.exec = Jvm.exec) (hb : c.code = cc) (hown : s.vm.findClass own = some m.cls) (hX : zXR stt txt nel xS xc φ0 A s s.heap) {idx i : Nat} {tx : String} (hq : (own, idx, tx, i) ∈ txt) (hd : decode cc pc = .ok (.ldc idx, 2)) (K : zOk p l e R s m args below meth c Q D cl cy tf xS xc φ0 A (pc + 2, L, .inr (.inr (some i)) :: st) w) : zOk p l e R s m args below meth c Q D cl cy tf xS xc φ0 A (pc, L, st) w := by
  intro φ ws H locs ls stk hR
  obtain ⟨hφ, hW, hP, hD, hS, hl, hs⟩ := hR
  obtain ⟨a, h1, h2⟩ := hX.2.2.2.1 _ hq
  exact va_ldcS hx hb hown h1 hd (K φ ws H locs ls _ ⟨hφ, hW, hP, hD, hS, hl, _, _, rfl, ⟨a, rfl, zpre hφ h2⟩, hs⟩)
theorem zs_objInit (hx : p.tables.exec = Jvm.exec) (hb : c.code = cc) (hml : c.maxLocals = L.length) (hown : s.vm.findClass own = some m.cls) {idx r : Nat} (hlink : (Jvm.Cond.methodLink own idx objectInit).before args s = true) (hinst : (Jvm.Cond.instanceMethod objectInit).before args s = true) (hcode : (Jvm.Cond.code objectInit ⟨#[0xb1]⟩ 1 none).before args s = true) (hd : decode cc pc = .ok (.invokespecial idx, 3)) (hR : 1 ≤ R.frames ∧ 50 ≤ R.locals) (hz : zsum st ≤ 8) (K : zOk p l e R s m args below meth c Q D cl cy tf xS xc φ0 A (pc + 3, L, st) w) : zOk p l e R s m args below meth c Q D cl cy tf xS xc φ0 A (pc, L, .inr (.inr (some r)) :: st) w := by
  intro φ ws H locs ls stk hR'
  obtain ⟨hφ, hW, hP, hD, hS, hl, hs⟩ := hR'
  obtain ⟨_, _, rfl, ⟨a, rfl, ha⟩, hs⟩ := hs
  have hsz : ls.size = L.length := by obtain ⟨lv, h1, -⟩ := hl; exact h1.1
  exact W.objInit hx hb hown hlink hinst hcode rfl (by rw [hml]; exact hsz) rfl hd hR.1 (by rw [hs.sum]; show 2 * 0 + _ + 12 ≤ _; omega) (K φ ws H locs ls _ ⟨hφ, hW, hP, hD, hS, hl, hs⟩)
theorem zs_copy (hx : p.tables.exec = Jvm.exec) (hb : c.code = cc) (hml : c.maxLocals = L.length) (hown : s.vm.findClass own = some m.cls) (hK : va_K D cl (zty cy) s) (hX : zXR stt txt nel xS xc φ0 A s s.heap) {idx r q nr nq : Nat} {k d sp : Int} (hlink : (Jvm.Cond.methodLink own idx arraycopyName).before args s = true) (hnat : (Jvm.Cond.native arraycopyName).before args s = true) (hstat : (Jvm.Cond.static arraycopyName).before args s = true) (hini : (Jvm.Cond.initialized "java/lang/System").before args s = true) (hd : decode cc pc = .ok (.invokestatic idx, 3)) (hR : 1 ≤ R.frames ∧ 50 ≤ R.locals) (hz : zsum st ≤ 8) (hr : w.1[r]? = some (.inl (0, nr))) (hq : w.1[q]? = some (.inl (0, nq))) (hk : 0 ≤ k ∧ 0 ≤ d ∧ 0 ≤ sp ∧ sp + k ≤ nr ∧ d + k ≤ nq) (K : zOk p l e R s m args below meth c Q D cl cy tf xS xc φ0 A (pc + 3, L, st) (w.1, zcopy w.2.1 r q sp.toNat d.toNat k.toNat, w.2.2)) : zOk p l e R s m args below meth c Q D cl cy tf xS xc φ0 A (pc, L, .inl k :: .inl d :: .inr (.inr (some q)) :: .inl sp :: .inr (.inr (some r)) :: st) w := by
  intro φ ws H locs ls stk hR'
  obtain ⟨hφ, hW, hP, hD, hS, hl, hs⟩ := hR'
  obtain ⟨_, _, rfl, ⟨k', rfl, hk'⟩, _, _, rfl, ⟨d', rfl, hd'⟩, _, _, rfl, ⟨a, rfl, ha⟩, _, _, rfl, ⟨s', rfl, hs'⟩, _, _, rfl, ⟨b, rfl, hb'⟩, hs⟩ := hs
  subst hk' hd' hs'
  have hsz : ls.size = L.length := by obtain ⟨lv, h1, -⟩ := hl; exact h1.1
  have neg : ∀ {z : Int32}, 0 ≤ z.toInt → ¬ z < 0 := by
    intro z hz h
    have := Int32.lt_iff_toInt_lt.mp h
    simp at this
    omega
  have hnf : nativeFrameWords "java/lang/System" "arraycopy" 5 = 7 := by decide +kernel
  have r8 : ∀ {r n : Nat}, w.1[r]? = some (.inl (0, n)) → 8 ≤ r := by
    intro r n h
    by_cases h8 : r < 8
    · have h1 := (hW.2.2.1 r h8).1
      rw [h] at h1
      obtain ⟨ht2, -⟩ := hX.1 r 0 n h1.symm
      omega
    · omega
  obtain ⟨i, a1, e1, rfl, g1, g2, hn1, g3⟩ := hW.at8 hr (r8 hr)
  obtain ⟨j, a2, e2, rfl, h1, h2, hn2, h3⟩ := hW.at8 hq (r8 hq)
  cases g2.symm.trans hb'
  cases h2.symm.trans ha
  rcases g3 with ⟨-, f, rfl, g5⟩ | ⟨h0, -⟩
  · rcases h3 with ⟨-, g, rfl, h5⟩ | ⟨h0, -⟩
    · refine va_copyi hx hb (by rw [hml, hsz]) hown hlink hnat hstat hini hK hP hD hS i j 0 0 g1 h1 rfl rfl rfl (neg hk.2.2.1) (neg hk.2.1) (neg hk.1) (by simp only [z_nat]; omega) (by simp only [z_nat]; omega) (fun _ _ => rfl) hR.1 (by rw [hs.sum, hnf]; omega) hd (fun H1 locs1 hP hD hS => K φ _ H1 locs1 ls _ ⟨hφ, hW.upd h1 h2 rfl (fun x hx => ⟨rfl, ?_⟩) (fun sh hsh => ?_), hP, hD, hS, hl, hs⟩)
      · funext y
        simp [zcopy, hx]
      · rw [hq] at hsh
        cases hsh
        refine ⟨hn2, Or.inl ⟨Or.inl rfl, _, rfl, fun y => ?_⟩⟩
        show _ = zcopy w.2.1 (i + 8) (j + 8) s'.toInt.toNat d'.toInt.toNat k'.toInt.toNat (j + 8) y
        simp only [va_cpy, zcopy, z_nat, if_true]
        by_cases hy : d'.toInt.toNat ≤ y ∧ y < d'.toInt.toNat + k'.toInt.toNat
        · rw [if_pos hy, if_pos hy, g5]
        · rw [if_neg hy, if_neg hy, h5]
    · omega
  · omega
theorem zs_mmax (hx : p.tables.exec = Jvm.exec) (hb : c.code = cc) (hml : c.maxLocals = L.length) (hown : s.vm.findClass own = some m.cls) {idx : Nat} {x y : Int} (hlink : (Jvm.Cond.methodLink own idx Lib.Math.max.name).before args s = true) (hstat : (Jvm.Cond.static Lib.Math.max.name).before args s = true) (hini : (Jvm.Cond.initialized "java/lang/Math").before args s = true) (hcode : (Jvm.Cond.code Lib.Math.max.name Lib.Math.max.code 2 (some .int)).before args s = true) (hd : decode cc pc = .ok (.invokestatic idx, 3)) (hR : 1 ≤ R.frames ∧ 50 ≤ R.locals) (hz : zsum st ≤ 8) (hcs : w.2.2.1 ≤ R.cells ∧ w.2.2.2 ≤ R.slots) (K : zOk p l e R s m args below meth c Q D cl cy tf xS xc φ0 A (pc + 3, L, .inl (if x < y then y else x) :: st) w) : zOk p l e R s m args below meth c Q D cl cy tf xS xc φ0 A (pc, L, .inl y :: .inl x :: st) w := by
  intro φ ws H locs ls stk hR'
  obtain ⟨hφ, hW, hP, hD, hS, hl, hs⟩ := hR'
  obtain ⟨_, _, rfl, ⟨b, rfl, h2⟩, _, _, rfl, ⟨a, rfl, h1⟩, hs⟩ := hs
  have hsz : ls.size = L.length := by obtain ⟨lv, h1, -⟩ := hl; exact h1.1
  refine va_mmax hx hb (by rw [hml, hsz]) hown hlink hstat hini hcode hR.1 (by rw [hs.sum]; omega) hcs.1 hcs.2 hd (K φ ws H locs ls _ ⟨hφ, hW, hP, hD, hS, hl, _, _, rfl, ⟨_, rfl, ?_⟩, hs⟩)
  subst h1 h2
  simp only [Int32.lt_iff_toInt_lt]
  split <;> rfl
theorem zs_mmin (hx : p.tables.exec = Jvm.exec) (hb : c.code = cc) (hml : c.maxLocals = L.length) (hown : s.vm.findClass own = some m.cls) {idx : Nat} {x y : Int} (hlink : (Jvm.Cond.methodLink own idx Lib.Math.min.name).before args s = true) (hstat : (Jvm.Cond.static Lib.Math.min.name).before args s = true) (hini : (Jvm.Cond.initialized "java/lang/Math").before args s = true) (hcode : (Jvm.Cond.code Lib.Math.min.name Lib.Math.min.code 2 (some .int)).before args s = true) (hd : decode cc pc = .ok (.invokestatic idx, 3)) (hR : 1 ≤ R.frames ∧ 50 ≤ R.locals) (hz : zsum st ≤ 8) (hcs : w.2.2.1 ≤ R.cells ∧ w.2.2.2 ≤ R.slots) (K : zOk p l e R s m args below meth c Q D cl cy tf xS xc φ0 A (pc + 3, L, .inl (if y < x then y else x) :: st) w) : zOk p l e R s m args below meth c Q D cl cy tf xS xc φ0 A (pc, L, .inl y :: .inl x :: st) w := by
  intro φ ws H locs ls stk hR'
  obtain ⟨hφ, hW, hP, hD, hS, hl, hs⟩ := hR'
  obtain ⟨_, _, rfl, ⟨b, rfl, h2⟩, _, _, rfl, ⟨a, rfl, h1⟩, hs⟩ := hs
  have hsz : ls.size = L.length := by obtain ⟨lv, h1, -⟩ := hl; exact h1.1
  refine va_mmin hx hb (by rw [hml, hsz]) hown hlink hstat hini hcode hR.1 (by rw [hs.sum]; omega) hcs.1 hcs.2 hd (K φ ws H locs ls _ ⟨hφ, hW, hP, hD, hS, hl, _, _, rfl, ⟨_, rfl, ?_⟩, hs⟩)
  subst h1 h2
  simp only [Int32.lt_iff_toInt_lt]
  split <;> rfl
theorem zs_mabs (hx : p.tables.exec = Jvm.exec) (hb : c.code = cc) (hml : c.maxLocals = L.length) (hown : s.vm.findClass own = some m.cls) {idx : Nat} {x : Int} (hlink : (Jvm.Cond.methodLink own idx Lib.Math.abs.name).before args s = true) (hstat : (Jvm.Cond.static Lib.Math.abs.name).before args s = true) (hini : (Jvm.Cond.initialized "java/lang/Math").before args s = true) (hcode : (Jvm.Cond.code Lib.Math.abs.name Lib.Math.abs.code 1 (some .int)).before args s = true) (hd : decode cc pc = .ok (.invokestatic idx, 3)) (hR : 1 ≤ R.frames ∧ 50 ≤ R.locals) (hz : zsum st ≤ 8) (hcs : w.2.2.1 ≤ R.cells ∧ w.2.2.2 ≤ R.slots) (K : zOk p l e R s m args below meth c Q D cl cy tf xS xc φ0 A (pc + 3, L, .inl (if 0 ≤ x then x else w32 (0 - x)) :: st) w) : zOk p l e R s m args below meth c Q D cl cy tf xS xc φ0 A (pc, L, .inl x :: st) w := by
  intro φ ws H locs ls stk hR'
  obtain ⟨hφ, hW, hP, hD, hS, hl, hs⟩ := hR'
  obtain ⟨_, _, rfl, ⟨a, rfl, h1⟩, hs⟩ := hs
  have hsz : ls.size = L.length := by obtain ⟨lv, h1, -⟩ := hl; exact h1.1
  refine va_mabs hx hb (by rw [hml, hsz]) hown hlink hstat hini hcode hR.1 (by rw [hs.sum]; omega) hcs.1 hcs.2 hd (K φ ws H locs ls _ ⟨hφ, hW, hP, hD, hS, hl, _, _, rfl, ⟨_, rfl, ?_⟩, hs⟩)
  subst h1
  simp only [Int32.le_iff_toInt_le]
  show (if (0 : Int) ≤ a.toInt then a else 0 - a).toInt = _
  split
  · rfl
  · rw [z_sub]; rfl
theorem zs_lmax (hx : p.tables.exec = Jvm.exec) (hb : c.code = cc) (hml : c.maxLocals = L.length) (hown : s.vm.findClass own = some m.cls) {idx : Nat} {x y : Int} (hlink : (Jvm.Cond.methodLink own idx Lib.MathLoose.max_long.x).before args s = true) (hstat : (Jvm.Cond.static Lib.MathLoose.max_long.x).before args s = true) (hini : (Jvm.Cond.initialized "java/lang/Math").before args s = true) (hcode : (Jvm.Cond.code Lib.MathLoose.max_long.x Lib.MathLoose.max_long.code 4 (some .long)).before args s = true) (hd : decode cc pc = .ok (.invokestatic idx, 3)) (hR : 1 ≤ R.frames ∧ 50 ≤ R.locals) (hz : zsum st ≤ 8) (hcs : w.2.2.1 ≤ R.cells ∧ w.2.2.2 ≤ R.slots) (K : zOk p l e R s m args below meth c Q D cl cy tf xS xc φ0 A (pc + 3, L, .inr (.inl (if y < x then x else y)) :: st) w) : zOk p l e R s m args below meth c Q D cl cy tf xS xc φ0 A (pc, L, .inr (.inl y) :: .inr (.inl x) :: st) w := by
  intro φ ws H locs ls stk hR'
  obtain ⟨hφ, hW, hP, hD, hS, hl, hs⟩ := hR'
  obtain ⟨_, _, rfl, ⟨b, rfl, h2⟩, _, _, rfl, ⟨a, rfl, h1⟩, hs⟩ := hs
  have hsz : ls.size = L.length := by obtain ⟨lv, h1, -⟩ := hl; exact h1.1
  refine va_mmax_long hx hb (by rw [hml, hsz]) hown hlink hstat hini hcode hR.1 (by rw [hs.sum]; omega) hcs.1 hcs.2 hd (K φ ws H locs ls _ ⟨hφ, hW, hP, hD, hS, hl, _, _, rfl, ⟨_, rfl, ?_⟩, hs⟩)
  subst h1 h2
  simp only [Int64.lt_iff_toInt_lt]
  split <;> rfl
theorem zs_lmin (hx : p.tables.exec = Jvm.exec) (hb : c.code = cc) (hml : c.maxLocals = L.length) (hown : s.vm.findClass own = some m.cls) {idx : Nat} {x y : Int} (hlink : (Jvm.Cond.methodLink own idx Lib.MathLoose.min_long.x).before args s = true) (hstat : (Jvm.Cond.static Lib.MathLoose.min_long.x).before args s = true) (hini : (Jvm.Cond.initialized "java/lang/Math").before args s = true) (hcode : (Jvm.Cond.code Lib.MathLoose.min_long.x Lib.MathLoose.min_long.code 4 (some .long)).before args s = true) (hd : decode cc pc = .ok (.invokestatic idx, 3)) (hR : 1 ≤ R.frames ∧ 50 ≤ R.locals) (hz : zsum st ≤ 8) (hcs : w.2.2.1 ≤ R.cells ∧ w.2.2.2 ≤ R.slots) (K : zOk p l e R s m args below meth c Q D cl cy tf xS xc φ0 A (pc + 3, L, .inr (.inl (if y < x then y else x)) :: st) w) : zOk p l e R s m args below meth c Q D cl cy tf xS xc φ0 A (pc, L, .inr (.inl y) :: .inr (.inl x) :: st) w := by
  intro φ ws H locs ls stk hR'
  obtain ⟨hφ, hW, hP, hD, hS, hl, hs⟩ := hR'
  obtain ⟨_, _, rfl, ⟨b, rfl, h2⟩, _, _, rfl, ⟨a, rfl, h1⟩, hs⟩ := hs
  have hsz : ls.size = L.length := by obtain ⟨lv, h1, -⟩ := hl; exact h1.1
  refine va_mmin_long hx hb (by rw [hml, hsz]) hown hlink hstat hini hcode hR.1 (by rw [hs.sum]; omega) hcs.1 hcs.2 hd (K φ ws H locs ls _ ⟨hφ, hW, hP, hD, hS, hl, _, _, rfl, ⟨_, rfl, ?_⟩, hs⟩)
  subst h1 h2
  simp only [Int64.lt_iff_toInt_lt]
  split <;> rfl
end ZK
