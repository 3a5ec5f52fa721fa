/-! EVERY RUN OF THE SIMPLE MACHINE IS ONE OF THE MACHINE -/
theorem zst_keep {d : Bool} {B : Nat × Nat} {ei : zE} {L st : List zV} {w : zW} {c' : zC} {w' : zW} (h : zst d B ei L st w = some (.inl (c', w'))) (hB : w.2.2.1 ≤ B.1 ∧ w.2.2.2 ≤ B.2) : c'.2.1.length = L.length ∧ w'.2.2.1 ≤ B.1 ∧ w'.2.2.2 ≤ B.2 := by
  obtain ⟨pc, ins, n, x⟩ := ei
  cases ins
  all_goals simp only [zst] at h
  all_goals first | (cases h; done) | (cases h; exact ⟨rfl, hB⟩) | skip
  all_goals (try simp only [zld, zss, zi2, zl2, zli, zi2d, zl2d, zjmp, zget, zpf, zal, zar, zas, zna, znew, zinv, zint, zgo] at h)
  all_goals repeat' (split at h)
  all_goals first
    | (cases h; done)
    | (cases h; exact ⟨rfl, hB⟩)
    | (cases h; exact ⟨zsto_len _ _ _, hB⟩)
    | (cases h; exact ⟨zstl_len _ _ _, hB⟩)
    | (rename_i hq; cases h; exact ⟨rfl, hq⟩)
    | (rename_i hq; cases h; exact ⟨rfl, hq.2⟩)
    | skip
theorem zat_spec : ∀ {l : List zE} {pc : Nat} {ei : zE}, zat l pc = some ei → ei ∈ l ∧ ei.1 = pc
  | [], _, _, h => by cases h
  | x :: l, pc, ei, h => by
    unfold zat at h
    split at h
    · rename_i hq
      cases h
      exact ⟨List.mem_cons_self, Nat.eq_of_beq_eq_true hq⟩
    · obtain ⟨h1, h2⟩ := zat_spec h
      exact ⟨List.mem_cons_of_mem _ h1, h2⟩
section ZMAIN
variable {TG : List Cond} {cl : List vw_C} {tf : Nat → Nat → FieldType} {tsl : Nat → List Nat} {stt : List (String × String × String × Nat × Nat × Int)} {txt : List (String × Nat × String × Nat)} {nel : List (String × Nat × MethodName × String)}
variable {P : Nat → zMd} {zy : Nat → MethodName} {zb : Nat → ByteArray} {zrt : Nat → Option FieldType} {zcp : Nat → List zQc} {isI : Nat → Bool}
def zcOk (TG : List Cond) (cl : List vw_C) (nel : List (String × Nat × MethodName × String)) (zy : Nat → MethodName) (zrt : Nat → Option FieldType) (V : Nat → Prop) (own : String) (q : zQc) : Prop :=
  q.2.1 = 1 → V q.2.2.1 ∧ ∃ k : Nat, (parseMethodDescriptor (zy q.2.2.1).desc).map (fun d => d.parameters.length) = some k ∧
    ((q.2.2.2.2 = 0 ∧ q.2.2.2.1 = k ∧ Jvm.Cond.methodLink own q.1 (zy q.2.2.1) ∈ TG ∧ Jvm.Cond.static (zy q.2.2.1) ∈ TG) ∨
     (q.2.2.2.2 = -1 ∧ q.2.2.2.1 = k + 1 ∧ Jvm.Cond.methodLink own q.1 (zy q.2.2.1) ∈ TG ∧ Jvm.Cond.instanceMethod (zy q.2.2.1) ∈ TG ∧ (zy q.2.2.1).name = "<init>" ∧ zrt q.2.2.1 = none) ∨
     (q.2.2.2.2 = -2 ∧ q.2.2.2.1 = k + 1 ∧ (∃ h, (own, q.1, zy q.2.2.1, h) ∈ nel) ∧ Jvm.Cond.instanceMethod (zy q.2.2.1) ∈ TG ∧ (zy q.2.2.1).name = "<init>" ∧ zrt q.2.2.1 = none) ∨
     (∃ c : Nat, q.2.2.2.2 = ((c + 1 : Nat) : Int) ∧ q.2.2.2.1 = k + 1 ∧ Jvm.Cond.methodLink own q.1 (zy q.2.2.1) ∈ TG ∧ Jvm.Cond.instanceMethod (zy q.2.2.1) ∈ TG ∧ Jvm.Cond.selects (zy q.2.2.1).cls (zy q.2.2.1) (zy q.2.2.1) ∈ TG ∧ ((c = 100 ∧ (zy q.2.2.1).cls = "java/lang/String") ∨ (c ≠ 999 ∧ ∃ (T : u_T) (N : Nat), cl[c]? = some ((zy q.2.2.1).cls, T, N)))))
def zmOk (TG : List Cond) (cl : List vw_C) (tf : Nat → Nat → FieldType) (tsl : Nat → List Nat) (stt : List (String × String × String × Nat × Nat × Int)) (txt : List (String × Nat × String × Nat)) (nel : List (String × Nat × MethodName × String)) (P : Nat → zMd) (zy : Nat → MethodName) (zb : Nat → ByteArray) (zrt : Nat → Option FieldType) (zcp : Nat → List zQc) (isI : Nat → Bool) (V : Nat → Prop) (μ : Nat) : Prop :=
  (∀ ei ∈ (P μ).1, decode (zb μ) ei.1 = .ok (ei.2.1, ei.2.2.1 - ei.1) ∧ zokB (zcp μ) tsl stt (isI μ) (zrt μ) (zb μ) ei = true) ∧ (∀ q ∈ zcp μ, zcpOk TG cl tf tsl stt txt (zy μ).cls q ∧ zcOk TG cl nel zy zrt V (zy μ).cls q) ∧ (isI μ = true → (zy μ).name = "<init>") ∧ (P μ).2.1 ≤ 31
def znOk (TG : List Cond) (P : Nat → zMd) (zy : Nat → MethodName) (zb : Nat → ByteArray) (zrt : Nat → Option FieldType) (μ : Nat) : Prop :=
  plainName (zy μ).cls = true ∧ Jvm.Cond.code (zy μ) (zb μ) (P μ).2.1 (zrt μ) ∈ TG ∧ Jvm.Cond.initialized (zy μ).cls ∈ TG ∧ ((zy μ).cls ≠ "java/lang/invoke/MethodHandle" ∧ (zy μ).cls ≠ "java/lang/invoke/VarHandle")
def zWk (TG : List Cond) (cl : List vw_C) (tf : Nat → Nat → FieldType) (stt : List (String × String × String × Nat × Nat × Int)) (txt : List (String × Nat × String × Nat)) (nel : List (String × Nat × MethodName × String)) (P : Nat → zMd) (zy : Nat → MethodName) (zb : Nat → ByteArray) (V : Nat → Prop) (f : Nat) : Prop :=
  ∀ (p : Program) (l : Launch) (e : Env) (R : Room) (s : State) (m : MethodId) (args : Array Value) (below : List Frame) (meth : Method) (c : Code) (Q : State → Prop) (D : va_G) (cy : Nat → ClassId) (xS : List zSh) (xc : zM) (φ0 : List Nat) (A : Nat → Prop) (d μ : Nat) (cfg : zC) (w : zW) (r : Option zV) (w' : zW), V μ →
    zrun P f d μ cfg w = some (r, w') → cfg.2.1.length = (P μ).2.1 → (w.2.2.1 ≤ (P μ).2.2.1 ∧ w.2.2.2 ≤ (P μ).2.2.2) →
    p.tables.exec = Jvm.exec → c.code = zb μ → c.maxLocals = (P μ).2.1 → (∀ w ∈ TG, w.before args s = true) → s.vm.findClass (zy μ).cls = some m.cls → meth.name = (zy μ).name → va_K D cl (zty cy) s → zXR stt txt nel xS xc φ0 A s s.heap → (∀ q, s.heap.size ≤ q → A q) →
    ((P μ).2.2.1 ≤ R.cells ∧ (P μ).2.2.2 ≤ R.slots) → (d ≤ R.frames ∧ 50 * d ≤ R.locals) →
    (∀ (ei : zE) (L st : List zV), ei ∈ (P μ).1 → L.length = (P μ).2.1 → zst (d != 0) (P μ).2.2 ei L st w' = some (.inr (.inl r)) → (w'.2.2.1 ≤ (P μ).2.2.1 ∧ w'.2.2.2 ≤ (P μ).2.2.2) → zOk p l e R s m args below meth c Q D cl cy tf xS xc φ0 A (ei.1, L, st) w') →
    zOk p l e R s m args below meth c Q D cl cy tf xS xc φ0 A cfg w
theorem zret_spec {cp : List zQc} {isi d : Bool} {rt : Option FieldType} {cc : ByteArray} {ei : zE} {B : Nat × Nat} {L st : List zV} {w : zW} {r : Option zV} (hdc : decode cc ei.1 = .ok (ei.2.1, ei.2.2.1 - ei.1)) (hok : zokB cp tsl stt isi rt cc ei = true) (h : zst d B ei L st w = some (.inr (.inl r))) :
    (∃ (y : Int) (t : Nat), ei.2.1 = .ireturn ∧ st = [.inl y] ∧ r = some (.inl y) ∧ zret t rt = true ∧ (t = 2 → y = 0 ∨ y = 1) ∧ (t = 5 → 0 ≤ y ∧ y < 65536) ∧ (t = 6 → -128 ≤ y ∧ y < 128) ∧ decode cc ei.1 = .ok (.ireturn, 1)) ∨
    (∃ y : Int, st = [.inr (.inl y)] ∧ r = some (.inr (.inl y)) ∧ rt = some .long ∧ decode cc ei.1 = .ok (.lreturn, 1)) ∨
    (∃ y : Nat, st = [.inr (.inr (some y))] ∧ r = some (.inr (.inr (some y))) ∧ ((∃ n, rt = some (.object n)) ∨ ∃ t, rt = some (.array t)) ∧ decode cc ei.1 = .ok (.areturn, 1)) ∨
    (st = [] ∧ r = none ∧ rt = none ∧ decode cc ei.1 = .ok (.return_, 1)) := by
  obtain ⟨pc, ins, n, x⟩ := ei
  cases ins
  case ireturn =>
    replace hok : (zdl cc pc .ireturn 1 n && zret x.1 rt) = true := hok
    rw [Bool.and_eq_true] at hok
    obtain ⟨h1, -⟩ := zdl_spec hdc hok.1
    obtain ⟨t, b, z, ts⟩ := x
    have h2 : zret t rt = true := hok.2
    simp only [zst] at h
    left
    split at h
    · cases h; exact ⟨_, _, rfl, rfl, rfl, h2, by omega, by omega, by omega, h1⟩
    · split at h
      · cases h; exact ⟨_, _, rfl, rfl, rfl, h2, fun _ => by assumption, by omega, by omega, h1⟩
      · cases h
    · split at h
      · cases h; exact ⟨_, _, rfl, rfl, rfl, h2, by omega, fun _ => by assumption, by omega, h1⟩
      · cases h
    · split at h
      · cases h; exact ⟨_, _, rfl, rfl, rfl, h2, by omega, by omega, fun _ => by assumption, h1⟩
      · cases h
    · cases h
  case lreturn =>
    replace hok : (zdl cc pc .lreturn 1 n && decide (rt = some .long)) = true := hok
    rw [Bool.and_eq_true, decide_eq_true_eq] at hok
    obtain ⟨h1, -⟩ := zdl_spec hdc hok.1
    simp only [zst] at h
    split at h
    · cases h; exact Or.inr (Or.inl ⟨_, rfl, rfl, hok.2, h1⟩)
    · cases h
  case areturn =>
    replace hok : (zdl cc pc .areturn 1 n && zretA rt) = true := hok
    rw [Bool.and_eq_true] at hok
    obtain ⟨h1, -⟩ := zdl_spec hdc hok.1
    have h2 := hok.2
    simp only [zst] at h
    split at h
    · cases h
      refine Or.inr (Or.inr (Or.inl ⟨_, rfl, rfl, ?_, h1⟩))
      unfold zretA at h2
      split at h2
      · exact Or.inl ⟨_, rfl⟩
      · exact Or.inr ⟨_, rfl⟩
      · cases h2
    · cases h
  case return_ =>
    replace hok : (zdl cc pc .return_ 1 n && decide (rt = none)) = true := hok
    rw [Bool.and_eq_true, decide_eq_true_eq] at hok
    obtain ⟨h1, -⟩ := zdl_spec hdc hok.1
    simp only [zst] at h
    split at h
    · cases h; exact Or.inr (Or.inr (Or.inr ⟨rfl, rfl, hok.2, h1⟩))
    · cases h
  all_goals (exfalso; simp only [zst] at h)
  all_goals first | (cases h; done) | skip
  all_goals (try simp only [zld, zss, zi2, zl2, zli, zi2d, zl2d, zjmp, zget, zpf, zal, zar, zas, zna, znew, zinv, zint, zgo] at h)
  all_goals repeat' (split at h)
  all_goals first | (cases h; done) | (simp at h; done) | skip
/-- a method's contract, out of a walk -/
theorem z_met {f : Nat} {V U : Nat → Prop} (hw : zWk TG cl tf stt txt nel P zy zb V f) (hV : ∀ μ, V μ → zmOk TG cl tf tsl stt txt nel P zy zb zrt zcp isI U μ) {μ : Nat} (hμ : V μ) (hn : znOk TG P zy zb zrt μ) {d : Nat} {as : List zV} {S : List zSh} {M : zM} {r : Option zV} {S' : List zSh} {M' : zM} {k n : Nat} (has : zsum as ≤ (P μ).2.1) (hrun : zrun P f d μ (0, zini as (P μ).2.1, []) (S, M, 0, 0) = some (r, (S', M', k, n))) (l : Launch) (D : va_G) (cy : Nat → ClassId) (xS : List zSh) (xc : zM) (φ : List Nat) (ws : va_W) (sz : Nat) (vals : List Value) (hW : zWR cy tf xS xc φ S M ws) (hs : zSR φ as vals) :
    Met l (zy μ) (zws TG (zy μ) (zb μ) (P μ).2.1 (zrt μ)) (zrm d (P μ).2.2.1 (P μ).2.2.2) (zPr stt txt nel D cl cy xS xc φ ws sz vals) (zQo D cl cy tf xS xc φ ws sz r S' M') (P μ).2.2.1 (P μ).2.2.2 (va_A ws sz) := by
  obtain ⟨n1, n2, n3, n4⟩ := hn
  obtain ⟨o1, o2, o3, o4⟩ := hV μ hμ
  refine Met.ofW (cc := zb μ) (maxL := (P μ).2.1) (ret := zrt μ) n1 rfl ?_
  intro p e s m args below meth c s₁ B hml hv
  obtain ⟨rfl, hsz, hP, hK, hD0, hX⟩ := hv
  have hx := B.exec
  have hb := B.bytes
  have hr := B.returns
  have hts := atoms_spec (ws := zws TG (zy μ) (zb μ) (P μ).2.1 (zrt μ)) B.pre
  have hown : s.vm.findClass (zy μ).cls = some m.cls := findClass_of_methodNamed B.named
  have hlocks := B.notSynchronized
  have hnm : meth.name = (zy μ).name := (name_of_methodNamed B.named B.method).1
  subst hsz
  have hD := hD0.self (sz := s.heap.size)
  have hA : ∀ q : Nat, s.heap.size ≤ q → va_A ws s.heap.size q := fun q h => Or.inr h
  have hS : va_S (va_A ws s.heap.size) s.heap s.heap [] := va_S.rf
  rw [lg_entry_eq]
  refine hw p l e _ s m vals.toArray below meth c _ D cy xS xc φ (va_A ws s.heap.size) d μ (0, zini as (P μ).2.1, []) (S, M, 0, 0) r (S', M', k, n) hμ hrun (zini_len has) ⟨Nat.zero_le _, Nat.zero_le _⟩ hx hb hml (fun w h => hts w (List.mem_cons_of_mem _ h)) hown hnm hK hX hA ⟨Nat.le_refl _, Nat.le_refl _⟩ ⟨Nat.le_refl _, Nat.le_refl _⟩ ?_ φ ws s.heap [] _ [] ⟨List.prefix_refl _, hW, hP, hD, hS, zini_LR hs has, rfl⟩
  intro ei L st hei hL hz hbud φ' ws' H locs ls stk hR
  obtain ⟨hφ, hW', hP', hD', hS', hl', hs'⟩ := hR
  refine W.widen (k := (P μ).2.2.1) (n := (P μ).2.2.2) hbud.1 hbud.2 ?_
  rcases zret_spec (o1 ei hei).1 (o1 ei hei).2 hz with ⟨y, t, -, rfl, rfl, h3, h4, h5, h6, h7⟩ | ⟨y, rfl, rfl, h3, h4⟩ | ⟨y, rfl, rfl, h3, h4⟩ | ⟨rfl, rfl, h3, h4⟩
  · obtain ⟨u, us, rfl, ⟨v, rfl, hv⟩, h8⟩ := hs'
    have h8 : us = [] := h8
    subst h8
    have hq : ∀ t : State, t.heap = H → s.WarmedH t.vm → zQo D cl cy tf xS xc φ ws s.heap.size (some (.inl y)) S' M' vals.toArray s (.returned (some (.int v))) t := fun t ht _ => ⟨⟨_, φ', ws', rfl, ⟨_, rfl, v, rfl, hv⟩, hφ, by rw [ht]; exact hP', hD', hW'⟩, hS'.F ht⟩
    have hty : ∃ ty, zrt μ = some ty ∧ narrow ty (.int v) = .int v := by
      subst hv
      have key : ∀ {z : Int}, v.toInt = z → v = Int32.ofInt z := fun h => by rw [← h, z_ofI]
      unfold zret at h3
      split at h3
      · exact ⟨_, by assumption, rfl⟩
      · refine ⟨_, by assumption, ?_⟩
        rcases h4 rfl with h | h
        · rw [key h]; rfl
        · rw [key h]; rfl
      · exact ⟨_, by assumption, z_char (h5 rfl)⟩
      · exact ⟨_, by assumption, z_byte (h6 rfl)⟩
      · cases h3
    obtain ⟨ty, e1, e2⟩ := hty
    exact W.zret hx hb (by rw [hr, e1]) e2 hq hS'.2.2 h7
  · obtain ⟨u, us, rfl, ⟨v, rfl, hv⟩, h8⟩ := hs'
    have h8 : us = [] := h8
    subst h8
    exact W.lret hx hb (by rw [hr, h3]) (fun t ht _ => ⟨⟨_, φ', ws', rfl, ⟨_, rfl, v, rfl, hv⟩, hφ, by rw [ht]; exact hP', hD', hW'⟩, hS'.F ht⟩) hS'.2.2 h4
  · obtain ⟨u, us, rfl, ⟨v, rfl, hv⟩, h8⟩ := hs'
    have h8 : us = [] := h8
    subst h8
    have hq : ∀ t : State, t.heap = H → s.WarmedH t.vm → zQo D cl cy tf xS xc φ ws s.heap.size (some (.inr (.inr (some y)))) S' M' vals.toArray s (.returned (some (.ref v))) t := fun t ht _ => ⟨⟨_, φ', ws', rfl, ⟨_, rfl, v, rfl, hv⟩, hφ, by rw [ht]; exact hP', hD', hW'⟩, hS'.F ht⟩
    rcases h3 with ⟨n, h3⟩ | ⟨t, h3⟩
    · exact W.aret hx hb (by rw [hr, h3]) (Or.inl ⟨n, rfl⟩) (Or.inr ⟨v, rfl⟩) hq hS'.2.2 h4
    · exact W.aret hx hb (by rw [hr, h3]) (Or.inr ⟨t, rfl⟩) (Or.inr ⟨v, rfl⟩) hq hS'.2.2 h4
  · have h8 : stk = [] := hs'
    subst h8
    exact W.vret hx hb (by rw [hr, h3]) (fun t ht _ => ⟨⟨_, φ', ws', rfl, rfl, hφ, by rw [ht]; exact hP', hD', hW'⟩, hS'.F ht⟩) hS'.2.2 h4
end ZMAIN
