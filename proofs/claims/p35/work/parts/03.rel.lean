/-! WHAT A STATE OF THE SIMPLE MACHINE SAYS OF THE MACHINE'S -/
def zT (t : Nat) : FieldType :=
  match t with
  | 1 => .long
  | 2 => .boolean
  | 14 => .byte
  | _ => .int
def zty (cy : Nat → ClassId) : List (ClassId × FieldType) := [(cy 0, .int), (cy 1, .long), (cy 2, .boolean)]
def zVR (φ : List Nat) (v : zV) (u : Value) : Prop :=
  match v with
  | .inl x => ∃ y : Int32, u = .int y ∧ y.toInt = x
  | .inr (.inl x) => ∃ y : Int64, u = .long y ∧ y.toInt = x
  | .inr (.inr (some r)) => ∃ a : Nat, u = .ref a ∧ φ[r]? = some a
  | .inr (.inr none) => u = .null ∨ ∃ a : Nat, u = .ref a
def zSR (φ : List Nat) : List zV → List Value → Prop
  | [], us => us = []
  | v :: vs, us => ∃ (u : Value) (us' : List Value), us = u :: us' ∧ zVR φ v u ∧ zSR φ vs us'
def zLR (φ : List Nat) (L : List zV) (ls : Array Slot) : Prop :=
  ∃ lv : List (Nat × Value), lv_has ls L.length lv ∧ ∀ (i : Nat) (v : zV), L[i]? = some v → v ≠ zN → ∃ u : Value, (i, u) ∈ lv ∧ zVR φ v u
def zFR (φ : List Nat) (z : Int) (ft : zFT) (ty : FieldType) (v : Value) : Prop :=
  match ft with
  | .inl (some r) => (∃ a : Nat, v = .ref a ∧ φ[r]? = some a) ∧ ((∃ C, ty = .object C) ∨ ∃ t, ty = .array t)
  | .inl none => v = .null ∧ ((∃ C, ty = .object C) ∨ ∃ t, ty = .array t)
  | .inr 0 => ty = .int ∧ ∃ y : Int32, v = .int y ∧ y.toInt = z
  | .inr 1 => ty = .long ∧ ∃ y : Int64, v = .long y ∧ y.toInt = z
  | .inr 2 => ty = .boolean ∧ ∃ y : Int32, v = .int y ∧ y.toInt = z
  | .inr _ => False
def zER (cy : Nat → ClassId) (tf : Nat → Nat → FieldType) (φ : List Nat) (Mi : Nat → Int) (sh : zSh) (e : va_E) : Prop :=
  match sh with
  | .inl (t, n) => n < 2147483648 ∧ (((t = 0 ∨ t = 2) ∧ ∃ f : Nat → Int32, e = .inl (cy t, n, .inl f) ∧ ∀ j, (f j).toInt = Mi j) ∨ (t = 1 ∧ ∃ f : Nat → Int64, e = .inl (cy t, n, .inr (.inl f)) ∧ ∀ j, (f j).toInt = Mi j))
  | .inr (c, fts) => ∃ fs : List Value, e = .inr (c, fs) ∧ fs.length = fts.length ∧ ∀ (k : Nat) (ft : zFT), fts[k]? = some ft → ∃ v, fs[k]? = some v ∧ zFR φ (Mi k) ft (tf c k) v
/-- the cells: eight that nobody writes, then those of the world -/
def zWR (cy : Nat → ClassId) (tf : Nat → Nat → FieldType) (xS : List zSh) (xc : zM) (φ : List Nat) (S : List zSh) (M : zM) (ws : va_W) : Prop :=
  φ.length = S.length ∧ ws.length + 8 = S.length ∧ (∀ i, i < 8 → S[i]? = xS[i]? ∧ M i = xc i) ∧
  ∀ (i : Nat) (sh : zSh), S[i + 8]? = some sh → ∃ (a : Nat) (e : va_E), ws[i]? = some (a, e) ∧ φ[i + 8]? = some a ∧ zER cy tf φ (M (i + 8)) sh e
/-- the eight that nobody writes, static fields, texts, links among nest mates -/
def zXR (st : List (String × String × String × Nat × Nat × Int)) (tx : List (String × Nat × String × Nat)) (ne : List (String × Nat × MethodName × String)) (xS : List zSh) (xc : zM) (φ : List Nat) (A : Nat → Prop) (U : State) (H : Heap) : Prop :=
  (∀ (i t n : Nat), xS[i]? = some (.inl (t, n)) → (t = 10 ∨ t = 14) ∧ n < 2147483648 ∧ ∃ (a : Nat) (f : Nat → Int32), φ[i]? = some a ∧ va_T (zT t) a n (fun j => .int (f j)) A U H ∧ ∀ j, j < n → (f j).toInt = xc i j) ∧
  (∀ (i c : Nat) (fs : List zFT), xS[i]? = some (.inr (c, fs)) → c = 100 ∧ ∃ (a q v : Nat), fs = [.inl (some q), .inr 0] ∧ φ[i]? = some a ∧ φ[q]? = some v ∧ va_O "java/lang/String" a A U H ∧ va_OF "java/lang/String" "coder" "B" (.int 0) a A U H ∧ va_OF "java/lang/String" "value" "[B" (.ref v) a A U H ∧ xc i 1 = 0) ∧
  (∀ q ∈ st, if q.2.2.2.1 = 0 then ∃ y : Int32, va_Z q.1 q.2.1 q.2.2.1 (.int y) A U H ∧ y.toInt = q.2.2.2.2.2 else if q.2.2.2.1 = 1 then ∃ a : Nat, va_Z q.1 q.2.1 q.2.2.1 (.ref a) A U H ∧ φ[q.2.2.2.2.1]? = some a else va_Zq q.1 q.2.1 q.2.2.1 A U H) ∧
  (∀ q ∈ tx, ∃ a : Nat, vk_R q.1 q.2.1 q.2.2.1 a U ∧ φ[q.2.2.2]? = some a) ∧
  (∀ q ∈ ne, va_Nw (.methodLinkNest q.1 q.2.1 q.2.2.1 q.2.2.2) U)
theorem zpre {φ φ' : List Nat} (h : φ <+: φ') {i a : Nat} (hi : φ[i]? = some a) : φ'[i]? = some a := by
  obtain ⟨t, rfl⟩ := h
  rw [List.getElem?_append_left (List.getElem?_eq_some_iff.mp hi).1]
  exact hi
theorem zVR.up {φ φ' : List Nat} (h : φ <+: φ') {v : zV} {u : Value} (hv : zVR φ v u) : zVR φ' v u := by
  rcases v with x | x | _ | r
  · exact hv
  · exact hv
  · exact hv
  · obtain ⟨a, h1, h2⟩ := hv
    exact ⟨a, h1, zpre h h2⟩
theorem zSR.up {φ φ' : List Nat} (h : φ <+: φ') : ∀ {vs : List zV} {us : List Value}, zSR φ vs us → zSR φ' vs us
  | [], _, hv => hv
  | _ :: _, _, hv => by
    obtain ⟨u, us', h1, h2, h3⟩ := hv
    exact ⟨u, us', h1, h2.up h, zSR.up h h3⟩
theorem zLR.up {φ φ' : List Nat} (h : φ <+: φ') {L : List zV} {ls : Array Slot} (hv : zLR φ L ls) : zLR φ' L ls := by
  obtain ⟨lv, h1, h2⟩ := hv
  refine ⟨lv, h1, fun i v a b => ?_⟩
  obtain ⟨u, c, d⟩ := h2 i v a b
  exact ⟨u, c, d.up h⟩
theorem zFR.up {φ φ' : List Nat} (h : φ <+: φ') {z : Int} {ft : zFT} {ty : FieldType} {v : Value} (hv : zFR φ z ft ty v) : zFR φ' z ft ty v := by
  rcases ft with (_ | r) | t
  · exact hv
  · obtain ⟨⟨a, h1, h2⟩, h3⟩ := hv
    exact ⟨⟨a, h1, zpre h h2⟩, h3⟩
  · match t, hv with
    | 0, hv => exact hv
    | 1, hv => exact hv
    | 2, hv => exact hv
theorem zER.up {cy : Nat → ClassId} {tf : Nat → Nat → FieldType} {φ φ' : List Nat} (h : φ <+: φ') {Mi : Nat → Int} {sh : zSh} {e : va_E} (hv : zER cy tf φ Mi sh e) : zER cy tf φ' Mi sh e := by
  rcases sh with ⟨t, n⟩ | ⟨c, fts⟩
  · exact hv
  · obtain ⟨fs, h1, h2, h3⟩ := hv
    refine ⟨fs, h1, h2, fun k ft hk => ?_⟩
    obtain ⟨v, a, b⟩ := h3 k ft hk
    exact ⟨v, a, b.up h⟩
theorem zVR.cat {φ : List Nat} {v : zV} {u : Value} (h : zVR φ v u) : u.category = zcat v := by
  rcases v with x | x | _ | r
  · obtain ⟨y, rfl, -⟩ := h; rfl
  · obtain ⟨y, rfl, -⟩ := h; rfl
  · rcases h with rfl | ⟨a, rfl⟩ <;> rfl
  · obtain ⟨y, rfl, -⟩ := h; rfl
theorem zSR.sum {φ : List Nat} : ∀ {vs : List zV} {us : List Value}, zSR φ vs us → (us.map fun v => v.category).sum = zsum vs
  | [], _, h => by
    have h : _ = [] := h
    subst h; rfl
  | v :: vs, _, h => by
    obtain ⟨u, us', rfl, h2, h3⟩ := h
    show u.category + (us'.map fun v => v.category).sum = zcat v + (vs.map zcat).sum
    rw [h2.cat, zSR.sum h3]; rfl
theorem zSR.len {φ : List Nat} : ∀ {vs : List zV} {us : List Value}, zSR φ vs us → us.length = vs.length
  | [], _, h => by
    have h : _ = [] := h
    subst h; rfl
  | v :: vs, _, h => by
    obtain ⟨u, us', rfl, h2, h3⟩ := h
    simp [zSR.len h3]
theorem zSR.split {φ : List Nat} : ∀ (b : Nat) {vs : List zV} {us : List Value}, zSR φ vs us → zSR φ (vs.take b) (us.take b) ∧ zSR φ (vs.drop b) (us.drop b)
  | 0, _, _, h => ⟨by simp [zSR], by simpa using h⟩
  | b + 1, [], us, h => by
    have h : us = [] := h
    subst h
    simp [zSR]
  | b + 1, v :: vs, us, h => by
    obtain ⟨u, us', rfl, h2, h3⟩ := h
    obtain ⟨h4, h5⟩ := zSR.split b h3
    exact ⟨⟨u, us'.take b, by simp, h2, h4⟩, by simpa using h5⟩
theorem zSR.app {φ : List Nat} : ∀ {vs ws : List zV} {us xs : List Value}, zSR φ vs us → zSR φ ws xs → zSR φ (vs ++ ws) (us ++ xs)
  | [], _, us, _, h, g => by
    have h : us = [] := h
    subst h
    simpa using g
  | v :: vs, _, _, _, h, g => by
    obtain ⟨u, us', rfl, h2, h3⟩ := h
    exact ⟨u, us' ++ _, by simp, h2, zSR.app h3 g⟩
theorem zSR.rev {φ : List Nat} : ∀ {vs : List zV} {us : List Value}, zSR φ vs us → zSR φ vs.reverse us.reverse
  | [], us, h => by
    have h : us = [] := h
    subst h
    simp [zSR]
  | v :: vs, _, h => by
    obtain ⟨u, us', rfl, h2, h3⟩ := h
    rw [List.reverse_cons, List.reverse_cons]
    exact zSR.app (zSR.rev h3) ⟨u, [], rfl, h2, rfl⟩
theorem zSR.at {φ : List Nat} : ∀ {vs : List zV} {us : List Value} (i : Nat) {v : zV}, zSR φ vs us → vs[i]? = some v → ∃ u, us[i]? = some u ∧ zVR φ v u
  | [], _, _, _, _, h => by cases h
  | v :: vs, _, 0, _, h, h0 => by
    obtain ⟨u, us', rfl, h2, h3⟩ := h
    cases h0
    exact ⟨u, rfl, h2⟩
  | v :: vs, _, i + 1, _, h, h0 => by
    obtain ⟨u, us', rfl, h2, h3⟩ := h
    exact zSR.at i h3 h0
