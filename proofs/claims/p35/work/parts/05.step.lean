/-! ONE INSTRUCTION -/
section ZS
variable {p : Program} {l : Launch} {e : Env} {R : Room} {s : State} {m : MethodId} {args : Array Value} {below : List Frame} {meth : Method} {c : Code} {Q : State → Prop} {D : va_G} {cl : List vw_C} {cy : Nat → ClassId} {tf : Nat → Nat → FieldType} {A : Nat → Prop} {xS : List zSh} {xc : zM} {φ0 : List Nat}
def zRl (s : State) (D : va_G) (cl : List vw_C) (cy : Nat → ClassId) (tf : Nat → Nat → FieldType) (xS : List zSh) (xc : zM) (φ0 : List Nat) (A : Nat → Prop) (L st : List zV) (w : zW) (φ : List Nat) (ws : va_W) (H : Heap) (locs : List Loc) (ls : Array Slot) (stk : List Value) : Prop :=
  φ0 <+: φ ∧ zWR cy tf xS xc φ w.1 w.2.1 ws ∧ va_P D cl ws H ∧ va_D A ws ∧ va_S A s.heap H locs ∧ zLR φ L ls ∧ zSR φ st stk
def zOk (p : Program) (l : Launch) (e : Env) (R : Room) (s : State) (m : MethodId) (args : Array Value) (below : List Frame) (meth : Method) (c : Code) (Q : State → Prop) (D : va_G) (cl : List vw_C) (cy : Nat → ClassId) (tf : Nat → Nat → FieldType) (xS : List zSh) (xc : zM) (φ0 : List Nat) (A : Nat → Prop) (f : zC) (w : zW) : Prop :=
  ∀ (φ : List Nat) (ws : va_W) (H : Heap) (locs : List Loc) (ls : Array Slot) (stk : List Value), zRl s D cl cy tf xS xc φ0 A f.2.1 f.2.2 w φ ws H locs ls stk → W p l e R s m args below meth c H locs w.2.2.1 w.2.2.2 Q (F0 m f.1 ls stk)
variable {cc : ByteArray} {pc : Nat} {L st : List zV} {w : zW}
theorem zs_iconst (hx : p.tables.exec = Jvm.exec) (hb : c.code = cc) {k : Int} (hd : decode cc pc = .ok (.iconst k, 1)) (hk : (Int32.ofInt k).toInt = k) (K : zOk p l e R s m args below meth c Q D cl cy tf xS xc φ0 A (pc + 1, L, .inl k :: st) w) : zOk p l e R s m args below meth c Q D cl cy tf xS xc φ0 A (pc, L, st) w := by
  intro φ ws H locs ls stk hR
  obtain ⟨hφ, hW, hP, hD, hS, hl, hs⟩ := hR
  exact lv_iconst hx hb hd rfl (K φ ws H locs ls _ ⟨hφ, hW, hP, hD, hS, hl, _, _, rfl, ⟨_, rfl, hk⟩, hs⟩)
theorem zs_bipush (hx : p.tables.exec = Jvm.exec) (hb : c.code = cc) {k : Int} (hd : decode cc pc = .ok (.bipush k, 2)) (hk : ((Int8.ofInt k).toInt32).toInt = k) (K : zOk p l e R s m args below meth c Q D cl cy tf xS xc φ0 A (pc + 2, L, .inl k :: st) w) : zOk p l e R s m args below meth c Q D cl cy tf xS xc φ0 A (pc, L, st) w := by
  intro φ ws H locs ls stk hR
  obtain ⟨hφ, hW, hP, hD, hS, hl, hs⟩ := hR
  exact lv_bipush hx hb hd rfl (K φ ws H locs ls _ ⟨hφ, hW, hP, hD, hS, hl, _, _, rfl, ⟨_, rfl, hk⟩, hs⟩)
theorem zs_sipush (hx : p.tables.exec = Jvm.exec) (hb : c.code = cc) {k : Int} (hd : decode cc pc = .ok (.sipush k, 3)) (hk : ((Int16.ofInt k).toInt32).toInt = k) (K : zOk p l e R s m args below meth c Q D cl cy tf xS xc φ0 A (pc + 3, L, .inl k :: st) w) : zOk p l e R s m args below meth c Q D cl cy tf xS xc φ0 A (pc, L, st) w := by
  intro φ ws H locs ls stk hR
  obtain ⟨hφ, hW, hP, hD, hS, hl, hs⟩ := hR
  exact lv_sipush hx hb hd rfl (K φ ws H locs ls _ ⟨hφ, hW, hP, hD, hS, hl, _, _, rfl, ⟨_, rfl, hk⟩, hs⟩)
theorem zs_lconst (hx : p.tables.exec = Jvm.exec) (hb : c.code = cc) {k : Fin 2} (hd : decode cc pc = .ok (.lconst k, 1)) (K : zOk p l e R s m args below meth c Q D cl cy tf xS xc φ0 A (pc + 1, L, .inr (.inl (k.val : Nat)) :: st) w) : zOk p l e R s m args below meth c Q D cl cy tf xS xc φ0 A (pc, L, st) w := by
  intro φ ws H locs ls stk hR
  obtain ⟨hφ, hW, hP, hD, hS, hl, hs⟩ := hR
  exact lv_lconst hx hb hd rfl (K φ ws H locs ls _ ⟨hφ, hW, hP, hD, hS, hl, _, _, rfl, ⟨_, rfl, by match k with | 0 => rfl | 1 => rfl⟩, hs⟩)
theorem zs_ldc (hx : p.tables.exec = Jvm.exec) (hb : c.code = cc) {own : String} {i : Nat} {v : Int32} (hown : s.vm.findClass own = some m.cls) (hk : (Jvm.Cond.constant own i v).before args s = true) (hd : decode cc pc = .ok (.ldc i, 2)) (K : zOk p l e R s m args below meth c Q D cl cy tf xS xc φ0 A (pc + 2, L, .inl v.toInt :: st) w) : zOk p l e R s m args below meth c Q D cl cy tf xS xc φ0 A (pc, L, st) w := by
  intro φ ws H locs ls stk hR
  obtain ⟨hφ, hW, hP, hD, hS, hl, hs⟩ := hR
  exact lv_ldc hx hb hown hk hd (K φ ws H locs ls _ ⟨hφ, hW, hP, hD, hS, hl, _, _, rfl, ⟨_, rfl, rfl⟩, hs⟩)
theorem zs_ldcw (hx : p.tables.exec = Jvm.exec) (hb : c.code = cc) {own : String} {i : Nat} {v : Int32} (hown : s.vm.findClass own = some m.cls) (hk : (Jvm.Cond.constant own i v).before args s = true) (hd : decode cc pc = .ok (.ldc_w i, 3)) (K : zOk p l e R s m args below meth c Q D cl cy tf xS xc φ0 A (pc + 3, L, .inl v.toInt :: st) w) : zOk p l e R s m args below meth c Q D cl cy tf xS xc φ0 A (pc, L, st) w := by
  intro φ ws H locs ls stk hR
  obtain ⟨hφ, hW, hP, hD, hS, hl, hs⟩ := hR
  exact lv_ldcw hx hb hown hk hd (K φ ws H locs ls _ ⟨hφ, hW, hP, hD, hS, hl, _, _, rfl, ⟨_, rfl, rfl⟩, hs⟩)
theorem zs_ldc2 (hx : p.tables.exec = Jvm.exec) (hb : c.code = cc) {own : String} {i : Nat} {v : Int64} (hown : s.vm.findClass own = some m.cls) (hk : (Jvm.Cond.constantLong own i v).before args s = true) (hd : decode cc pc = .ok (.ldc2_w i, 3)) (K : zOk p l e R s m args below meth c Q D cl cy tf xS xc φ0 A (pc + 3, L, .inr (.inl v.toInt) :: st) w) : zOk p l e R s m args below meth c Q D cl cy tf xS xc φ0 A (pc, L, st) w := by
  intro φ ws H locs ls stk hR
  obtain ⟨hφ, hW, hP, hD, hS, hl, hs⟩ := hR
  exact lv_ldc2 hx hb hown hk hd (K φ ws H locs ls _ ⟨hφ, hW, hP, hD, hS, hl, _, _, rfl, ⟨_, rfl, rfl⟩, hs⟩)
theorem zs_iload_n (hx : p.tables.exec = Jvm.exec) (hb : c.code = cc) {k : Fin 4} {x : Int} (hd : decode cc pc = .ok (.iload_n k, 1)) (hk : L[k.val]? = some (.inl x)) (K : zOk p l e R s m args below meth c Q D cl cy tf xS xc φ0 A (pc + 1, L, .inl x :: st) w) : zOk p l e R s m args below meth c Q D cl cy tf xS xc φ0 A (pc, L, st) w := by
  intro φ ws H locs ls stk hR
  obtain ⟨hφ, hW, hP, hD, hS, hl, hs⟩ := hR
  obtain ⟨u, hu, hv⟩ := hl.ld hk (by simp)
  obtain ⟨y, rfl, hy⟩ := hv
  exact lv_iload_n hx hb hd rfl hu (K φ ws H locs ls _ ⟨hφ, hW, hP, hD, hS, hl, _, _, rfl, ⟨y, rfl, hy⟩, hs⟩)
theorem zs_iload (hx : p.tables.exec = Jvm.exec) (hb : c.code = cc) {k : Nat} {x : Int} (hd : decode cc pc = .ok (.iload k, 2)) (hk : L[k]? = some (.inl x)) (K : zOk p l e R s m args below meth c Q D cl cy tf xS xc φ0 A (pc + 2, L, .inl x :: st) w) : zOk p l e R s m args below meth c Q D cl cy tf xS xc φ0 A (pc, L, st) w := by
  intro φ ws H locs ls stk hR
  obtain ⟨hφ, hW, hP, hD, hS, hl, hs⟩ := hR
  obtain ⟨u, hu, hv⟩ := hl.ld hk (by simp)
  obtain ⟨y, rfl, hy⟩ := hv
  exact lv_iload hx hb hd hu (K φ ws H locs ls _ ⟨hφ, hW, hP, hD, hS, hl, _, _, rfl, ⟨y, rfl, hy⟩, hs⟩)
theorem zs_lload_n (hx : p.tables.exec = Jvm.exec) (hb : c.code = cc) {k : Fin 4} {x : Int} (hd : decode cc pc = .ok (.lload_n k, 1)) (hk : L[k.val]? = some (.inr (.inl x))) (K : zOk p l e R s m args below meth c Q D cl cy tf xS xc φ0 A (pc + 1, L, .inr (.inl x) :: st) w) : zOk p l e R s m args below meth c Q D cl cy tf xS xc φ0 A (pc, L, st) w := by
  intro φ ws H locs ls stk hR
  obtain ⟨hφ, hW, hP, hD, hS, hl, hs⟩ := hR
  obtain ⟨u, hu, hv⟩ := hl.ld hk (by simp)
  obtain ⟨y, rfl, hy⟩ := hv
  exact lv_lload_n hx hb hd rfl hu (K φ ws H locs ls _ ⟨hφ, hW, hP, hD, hS, hl, _, _, rfl, ⟨y, rfl, hy⟩, hs⟩)
theorem zs_lload (hx : p.tables.exec = Jvm.exec) (hb : c.code = cc) {k : Nat} {x : Int} (hd : decode cc pc = .ok (.lload k, 2)) (hk : L[k]? = some (.inr (.inl x))) (K : zOk p l e R s m args below meth c Q D cl cy tf xS xc φ0 A (pc + 2, L, .inr (.inl x) :: st) w) : zOk p l e R s m args below meth c Q D cl cy tf xS xc φ0 A (pc, L, st) w := by
  intro φ ws H locs ls stk hR
  obtain ⟨hφ, hW, hP, hD, hS, hl, hs⟩ := hR
  obtain ⟨u, hu, hv⟩ := hl.ld hk (by simp)
  obtain ⟨y, rfl, hy⟩ := hv
  exact lv_lload hx hb hd hu (K φ ws H locs ls _ ⟨hφ, hW, hP, hD, hS, hl, _, _, rfl, ⟨y, rfl, hy⟩, hs⟩)
theorem zs_aload_n (hx : p.tables.exec = Jvm.exec) (hb : c.code = cc) {k : Fin 4} {x : Nat} (hd : decode cc pc = .ok (.aload_n k, 1)) (hk : L[k.val]? = some (.inr (.inr (some x)))) (K : zOk p l e R s m args below meth c Q D cl cy tf xS xc φ0 A (pc + 1, L, .inr (.inr (some x)) :: st) w) : zOk p l e R s m args below meth c Q D cl cy tf xS xc φ0 A (pc, L, st) w := by
  intro φ ws H locs ls stk hR
  obtain ⟨hφ, hW, hP, hD, hS, hl, hs⟩ := hR
  obtain ⟨u, hu, hv⟩ := hl.ld hk (by simp)
  obtain ⟨y, rfl, hy⟩ := hv
  exact lv_aload_n hx hb hd rfl hu (K φ ws H locs ls _ ⟨hφ, hW, hP, hD, hS, hl, _, _, rfl, ⟨y, rfl, hy⟩, hs⟩)
theorem zs_aload (hx : p.tables.exec = Jvm.exec) (hb : c.code = cc) {k : Nat} {x : Nat} (hd : decode cc pc = .ok (.aload k, 2)) (hk : L[k]? = some (.inr (.inr (some x)))) (K : zOk p l e R s m args below meth c Q D cl cy tf xS xc φ0 A (pc + 2, L, .inr (.inr (some x)) :: st) w) : zOk p l e R s m args below meth c Q D cl cy tf xS xc φ0 A (pc, L, st) w := by
  intro φ ws H locs ls stk hR
  obtain ⟨hφ, hW, hP, hD, hS, hl, hs⟩ := hR
  obtain ⟨u, hu, hv⟩ := hl.ld hk (by simp)
  obtain ⟨y, rfl, hy⟩ := hv
  exact lv_aload hx hb hd hu (K φ ws H locs ls _ ⟨hφ, hW, hP, hD, hS, hl, _, _, rfl, ⟨y, rfl, hy⟩, hs⟩)
theorem zs_istore_n (hx : p.tables.exec = Jvm.exec) (hb : c.code = cc) {k : Fin 4} {x : Int} (hd : decode cc pc = .ok (.istore_n k, 1)) (hk : k.val < L.length) (K : zOk p l e R s m args below meth c Q D cl cy tf xS xc φ0 A (pc + 1, zsto L k.val (.inl x), st) w) : zOk p l e R s m args below meth c Q D cl cy tf xS xc φ0 A (pc, L, .inl x :: st) w := by
  intro φ ws H locs ls stk hR
  obtain ⟨hφ, hW, hP, hD, hS, hl, hs⟩ := hR
  obtain ⟨u, us, rfl, ⟨y, rfl, hy⟩, hs⟩ := hs
  obtain ⟨lv, h1, h2⟩ := hl
  exact lv_istore_n hx hb hd rfl h1 hk rfl (fun ls' h' => K φ ws H locs ls' _ ⟨hφ, hW, hP, hD, hS, ⟨_, by rw [zsto_len]; exact h', zLv.st1 h2 (v := .inl x) ⟨y, rfl, hy⟩⟩, hs⟩)
theorem zs_istore (hx : p.tables.exec = Jvm.exec) (hb : c.code = cc) {k : Nat} {x : Int} (hd : decode cc pc = .ok (.istore k, 2)) (hk : k < L.length) (K : zOk p l e R s m args below meth c Q D cl cy tf xS xc φ0 A (pc + 2, zsto L k (.inl x), st) w) : zOk p l e R s m args below meth c Q D cl cy tf xS xc φ0 A (pc, L, .inl x :: st) w := by
  intro φ ws H locs ls stk hR
  obtain ⟨hφ, hW, hP, hD, hS, hl, hs⟩ := hR
  obtain ⟨u, us, rfl, ⟨y, rfl, hy⟩, hs⟩ := hs
  obtain ⟨lv, h1, h2⟩ := hl
  exact lv_istore hx hb hd h1 hk rfl (fun ls' h' => K φ ws H locs ls' _ ⟨hφ, hW, hP, hD, hS, ⟨_, by rw [zsto_len]; exact h', zLv.st1 h2 (v := .inl x) ⟨y, rfl, hy⟩⟩, hs⟩)
theorem zs_lstore_n (hx : p.tables.exec = Jvm.exec) (hb : c.code = cc) {k : Fin 4} {x : Int} (hd : decode cc pc = .ok (.lstore_n k, 1)) (hk : k.val + 1 < L.length) (K : zOk p l e R s m args below meth c Q D cl cy tf xS xc φ0 A (pc + 1, zstl L k.val (.inr (.inl x)), st) w) : zOk p l e R s m args below meth c Q D cl cy tf xS xc φ0 A (pc, L, .inr (.inl x) :: st) w := by
  intro φ ws H locs ls stk hR
  obtain ⟨hφ, hW, hP, hD, hS, hl, hs⟩ := hR
  obtain ⟨u, us, rfl, ⟨y, rfl, hy⟩, hs⟩ := hs
  obtain ⟨lv, h1, h2⟩ := hl
  exact lv_lstore_n hx hb hd rfl h1 hk rfl (fun ls' h' => K φ ws H locs ls' _ ⟨hφ, hW, hP, hD, hS, ⟨_, by rw [zstl_len]; exact h', zLv.st2 h2 (v := .inr (.inl x)) ⟨y, rfl, hy⟩⟩, hs⟩)
theorem zs_lstore (hx : p.tables.exec = Jvm.exec) (hb : c.code = cc) {k : Nat} {x : Int} (hd : decode cc pc = .ok (.lstore k, 2)) (hk : k + 1 < L.length) (K : zOk p l e R s m args below meth c Q D cl cy tf xS xc φ0 A (pc + 2, zstl L k (.inr (.inl x)), st) w) : zOk p l e R s m args below meth c Q D cl cy tf xS xc φ0 A (pc, L, .inr (.inl x) :: st) w := by
  intro φ ws H locs ls stk hR
  obtain ⟨hφ, hW, hP, hD, hS, hl, hs⟩ := hR
  obtain ⟨u, us, rfl, ⟨y, rfl, hy⟩, hs⟩ := hs
  obtain ⟨lv, h1, h2⟩ := hl
  exact lv_lstore hx hb hd h1 hk rfl (fun ls' h' => K φ ws H locs ls' _ ⟨hφ, hW, hP, hD, hS, ⟨_, by rw [zstl_len]; exact h', zLv.st2 h2 (v := .inr (.inl x)) ⟨y, rfl, hy⟩⟩, hs⟩)
theorem zs_astore_n (hx : p.tables.exec = Jvm.exec) (hb : c.code = cc) {k : Fin 4} {x : Nat} (hd : decode cc pc = .ok (.astore_n k, 1)) (hk : k.val < L.length) (K : zOk p l e R s m args below meth c Q D cl cy tf xS xc φ0 A (pc + 1, zsto L k.val (.inr (.inr (some x))), st) w) : zOk p l e R s m args below meth c Q D cl cy tf xS xc φ0 A (pc, L, .inr (.inr (some x)) :: st) w := by
  intro φ ws H locs ls stk hR
  obtain ⟨hφ, hW, hP, hD, hS, hl, hs⟩ := hR
  obtain ⟨u, us, rfl, ⟨y, rfl, hy⟩, hs⟩ := hs
  obtain ⟨lv, h1, h2⟩ := hl
  exact lv_astore_n hx hb hd rfl h1 hk rfl (fun ls' h' => K φ ws H locs ls' _ ⟨hφ, hW, hP, hD, hS, ⟨_, by rw [zsto_len]; exact h', zLv.st1 h2 (v := .inr (.inr (some x))) ⟨y, rfl, hy⟩⟩, hs⟩)
theorem zs_astore (hx : p.tables.exec = Jvm.exec) (hb : c.code = cc) {k : Nat} {x : Nat} (hd : decode cc pc = .ok (.astore k, 2)) (hk : k < L.length) (K : zOk p l e R s m args below meth c Q D cl cy tf xS xc φ0 A (pc + 2, zsto L k (.inr (.inr (some x))), st) w) : zOk p l e R s m args below meth c Q D cl cy tf xS xc φ0 A (pc, L, .inr (.inr (some x)) :: st) w := by
  intro φ ws H locs ls stk hR
  obtain ⟨hφ, hW, hP, hD, hS, hl, hs⟩ := hR
  obtain ⟨u, us, rfl, ⟨y, rfl, hy⟩, hs⟩ := hs
  obtain ⟨lv, h1, h2⟩ := hl
  exact lv_astore hx hb hd h1 hk rfl (fun ls' h' => K φ ws H locs ls' _ ⟨hφ, hW, hP, hD, hS, ⟨_, by rw [zsto_len]; exact h', zLv.st1 h2 (v := .inr (.inr (some x))) ⟨y, rfl, hy⟩⟩, hs⟩)
theorem zs_iinc (hx : p.tables.exec = Jvm.exec) (hb : c.code = cc) {i : Nat} {k x : Int} (hd : decode cc pc = .ok (.iinc i k, 3)) (hk : (Int32.ofInt k).toInt = k) (hi : L[i]? = some (.inl x)) (K : zOk p l e R s m args below meth c Q D cl cy tf xS xc φ0 A (pc + 3, zsto L i (.inl (w32 (x + k))), st) w) : zOk p l e R s m args below meth c Q D cl cy tf xS xc φ0 A (pc, L, st) w := by
  intro φ ws H locs ls stk hR
  obtain ⟨hφ, hW, hP, hD, hS, hl, hs⟩ := hR
  obtain ⟨lv, h1, h2⟩ := hl
  obtain ⟨u, hu, y, rfl, hy⟩ := h2 i _ hi (by simp)
  obtain ⟨j, hj⟩ := List.getElem?_of_mem hu
  exact lv_iinc hx hb hd h1 hj rfl (List.getElem?_eq_some_iff.mp hi).1 rfl (fun ls' h' => K φ ws H locs ls' _ ⟨hφ, hW, hP, hD, hS, ⟨_, by rw [zsto_len]; exact h', zLv.st1 h2 (v := .inl (w32 (x + k))) ⟨_, rfl, by rw [z_add, hk, hy]⟩⟩, hs⟩)
theorem zs_iadd (hx : p.tables.exec = Jvm.exec) (hb : c.code = cc) {x y : Int} (hd : decode cc pc = .ok (.iadd, 1)) (K : zOk p l e R s m args below meth c Q D cl cy tf xS xc φ0 A (pc + 1, L, .inl (w32 (x + y)) :: st) w) : zOk p l e R s m args below meth c Q D cl cy tf xS xc φ0 A (pc, L, .inl y :: .inl x :: st) w := by
  intro φ ws H locs ls stk hR
  obtain ⟨hφ, hW, hP, hD, hS, hl, hs⟩ := hR
  obtain ⟨_, _, rfl, ⟨b, rfl, h2⟩, _, _, rfl, ⟨a, rfl, h1⟩, hs⟩ := hs
  exact lv_iadd hx hb hd (K φ ws H locs ls _ ⟨hφ, hW, hP, hD, hS, hl, _, _, rfl, ⟨_, rfl, by rw [z_add, h1, h2]⟩, hs⟩)
theorem zs_isub (hx : p.tables.exec = Jvm.exec) (hb : c.code = cc) {x y : Int} (hd : decode cc pc = .ok (.isub, 1)) (K : zOk p l e R s m args below meth c Q D cl cy tf xS xc φ0 A (pc + 1, L, .inl (w32 (x - y)) :: st) w) : zOk p l e R s m args below meth c Q D cl cy tf xS xc φ0 A (pc, L, .inl y :: .inl x :: st) w := by
  intro φ ws H locs ls stk hR
  obtain ⟨hφ, hW, hP, hD, hS, hl, hs⟩ := hR
  obtain ⟨_, _, rfl, ⟨b, rfl, h2⟩, _, _, rfl, ⟨a, rfl, h1⟩, hs⟩ := hs
  exact lv_isub hx hb hd (K φ ws H locs ls _ ⟨hφ, hW, hP, hD, hS, hl, _, _, rfl, ⟨_, rfl, by rw [z_sub, h1, h2]⟩, hs⟩)
theorem zs_imul (hx : p.tables.exec = Jvm.exec) (hb : c.code = cc) {x y : Int} (hd : decode cc pc = .ok (.imul, 1)) (K : zOk p l e R s m args below meth c Q D cl cy tf xS xc φ0 A (pc + 1, L, .inl (w32 (x * y)) :: st) w) : zOk p l e R s m args below meth c Q D cl cy tf xS xc φ0 A (pc, L, .inl y :: .inl x :: st) w := by
  intro φ ws H locs ls stk hR
  obtain ⟨hφ, hW, hP, hD, hS, hl, hs⟩ := hR
  obtain ⟨_, _, rfl, ⟨b, rfl, h2⟩, _, _, rfl, ⟨a, rfl, h1⟩, hs⟩ := hs
  exact lv_imul hx hb hd (K φ ws H locs ls _ ⟨hφ, hW, hP, hD, hS, hl, _, _, rfl, ⟨_, rfl, by rw [z_mul, h1, h2]⟩, hs⟩)
theorem zs_iand (hx : p.tables.exec = Jvm.exec) (hb : c.code = cc) {x y : Int} (hd : decode cc pc = .ok (.iand, 1)) (K : zOk p l e R s m args below meth c Q D cl cy tf xS xc φ0 A (pc + 1, L, .inl (zband x y) :: st) w) : zOk p l e R s m args below meth c Q D cl cy tf xS xc φ0 A (pc, L, .inl y :: .inl x :: st) w := by
  intro φ ws H locs ls stk hR
  obtain ⟨hφ, hW, hP, hD, hS, hl, hs⟩ := hR
  obtain ⟨_, _, rfl, ⟨b, rfl, h2⟩, _, _, rfl, ⟨a, rfl, h1⟩, hs⟩ := hs
  exact lv_iand hx hb hd (K φ ws H locs ls _ ⟨hφ, hW, hP, hD, hS, hl, _, _, rfl, ⟨_, rfl, by rw [← h1, ← h2, zband, z_ofI, z_ofI]⟩, hs⟩)
theorem zs_ior (hx : p.tables.exec = Jvm.exec) (hb : c.code = cc) {x y : Int} (hd : decode cc pc = .ok (.ior, 1)) (K : zOk p l e R s m args below meth c Q D cl cy tf xS xc φ0 A (pc + 1, L, .inl (zbor x y) :: st) w) : zOk p l e R s m args below meth c Q D cl cy tf xS xc φ0 A (pc, L, .inl y :: .inl x :: st) w := by
  intro φ ws H locs ls stk hR
  obtain ⟨hφ, hW, hP, hD, hS, hl, hs⟩ := hR
  obtain ⟨_, _, rfl, ⟨b, rfl, h2⟩, _, _, rfl, ⟨a, rfl, h1⟩, hs⟩ := hs
  exact lv_ior hx hb hd (K φ ws H locs ls _ ⟨hφ, hW, hP, hD, hS, hl, _, _, rfl, ⟨_, rfl, by rw [← h1, ← h2, zbor, z_ofI, z_ofI]⟩, hs⟩)
theorem zs_ixor (hx : p.tables.exec = Jvm.exec) (hb : c.code = cc) {x y : Int} (hd : decode cc pc = .ok (.ixor, 1)) (K : zOk p l e R s m args below meth c Q D cl cy tf xS xc φ0 A (pc + 1, L, .inl (zbxor x y) :: st) w) : zOk p l e R s m args below meth c Q D cl cy tf xS xc φ0 A (pc, L, .inl y :: .inl x :: st) w := by
  intro φ ws H locs ls stk hR
  obtain ⟨hφ, hW, hP, hD, hS, hl, hs⟩ := hR
  obtain ⟨_, _, rfl, ⟨b, rfl, h2⟩, _, _, rfl, ⟨a, rfl, h1⟩, hs⟩ := hs
  exact lv_ixor hx hb hd (K φ ws H locs ls _ ⟨hφ, hW, hP, hD, hS, hl, _, _, rfl, ⟨_, rfl, by rw [← h1, ← h2, zbxor, z_ofI, z_ofI]⟩, hs⟩)
theorem zs_ishl (hx : p.tables.exec = Jvm.exec) (hb : c.code = cc) {x y : Int} (hd : decode cc pc = .ok (.ishl, 1)) (K : zOk p l e R s m args below meth c Q D cl cy tf xS xc φ0 A (pc + 1, L, .inl (zbshl x y) :: st) w) : zOk p l e R s m args below meth c Q D cl cy tf xS xc φ0 A (pc, L, .inl y :: .inl x :: st) w := by
  intro φ ws H locs ls stk hR
  obtain ⟨hφ, hW, hP, hD, hS, hl, hs⟩ := hR
  obtain ⟨_, _, rfl, ⟨b, rfl, h2⟩, _, _, rfl, ⟨a, rfl, h1⟩, hs⟩ := hs
  exact lv_ishl hx hb hd (K φ ws H locs ls _ ⟨hφ, hW, hP, hD, hS, hl, _, _, rfl, ⟨_, rfl, by rw [← h1, ← h2, zbshl, z_ofI, z_ofI]⟩, hs⟩)
theorem zs_ishr (hx : p.tables.exec = Jvm.exec) (hb : c.code = cc) {x y : Int} (hd : decode cc pc = .ok (.ishr, 1)) (K : zOk p l e R s m args below meth c Q D cl cy tf xS xc φ0 A (pc + 1, L, .inl (zbshr x y) :: st) w) : zOk p l e R s m args below meth c Q D cl cy tf xS xc φ0 A (pc, L, .inl y :: .inl x :: st) w := by
  intro φ ws H locs ls stk hR
  obtain ⟨hφ, hW, hP, hD, hS, hl, hs⟩ := hR
  obtain ⟨_, _, rfl, ⟨b, rfl, h2⟩, _, _, rfl, ⟨a, rfl, h1⟩, hs⟩ := hs
  exact lv_ishr hx hb hd (K φ ws H locs ls _ ⟨hφ, hW, hP, hD, hS, hl, _, _, rfl, ⟨_, rfl, by rw [← h1, ← h2, zbshr, z_ofI, z_ofI]⟩, hs⟩)
theorem zs_iushr (hx : p.tables.exec = Jvm.exec) (hb : c.code = cc) {x y : Int} (hd : decode cc pc = .ok (.iushr, 1)) (K : zOk p l e R s m args below meth c Q D cl cy tf xS xc φ0 A (pc + 1, L, .inl (zbushr x y) :: st) w) : zOk p l e R s m args below meth c Q D cl cy tf xS xc φ0 A (pc, L, .inl y :: .inl x :: st) w := by
  intro φ ws H locs ls stk hR
  obtain ⟨hφ, hW, hP, hD, hS, hl, hs⟩ := hR
  obtain ⟨_, _, rfl, ⟨b, rfl, h2⟩, _, _, rfl, ⟨a, rfl, h1⟩, hs⟩ := hs
  exact lv_iushr hx hb hd rfl (K φ ws H locs ls _ ⟨hφ, hW, hP, hD, hS, hl, _, _, rfl, ⟨_, rfl, by rw [← h1, ← h2, zbushr, z_ofI, z_ofI]; rfl⟩, hs⟩)
theorem zs_idiv (hx : p.tables.exec = Jvm.exec) (hb : c.code = cc) {x y : Int} (hd : decode cc pc = .ok (.idiv, 1)) (hy : ¬ y = 0) (K : zOk p l e R s m args below meth c Q D cl cy tf xS xc φ0 A (pc + 1, L, .inl (w32 (x.tdiv y)) :: st) w) : zOk p l e R s m args below meth c Q D cl cy tf xS xc φ0 A (pc, L, .inl y :: .inl x :: st) w := by
  intro φ ws H locs ls stk hR
  obtain ⟨hφ, hW, hP, hD, hS, hl, hs⟩ := hR
  obtain ⟨_, _, rfl, ⟨b, rfl, h2⟩, _, _, rfl, ⟨a, rfl, h1⟩, hs⟩ := hs
  exact lv_idiv hx hb hd (fun q => hy (by rw [← h2, q]; rfl)) (K φ ws H locs ls _ ⟨hφ, hW, hP, hD, hS, hl, _, _, rfl, ⟨_, rfl, by rw [z_div, h1, h2]⟩, hs⟩)
theorem zs_irem (hx : p.tables.exec = Jvm.exec) (hb : c.code = cc) {x y : Int} (hd : decode cc pc = .ok (.irem, 1)) (hy : ¬ y = 0) (K : zOk p l e R s m args below meth c Q D cl cy tf xS xc φ0 A (pc + 1, L, .inl (x.tmod y) :: st) w) : zOk p l e R s m args below meth c Q D cl cy tf xS xc φ0 A (pc, L, .inl y :: .inl x :: st) w := by
  intro φ ws H locs ls stk hR
  obtain ⟨hφ, hW, hP, hD, hS, hl, hs⟩ := hR
  obtain ⟨_, _, rfl, ⟨b, rfl, h2⟩, _, _, rfl, ⟨a, rfl, h1⟩, hs⟩ := hs
  exact lv_irem hx hb hd (fun q => hy (by rw [← h2, q]; rfl)) (K φ ws H locs ls _ ⟨hφ, hW, hP, hD, hS, hl, _, _, rfl, ⟨_, rfl, by rw [z_rem, h1, h2]⟩, hs⟩)
theorem zs_ineg (hx : p.tables.exec = Jvm.exec) (hb : c.code = cc) {x : Int} (hd : decode cc pc = .ok (.ineg, 1)) (K : zOk p l e R s m args below meth c Q D cl cy tf xS xc φ0 A (pc + 1, L, .inl (w32 (-x)) :: st) w) : zOk p l e R s m args below meth c Q D cl cy tf xS xc φ0 A (pc, L, .inl x :: st) w := by
  intro φ ws H locs ls stk hR
  obtain ⟨hφ, hW, hP, hD, hS, hl, hs⟩ := hR
  obtain ⟨_, _, rfl, ⟨a, rfl, h1⟩, hs⟩ := hs
  exact lv_ineg hx hb hd (K φ ws H locs ls _ ⟨hφ, hW, hP, hD, hS, hl, _, _, rfl, ⟨_, rfl, by rw [z_neg, h1]⟩, hs⟩)
theorem zs_ladd (hx : p.tables.exec = Jvm.exec) (hb : c.code = cc) {x y : Int} (hd : decode cc pc = .ok (.ladd, 1)) (K : zOk p l e R s m args below meth c Q D cl cy tf xS xc φ0 A (pc + 1, L, .inr (.inl (w64 (x + y))) :: st) w) : zOk p l e R s m args below meth c Q D cl cy tf xS xc φ0 A (pc, L, .inr (.inl y) :: .inr (.inl x) :: st) w := by
  intro φ ws H locs ls stk hR
  obtain ⟨hφ, hW, hP, hD, hS, hl, hs⟩ := hR
  obtain ⟨_, _, rfl, ⟨b, rfl, h2⟩, _, _, rfl, ⟨a, rfl, h1⟩, hs⟩ := hs
  exact lv_ladd hx hb hd (K φ ws H locs ls _ ⟨hφ, hW, hP, hD, hS, hl, _, _, rfl, ⟨_, rfl, by rw [z_ladd, h1, h2]⟩, hs⟩)
theorem zs_lsub (hx : p.tables.exec = Jvm.exec) (hb : c.code = cc) {x y : Int} (hd : decode cc pc = .ok (.lsub, 1)) (K : zOk p l e R s m args below meth c Q D cl cy tf xS xc φ0 A (pc + 1, L, .inr (.inl (w64 (x - y))) :: st) w) : zOk p l e R s m args below meth c Q D cl cy tf xS xc φ0 A (pc, L, .inr (.inl y) :: .inr (.inl x) :: st) w := by
  intro φ ws H locs ls stk hR
  obtain ⟨hφ, hW, hP, hD, hS, hl, hs⟩ := hR
  obtain ⟨_, _, rfl, ⟨b, rfl, h2⟩, _, _, rfl, ⟨a, rfl, h1⟩, hs⟩ := hs
  exact lv_lsub hx hb hd (K φ ws H locs ls _ ⟨hφ, hW, hP, hD, hS, hl, _, _, rfl, ⟨_, rfl, by rw [z_lsub, h1, h2]⟩, hs⟩)
theorem zs_lmul (hx : p.tables.exec = Jvm.exec) (hb : c.code = cc) {x y : Int} (hd : decode cc pc = .ok (.lmul, 1)) (K : zOk p l e R s m args below meth c Q D cl cy tf xS xc φ0 A (pc + 1, L, .inr (.inl (w64 (x * y))) :: st) w) : zOk p l e R s m args below meth c Q D cl cy tf xS xc φ0 A (pc, L, .inr (.inl y) :: .inr (.inl x) :: st) w := by
  intro φ ws H locs ls stk hR
  obtain ⟨hφ, hW, hP, hD, hS, hl, hs⟩ := hR
  obtain ⟨_, _, rfl, ⟨b, rfl, h2⟩, _, _, rfl, ⟨a, rfl, h1⟩, hs⟩ := hs
  exact lv_lmul hx hb hd (K φ ws H locs ls _ ⟨hφ, hW, hP, hD, hS, hl, _, _, rfl, ⟨_, rfl, by rw [z_lmul, h1, h2]⟩, hs⟩)
theorem zs_land (hx : p.tables.exec = Jvm.exec) (hb : c.code = cc) {x y : Int} (hd : decode cc pc = .ok (.land, 1)) (K : zOk p l e R s m args below meth c Q D cl cy tf xS xc φ0 A (pc + 1, L, .inr (.inl (zlband x y)) :: st) w) : zOk p l e R s m args below meth c Q D cl cy tf xS xc φ0 A (pc, L, .inr (.inl y) :: .inr (.inl x) :: st) w := by
  intro φ ws H locs ls stk hR
  obtain ⟨hφ, hW, hP, hD, hS, hl, hs⟩ := hR
  obtain ⟨_, _, rfl, ⟨b, rfl, h2⟩, _, _, rfl, ⟨a, rfl, h1⟩, hs⟩ := hs
  exact lv_land hx hb hd (K φ ws H locs ls _ ⟨hφ, hW, hP, hD, hS, hl, _, _, rfl, ⟨_, rfl, by rw [← h1, ← h2, zlband, z_ofL, z_ofL]⟩, hs⟩)
theorem zs_ldiv (hx : p.tables.exec = Jvm.exec) (hb : c.code = cc) {x y : Int} (hd : decode cc pc = .ok (.ldiv, 1)) (hy : ¬ y = 0) (K : zOk p l e R s m args below meth c Q D cl cy tf xS xc φ0 A (pc + 1, L, .inr (.inl (w64 (x.tdiv y))) :: st) w) : zOk p l e R s m args below meth c Q D cl cy tf xS xc φ0 A (pc, L, .inr (.inl y) :: .inr (.inl x) :: st) w := by
  intro φ ws H locs ls stk hR
  obtain ⟨hφ, hW, hP, hD, hS, hl, hs⟩ := hR
  obtain ⟨_, _, rfl, ⟨b, rfl, h2⟩, _, _, rfl, ⟨a, rfl, h1⟩, hs⟩ := hs
  exact lv_ldiv hx hb hd (fun q => hy (by rw [← h2, q]; rfl)) (K φ ws H locs ls _ ⟨hφ, hW, hP, hD, hS, hl, _, _, rfl, ⟨_, rfl, by rw [z_ldiv, h1, h2]⟩, hs⟩)
theorem zs_lrem (hx : p.tables.exec = Jvm.exec) (hb : c.code = cc) {x y : Int} (hd : decode cc pc = .ok (.lrem, 1)) (hy : ¬ y = 0) (K : zOk p l e R s m args below meth c Q D cl cy tf xS xc φ0 A (pc + 1, L, .inr (.inl (x.tmod y)) :: st) w) : zOk p l e R s m args below meth c Q D cl cy tf xS xc φ0 A (pc, L, .inr (.inl y) :: .inr (.inl x) :: st) w := by
  intro φ ws H locs ls stk hR
  obtain ⟨hφ, hW, hP, hD, hS, hl, hs⟩ := hR
  obtain ⟨_, _, rfl, ⟨b, rfl, h2⟩, _, _, rfl, ⟨a, rfl, h1⟩, hs⟩ := hs
  exact lv_lrem hx hb hd (fun q => hy (by rw [← h2, q]; rfl)) (K φ ws H locs ls _ ⟨hφ, hW, hP, hD, hS, hl, _, _, rfl, ⟨_, rfl, by rw [z_lrem, h1, h2]⟩, hs⟩)
theorem zs_lneg (hx : p.tables.exec = Jvm.exec) (hb : c.code = cc) {x : Int} (hd : decode cc pc = .ok (.lneg, 1)) (K : zOk p l e R s m args below meth c Q D cl cy tf xS xc φ0 A (pc + 1, L, .inr (.inl (w64 (-x))) :: st) w) : zOk p l e R s m args below meth c Q D cl cy tf xS xc φ0 A (pc, L, .inr (.inl x) :: st) w := by
  intro φ ws H locs ls stk hR
  obtain ⟨hφ, hW, hP, hD, hS, hl, hs⟩ := hR
  obtain ⟨_, _, rfl, ⟨a, rfl, h1⟩, hs⟩ := hs
  exact lv_lneg hx hb hd (K φ ws H locs ls _ ⟨hφ, hW, hP, hD, hS, hl, _, _, rfl, ⟨_, rfl, by rw [z_lneg, h1]⟩, hs⟩)
theorem zs_lshl (hx : p.tables.exec = Jvm.exec) (hb : c.code = cc) {x y : Int} (hd : decode cc pc = .ok (.lshl, 1)) (K : zOk p l e R s m args below meth c Q D cl cy tf xS xc φ0 A (pc + 1, L, .inr (.inl (zlshl x y)) :: st) w) : zOk p l e R s m args below meth c Q D cl cy tf xS xc φ0 A (pc, L, .inl y :: .inr (.inl x) :: st) w := by
  intro φ ws H locs ls stk hR
  obtain ⟨hφ, hW, hP, hD, hS, hl, hs⟩ := hR
  obtain ⟨_, _, rfl, ⟨b, rfl, h2⟩, _, _, rfl, ⟨a, rfl, h1⟩, hs⟩ := hs
  exact lv_lshl hx hb hd rfl (K φ ws H locs ls _ ⟨hφ, hW, hP, hD, hS, hl, _, _, rfl, ⟨_, rfl, by rw [← h1, ← h2, zlshl, z_ofL, z_ofI]⟩, hs⟩)
theorem zs_lshr (hx : p.tables.exec = Jvm.exec) (hb : c.code = cc) {x y : Int} (hd : decode cc pc = .ok (.lshr, 1)) (K : zOk p l e R s m args below meth c Q D cl cy tf xS xc φ0 A (pc + 1, L, .inr (.inl (zlshr x y)) :: st) w) : zOk p l e R s m args below meth c Q D cl cy tf xS xc φ0 A (pc, L, .inl y :: .inr (.inl x) :: st) w := by
  intro φ ws H locs ls stk hR
  obtain ⟨hφ, hW, hP, hD, hS, hl, hs⟩ := hR
  obtain ⟨_, _, rfl, ⟨b, rfl, h2⟩, _, _, rfl, ⟨a, rfl, h1⟩, hs⟩ := hs
  exact lv_lshr hx hb hd rfl (K φ ws H locs ls _ ⟨hφ, hW, hP, hD, hS, hl, _, _, rfl, ⟨_, rfl, by rw [← h1, ← h2, zlshr, z_ofL, z_ofI]⟩, hs⟩)
theorem zs_i2l (hx : p.tables.exec = Jvm.exec) (hb : c.code = cc) {x : Int} (hd : decode cc pc = .ok (.i2l, 1)) (K : zOk p l e R s m args below meth c Q D cl cy tf xS xc φ0 A (pc + 1, L, .inr (.inl x) :: st) w) : zOk p l e R s m args below meth c Q D cl cy tf xS xc φ0 A (pc, L, .inl x :: st) w := by
  intro φ ws H locs ls stk hR
  obtain ⟨hφ, hW, hP, hD, hS, hl, hs⟩ := hR
  obtain ⟨_, _, rfl, ⟨a, rfl, h1⟩, hs⟩ := hs
  exact lv_i2l hx hb hd rfl (K φ ws H locs ls _ ⟨hφ, hW, hP, hD, hS, hl, _, _, rfl, ⟨_, rfl, by rw [z_i2l, h1]⟩, hs⟩)
theorem zs_l2i (hx : p.tables.exec = Jvm.exec) (hb : c.code = cc) {x : Int} (hd : decode cc pc = .ok (.l2i, 1)) (K : zOk p l e R s m args below meth c Q D cl cy tf xS xc φ0 A (pc + 1, L, .inl (w32 x) :: st) w) : zOk p l e R s m args below meth c Q D cl cy tf xS xc φ0 A (pc, L, .inr (.inl x) :: st) w := by
  intro φ ws H locs ls stk hR
  obtain ⟨hφ, hW, hP, hD, hS, hl, hs⟩ := hR
  obtain ⟨_, _, rfl, ⟨a, rfl, h1⟩, hs⟩ := hs
  exact lv_l2i hx hb hd rfl (K φ ws H locs ls _ ⟨hφ, hW, hP, hD, hS, hl, _, _, rfl, ⟨_, rfl, by rw [z_l2i, h1]⟩, hs⟩)
theorem zs_i2c (hx : p.tables.exec = Jvm.exec) (hb : c.code = cc) {x : Int} (hd : decode cc pc = .ok (.i2c, 1)) (K : zOk p l e R s m args below meth c Q D cl cy tf xS xc φ0 A (pc + 1, L, .inl (x % 65536) :: st) w) : zOk p l e R s m args below meth c Q D cl cy tf xS xc φ0 A (pc, L, .inl x :: st) w := by
  intro φ ws H locs ls stk hR
  obtain ⟨hφ, hW, hP, hD, hS, hl, hs⟩ := hR
  obtain ⟨_, _, rfl, ⟨a, rfl, h1⟩, hs⟩ := hs
  exact lv_i2c hx hb hd rfl (K φ ws H locs ls _ ⟨hφ, hW, hP, hD, hS, hl, _, _, rfl, ⟨_, rfl, by rw [z_i2c, h1]⟩, hs⟩)
theorem zs_i2b (hx : p.tables.exec = Jvm.exec) (hb : c.code = cc) {x : Int} (hd : decode cc pc = .ok (.i2b, 1)) (K : zOk p l e R s m args below meth c Q D cl cy tf xS xc φ0 A (pc + 1, L, .inl ((x + 128) % 256 - 128) :: st) w) : zOk p l e R s m args below meth c Q D cl cy tf xS xc φ0 A (pc, L, .inl x :: st) w := by
  intro φ ws H locs ls stk hR
  obtain ⟨hφ, hW, hP, hD, hS, hl, hs⟩ := hR
  obtain ⟨_, _, rfl, ⟨a, rfl, h1⟩, hs⟩ := hs
  exact lv_i2b hx hb hd rfl (K φ ws H locs ls _ ⟨hφ, hW, hP, hD, hS, hl, _, _, rfl, ⟨_, rfl, by rw [z_i2b, h1]⟩, hs⟩)
theorem zs_lcmp (hx : p.tables.exec = Jvm.exec) (hb : c.code = cc) {x y : Int} (hd : decode cc pc = .ok (.lcmp, 1)) (K : zOk p l e R s m args below meth c Q D cl cy tf xS xc φ0 A (pc + 1, L, .inl (if y < x then 1 else if x = y then 0 else -1) :: st) w) : zOk p l e R s m args below meth c Q D cl cy tf xS xc φ0 A (pc, L, .inr (.inl y) :: .inr (.inl x) :: st) w := by
  intro φ ws H locs ls stk hR
  obtain ⟨hφ, hW, hP, hD, hS, hl, hs⟩ := hR
  obtain ⟨_, _, rfl, ⟨b, rfl, h2⟩, _, _, rfl, ⟨a, rfl, h1⟩, hs⟩ := hs
  exact W.lcmp hx hb hd (K φ ws H locs ls _ ⟨hφ, hW, hP, hD, hS, hl, _, _, rfl, ⟨_, rfl, by rw [← h1, ← h2, z_lcmp]⟩, hs⟩)
theorem zs_if_eq (hx : p.tables.exec = Jvm.exec) (hb : c.code = cc) {x : Int} {off : Int} {t : Nat} (hd : decode cc pc = .ok (.ifCond .eq off, 3)) (ht : (pc : Int) + off = (t : Int)) (K : zOk p l e R s m args below meth c Q D cl cy tf xS xc φ0 A (if zcmp .eq x 0 then t else pc + 3, L, st) w) : zOk p l e R s m args below meth c Q D cl cy tf xS xc φ0 A (pc, L, .inl x :: st) w := by
  intro φ ws H locs ls stk hR
  obtain ⟨hφ, hW, hP, hD, hS, hl, hs⟩ := hR
  obtain ⟨_, _, rfl, ⟨a, rfl, h1⟩, hs⟩ := hs
  refine lv_if_eq hx hb hd ht (fun h => ?_) (fun h => ?_)
  · have e9 : zcmp .eq x 0 = true := by rw [← h1]; exact zcmp_eq (y := 0) h
    rw [if_pos e9] at K
    exact K φ ws H locs ls _ ⟨hφ, hW, hP, hD, hS, hl, hs⟩
  · have e9 : ¬ zcmp .eq x 0 = true := by rw [← h1]; exact zcmp_eqN (y := 0) h
    rw [if_neg e9] at K
    exact K φ ws H locs ls _ ⟨hφ, hW, hP, hD, hS, hl, hs⟩
theorem zs_icmp_eq (hx : p.tables.exec = Jvm.exec) (hb : c.code = cc) {x y : Int} {off : Int} {t : Nat} (hd : decode cc pc = .ok (.if_icmp .eq off, 3)) (ht : (pc : Int) + off = (t : Int)) (K : zOk p l e R s m args below meth c Q D cl cy tf xS xc φ0 A (if zcmp .eq x y then t else pc + 3, L, st) w) : zOk p l e R s m args below meth c Q D cl cy tf xS xc φ0 A (pc, L, .inl y :: .inl x :: st) w := by
  intro φ ws H locs ls stk hR
  obtain ⟨hφ, hW, hP, hD, hS, hl, hs⟩ := hR
  obtain ⟨_, _, rfl, ⟨b, rfl, h2⟩, _, _, rfl, ⟨a, rfl, h1⟩, hs⟩ := hs
  refine lv_icmp_eq hx hb hd ht (fun h => ?_) (fun h => ?_)
  · have e9 : zcmp .eq x y = true := by rw [← h1, ← h2]; exact zcmp_eq h
    rw [if_pos e9] at K
    exact K φ ws H locs ls _ ⟨hφ, hW, hP, hD, hS, hl, hs⟩
  · have e9 : ¬ zcmp .eq x y = true := by rw [← h1, ← h2]; exact zcmp_eqN h
    rw [if_neg e9] at K
    exact K φ ws H locs ls _ ⟨hφ, hW, hP, hD, hS, hl, hs⟩
theorem zs_if_ne (hx : p.tables.exec = Jvm.exec) (hb : c.code = cc) {x : Int} {off : Int} {t : Nat} (hd : decode cc pc = .ok (.ifCond .ne off, 3)) (ht : (pc : Int) + off = (t : Int)) (K : zOk p l e R s m args below meth c Q D cl cy tf xS xc φ0 A (if zcmp .ne x 0 then t else pc + 3, L, st) w) : zOk p l e R s m args below meth c Q D cl cy tf xS xc φ0 A (pc, L, .inl x :: st) w := by
  intro φ ws H locs ls stk hR
  obtain ⟨hφ, hW, hP, hD, hS, hl, hs⟩ := hR
  obtain ⟨_, _, rfl, ⟨a, rfl, h1⟩, hs⟩ := hs
  refine lv_if_ne hx hb hd ht (fun h => ?_) (fun h => ?_)
  · have e9 : zcmp .ne x 0 = true := by rw [← h1]; exact zcmp_ne (y := 0) h
    rw [if_pos e9] at K
    exact K φ ws H locs ls _ ⟨hφ, hW, hP, hD, hS, hl, hs⟩
  · have e9 : ¬ zcmp .ne x 0 = true := by rw [← h1]; exact zcmp_neN (y := 0) h
    rw [if_neg e9] at K
    exact K φ ws H locs ls _ ⟨hφ, hW, hP, hD, hS, hl, hs⟩
theorem zs_icmp_ne (hx : p.tables.exec = Jvm.exec) (hb : c.code = cc) {x y : Int} {off : Int} {t : Nat} (hd : decode cc pc = .ok (.if_icmp .ne off, 3)) (ht : (pc : Int) + off = (t : Int)) (K : zOk p l e R s m args below meth c Q D cl cy tf xS xc φ0 A (if zcmp .ne x y then t else pc + 3, L, st) w) : zOk p l e R s m args below meth c Q D cl cy tf xS xc φ0 A (pc, L, .inl y :: .inl x :: st) w := by
  intro φ ws H locs ls stk hR
  obtain ⟨hφ, hW, hP, hD, hS, hl, hs⟩ := hR
  obtain ⟨_, _, rfl, ⟨b, rfl, h2⟩, _, _, rfl, ⟨a, rfl, h1⟩, hs⟩ := hs
  refine lv_icmp_ne hx hb hd ht (fun h => ?_) (fun h => ?_)
  · have e9 : zcmp .ne x y = true := by rw [← h1, ← h2]; exact zcmp_ne h
    rw [if_pos e9] at K
    exact K φ ws H locs ls _ ⟨hφ, hW, hP, hD, hS, hl, hs⟩
  · have e9 : ¬ zcmp .ne x y = true := by rw [← h1, ← h2]; exact zcmp_neN h
    rw [if_neg e9] at K
    exact K φ ws H locs ls _ ⟨hφ, hW, hP, hD, hS, hl, hs⟩
theorem zs_if_lt (hx : p.tables.exec = Jvm.exec) (hb : c.code = cc) {x : Int} {off : Int} {t : Nat} (hd : decode cc pc = .ok (.ifCond .lt off, 3)) (ht : (pc : Int) + off = (t : Int)) (K : zOk p l e R s m args below meth c Q D cl cy tf xS xc φ0 A (if zcmp .lt x 0 then t else pc + 3, L, st) w) : zOk p l e R s m args below meth c Q D cl cy tf xS xc φ0 A (pc, L, .inl x :: st) w := by
  intro φ ws H locs ls stk hR
  obtain ⟨hφ, hW, hP, hD, hS, hl, hs⟩ := hR
  obtain ⟨_, _, rfl, ⟨a, rfl, h1⟩, hs⟩ := hs
  refine lv_if_lt hx hb hd ht (fun h => ?_) (fun h => ?_)
  · have e9 : zcmp .lt x 0 = true := by rw [← h1]; exact zcmp_lt (y := 0) h
    rw [if_pos e9] at K
    exact K φ ws H locs ls _ ⟨hφ, hW, hP, hD, hS, hl, hs⟩
  · have e9 : ¬ zcmp .lt x 0 = true := by rw [← h1]; exact zcmp_ltN (y := 0) h
    rw [if_neg e9] at K
    exact K φ ws H locs ls _ ⟨hφ, hW, hP, hD, hS, hl, hs⟩
theorem zs_icmp_lt (hx : p.tables.exec = Jvm.exec) (hb : c.code = cc) {x y : Int} {off : Int} {t : Nat} (hd : decode cc pc = .ok (.if_icmp .lt off, 3)) (ht : (pc : Int) + off = (t : Int)) (K : zOk p l e R s m args below meth c Q D cl cy tf xS xc φ0 A (if zcmp .lt x y then t else pc + 3, L, st) w) : zOk p l e R s m args below meth c Q D cl cy tf xS xc φ0 A (pc, L, .inl y :: .inl x :: st) w := by
  intro φ ws H locs ls stk hR
  obtain ⟨hφ, hW, hP, hD, hS, hl, hs⟩ := hR
  obtain ⟨_, _, rfl, ⟨b, rfl, h2⟩, _, _, rfl, ⟨a, rfl, h1⟩, hs⟩ := hs
  refine lv_icmp_lt hx hb hd ht (fun h => ?_) (fun h => ?_)
  · have e9 : zcmp .lt x y = true := by rw [← h1, ← h2]; exact zcmp_lt h
    rw [if_pos e9] at K
    exact K φ ws H locs ls _ ⟨hφ, hW, hP, hD, hS, hl, hs⟩
  · have e9 : ¬ zcmp .lt x y = true := by rw [← h1, ← h2]; exact zcmp_ltN h
    rw [if_neg e9] at K
    exact K φ ws H locs ls _ ⟨hφ, hW, hP, hD, hS, hl, hs⟩
theorem zs_if_ge (hx : p.tables.exec = Jvm.exec) (hb : c.code = cc) {x : Int} {off : Int} {t : Nat} (hd : decode cc pc = .ok (.ifCond .ge off, 3)) (ht : (pc : Int) + off = (t : Int)) (K : zOk p l e R s m args below meth c Q D cl cy tf xS xc φ0 A (if zcmp .ge x 0 then t else pc + 3, L, st) w) : zOk p l e R s m args below meth c Q D cl cy tf xS xc φ0 A (pc, L, .inl x :: st) w := by
  intro φ ws H locs ls stk hR
  obtain ⟨hφ, hW, hP, hD, hS, hl, hs⟩ := hR
  obtain ⟨_, _, rfl, ⟨a, rfl, h1⟩, hs⟩ := hs
  refine lv_if_ge hx hb hd ht (fun h => ?_) (fun h => ?_)
  · have e9 : zcmp .ge x 0 = true := by rw [← h1]; exact zcmp_ge (y := 0) h
    rw [if_pos e9] at K
    exact K φ ws H locs ls _ ⟨hφ, hW, hP, hD, hS, hl, hs⟩
  · have e9 : ¬ zcmp .ge x 0 = true := by rw [← h1]; exact zcmp_geN (y := 0) h
    rw [if_neg e9] at K
    exact K φ ws H locs ls _ ⟨hφ, hW, hP, hD, hS, hl, hs⟩
theorem zs_icmp_ge (hx : p.tables.exec = Jvm.exec) (hb : c.code = cc) {x y : Int} {off : Int} {t : Nat} (hd : decode cc pc = .ok (.if_icmp .ge off, 3)) (ht : (pc : Int) + off = (t : Int)) (K : zOk p l e R s m args below meth c Q D cl cy tf xS xc φ0 A (if zcmp .ge x y then t else pc + 3, L, st) w) : zOk p l e R s m args below meth c Q D cl cy tf xS xc φ0 A (pc, L, .inl y :: .inl x :: st) w := by
  intro φ ws H locs ls stk hR
  obtain ⟨hφ, hW, hP, hD, hS, hl, hs⟩ := hR
  obtain ⟨_, _, rfl, ⟨b, rfl, h2⟩, _, _, rfl, ⟨a, rfl, h1⟩, hs⟩ := hs
  refine lv_icmp_ge hx hb hd ht (fun h => ?_) (fun h => ?_)
  · have e9 : zcmp .ge x y = true := by rw [← h1, ← h2]; exact zcmp_ge h
    rw [if_pos e9] at K
    exact K φ ws H locs ls _ ⟨hφ, hW, hP, hD, hS, hl, hs⟩
  · have e9 : ¬ zcmp .ge x y = true := by rw [← h1, ← h2]; exact zcmp_geN h
    rw [if_neg e9] at K
    exact K φ ws H locs ls _ ⟨hφ, hW, hP, hD, hS, hl, hs⟩
theorem zs_if_gt (hx : p.tables.exec = Jvm.exec) (hb : c.code = cc) {x : Int} {off : Int} {t : Nat} (hd : decode cc pc = .ok (.ifCond .gt off, 3)) (ht : (pc : Int) + off = (t : Int)) (K : zOk p l e R s m args below meth c Q D cl cy tf xS xc φ0 A (if zcmp .gt x 0 then t else pc + 3, L, st) w) : zOk p l e R s m args below meth c Q D cl cy tf xS xc φ0 A (pc, L, .inl x :: st) w := by
  intro φ ws H locs ls stk hR
  obtain ⟨hφ, hW, hP, hD, hS, hl, hs⟩ := hR
  obtain ⟨_, _, rfl, ⟨a, rfl, h1⟩, hs⟩ := hs
  refine lv_if_gt hx hb hd ht (fun h => ?_) (fun h => ?_)
  · have e9 : zcmp .gt x 0 = true := by rw [← h1]; exact zcmp_gt (y := 0) h
    rw [if_pos e9] at K
    exact K φ ws H locs ls _ ⟨hφ, hW, hP, hD, hS, hl, hs⟩
  · have e9 : ¬ zcmp .gt x 0 = true := by rw [← h1]; exact zcmp_gtN (y := 0) h
    rw [if_neg e9] at K
    exact K φ ws H locs ls _ ⟨hφ, hW, hP, hD, hS, hl, hs⟩
theorem zs_icmp_gt (hx : p.tables.exec = Jvm.exec) (hb : c.code = cc) {x y : Int} {off : Int} {t : Nat} (hd : decode cc pc = .ok (.if_icmp .gt off, 3)) (ht : (pc : Int) + off = (t : Int)) (K : zOk p l e R s m args below meth c Q D cl cy tf xS xc φ0 A (if zcmp .gt x y then t else pc + 3, L, st) w) : zOk p l e R s m args below meth c Q D cl cy tf xS xc φ0 A (pc, L, .inl y :: .inl x :: st) w := by
  intro φ ws H locs ls stk hR
  obtain ⟨hφ, hW, hP, hD, hS, hl, hs⟩ := hR
  obtain ⟨_, _, rfl, ⟨b, rfl, h2⟩, _, _, rfl, ⟨a, rfl, h1⟩, hs⟩ := hs
  refine lv_icmp_gt hx hb hd ht (fun h => ?_) (fun h => ?_)
  · have e9 : zcmp .gt x y = true := by rw [← h1, ← h2]; exact zcmp_gt h
    rw [if_pos e9] at K
    exact K φ ws H locs ls _ ⟨hφ, hW, hP, hD, hS, hl, hs⟩
  · have e9 : ¬ zcmp .gt x y = true := by rw [← h1, ← h2]; exact zcmp_gtN h
    rw [if_neg e9] at K
    exact K φ ws H locs ls _ ⟨hφ, hW, hP, hD, hS, hl, hs⟩
theorem zs_if_le (hx : p.tables.exec = Jvm.exec) (hb : c.code = cc) {x : Int} {off : Int} {t : Nat} (hd : decode cc pc = .ok (.ifCond .le off, 3)) (ht : (pc : Int) + off = (t : Int)) (K : zOk p l e R s m args below meth c Q D cl cy tf xS xc φ0 A (if zcmp .le x 0 then t else pc + 3, L, st) w) : zOk p l e R s m args below meth c Q D cl cy tf xS xc φ0 A (pc, L, .inl x :: st) w := by
  intro φ ws H locs ls stk hR
  obtain ⟨hφ, hW, hP, hD, hS, hl, hs⟩ := hR
  obtain ⟨_, _, rfl, ⟨a, rfl, h1⟩, hs⟩ := hs
  refine lv_if_le hx hb hd ht (fun h => ?_) (fun h => ?_)
  · have e9 : zcmp .le x 0 = true := by rw [← h1]; exact zcmp_le (y := 0) h
    rw [if_pos e9] at K
    exact K φ ws H locs ls _ ⟨hφ, hW, hP, hD, hS, hl, hs⟩
  · have e9 : ¬ zcmp .le x 0 = true := by rw [← h1]; exact zcmp_leN (y := 0) h
    rw [if_neg e9] at K
    exact K φ ws H locs ls _ ⟨hφ, hW, hP, hD, hS, hl, hs⟩
theorem zs_icmp_le (hx : p.tables.exec = Jvm.exec) (hb : c.code = cc) {x y : Int} {off : Int} {t : Nat} (hd : decode cc pc = .ok (.if_icmp .le off, 3)) (ht : (pc : Int) + off = (t : Int)) (K : zOk p l e R s m args below meth c Q D cl cy tf xS xc φ0 A (if zcmp .le x y then t else pc + 3, L, st) w) : zOk p l e R s m args below meth c Q D cl cy tf xS xc φ0 A (pc, L, .inl y :: .inl x :: st) w := by
  intro φ ws H locs ls stk hR
  obtain ⟨hφ, hW, hP, hD, hS, hl, hs⟩ := hR
  obtain ⟨_, _, rfl, ⟨b, rfl, h2⟩, _, _, rfl, ⟨a, rfl, h1⟩, hs⟩ := hs
  refine lv_icmp_le hx hb hd ht (fun h => ?_) (fun h => ?_)
  · have e9 : zcmp .le x y = true := by rw [← h1, ← h2]; exact zcmp_le h
    rw [if_pos e9] at K
    exact K φ ws H locs ls _ ⟨hφ, hW, hP, hD, hS, hl, hs⟩
  · have e9 : ¬ zcmp .le x y = true := by rw [← h1, ← h2]; exact zcmp_leN h
    rw [if_neg e9] at K
    exact K φ ws H locs ls _ ⟨hφ, hW, hP, hD, hS, hl, hs⟩
theorem zs_goto (hx : p.tables.exec = Jvm.exec) (hb : c.code = cc) {off : Int} {t : Nat} (hd : decode cc pc = .ok (.goto off, 3)) (ht : (pc : Int) + off = (t : Int)) (K : zOk p l e R s m args below meth c Q D cl cy tf xS xc φ0 A (t, L, st) w) : zOk p l e R s m args below meth c Q D cl cy tf xS xc φ0 A (pc, L, st) w := by
  intro φ ws H locs ls stk hR
  obtain ⟨hφ, hW, hP, hD, hS, hl, hs⟩ := hR
  exact lv_goto hx hb hd ht (K φ ws H locs ls _ ⟨hφ, hW, hP, hD, hS, hl, hs⟩)
theorem zs_table (hx : p.tables.exec = Jvm.exec) (hb : c.code = cc) {x dflt lo hi : Int} {offs : Array Int} {len t : Nat} {ts : List Nat} (hd : decode cc pc = .ok (.tableswitch dflt lo hi offs, len)) (ht : (pc : Int) + dflt = (t : Int)) (hn : ts.length = offs.size) (hh : hi = lo + offs.size - 1) (hz : ∀ (i : Nat) (o : Int), offs[i]? = some o → ∃ k : Nat, ts[i]? = some k ∧ (pc : Int) + o = (k : Int)) (K : zOk p l e R s m args below meth c Q D cl cy tf xS xc φ0 A (zts lo x t ts, L, st) w) : zOk p l e R s m args below meth c Q D cl cy tf xS xc φ0 A (pc, L, .inl x :: st) w := by
  intro φ ws H locs ls stk hR
  obtain ⟨hφ, hW, hP, hD, hS, hl, hs⟩ := hR
  obtain ⟨_, _, rfl, ⟨a, rfl, h1⟩, hs⟩ := hs
  subst h1
  by_cases h0 : a.toInt < lo
  · rw [show zts lo a.toInt t ts = t by rw [zts, if_pos h0]] at K
    exact lv_tableOut hx hb hd (Or.inl h0) ht (K φ ws H locs ls _ ⟨hφ, hW, hP, hD, hS, hl, hs⟩)
  · by_cases h9 : hi < a.toInt
    · rw [show zts lo a.toInt t ts = t by
        rw [zts, if_neg h0, List.getD_eq_getElem?_getD, List.getElem?_eq_none (by omega)]; rfl] at K
      exact lv_tableOut hx hb hd (Or.inr h9) ht (K φ ws H locs ls _ ⟨hφ, hW, hP, hD, hS, hl, hs⟩)
    · have hlt : (a.toInt - lo).toNat < offs.size := by omega
      obtain ⟨k, h3, h4⟩ := hz _ _ (Array.getElem?_eq_getElem hlt)
      rw [show zts lo a.toInt t ts = k by
        rw [zts, if_neg h0, List.getD_eq_getElem?_getD, h3]; rfl] at K
      exact lv_tableIn hx hb hd h0 h9 (Array.getElem?_eq_getElem hlt) h4 (K φ ws H locs ls _ ⟨hφ, hW, hP, hD, hS, hl, hs⟩)
theorem zs_dup (hx : p.tables.exec = Jvm.exec) (hb : c.code = cc) {v : zV} (hd : decode cc pc = .ok (.dup, 1)) (hv : zcat v = 1) (K : zOk p l e R s m args below meth c Q D cl cy tf xS xc φ0 A (pc + 1, L, v :: v :: st) w) : zOk p l e R s m args below meth c Q D cl cy tf xS xc φ0 A (pc, L, v :: st) w := by
  intro φ ws H locs ls stk hR
  obtain ⟨hφ, hW, hP, hD, hS, hl, hs⟩ := hR
  obtain ⟨u, us, rfl, h1, hs⟩ := hs
  exact lv_dup hx hb hd (by rw [h1.cat, hv]) (K φ ws H locs ls _ ⟨hφ, hW, hP, hD, hS, hl, _, _, rfl, h1, _, _, rfl, h1, hs⟩)
theorem zs_dup2 (hx : p.tables.exec = Jvm.exec) (hb : c.code = cc) {v v2 : zV} (hd : decode cc pc = .ok (.dup2, 1)) (hv : zcat v = 1) (hv2 : zcat v2 = 1) (K : zOk p l e R s m args below meth c Q D cl cy tf xS xc φ0 A (pc + 1, L, v :: v2 :: v :: v2 :: st) w) : zOk p l e R s m args below meth c Q D cl cy tf xS xc φ0 A (pc, L, v :: v2 :: st) w := by
  intro φ ws H locs ls stk hR
  obtain ⟨hφ, hW, hP, hD, hS, hl, hs⟩ := hR
  obtain ⟨u, us, rfl, h1, u2, us2, rfl, h2, hs⟩ := hs
  exact lv_dup2_11 hx hb hd (by rw [h1.cat, hv]) (by rw [h2.cat, hv2]) (K φ ws H locs ls _ ⟨hφ, hW, hP, hD, hS, hl, _, _, rfl, h1, _, _, rfl, h2, _, _, rfl, h1, _, _, rfl, h2, hs⟩)
theorem zs_pop (hx : p.tables.exec = Jvm.exec) (hb : c.code = cc) {v : zV} (hd : decode cc pc = .ok (.pop, 1)) (hv : zcat v = 1) (K : zOk p l e R s m args below meth c Q D cl cy tf xS xc φ0 A (pc + 1, L, st) w) : zOk p l e R s m args below meth c Q D cl cy tf xS xc φ0 A (pc, L, v :: st) w := by
  intro φ ws H locs ls stk hR
  obtain ⟨hφ, hW, hP, hD, hS, hl, hs⟩ := hR
  obtain ⟨u, us, rfl, h1, hs⟩ := hs
  exact lv_pop hx hb hd (by rw [h1.cat, hv]) (K φ ws H locs ls _ ⟨hφ, hW, hP, hD, hS, hl, hs⟩)
theorem zs_pop2 (hx : p.tables.exec = Jvm.exec) (hb : c.code = cc) {x : Int} (hd : decode cc pc = .ok (.pop2, 1)) (K : zOk p l e R s m args below meth c Q D cl cy tf xS xc φ0 A (pc + 1, L, st) w) : zOk p l e R s m args below meth c Q D cl cy tf xS xc φ0 A (pc, L, .inr (.inl x) :: st) w := by
  intro φ ws H locs ls stk hR
  obtain ⟨hφ, hW, hP, hD, hS, hl, hs⟩ := hR
  obtain ⟨_, us, rfl, ⟨y, rfl, h1⟩, hs⟩ := hs
  exact lv_pop2_2 hx hb hd rfl (K φ ws H locs ls _ ⟨hφ, hW, hP, hD, hS, hl, hs⟩)
end ZS
