/-! A WHOLE METHOD: WHAT THE SIMPLE MACHINE COMES TO IS A CONTRACT -/
def zws (TG : List Cond) (y : MethodName) (b : ByteArray) (n : Nat) (rt : Option FieldType) : List Cond := .code y b n rt :: TG
def zrm (d mc ms : Nat) : Room := { frames := d, cells := mc, slots := ms, locals := 50 * d }
def zRV (φ : List Nat) (r : Option zV) (v : Option Value) : Prop :=
  match r with
  | none => v = none
  | some x => ∃ u, v = some u ∧ zVR φ x u
def zPr (stt : List (String × String × String × Nat × Nat × Int)) (txt : List (String × Nat × String × Nat)) (nel : List (String × Nat × MethodName × String)) (D : va_G) (cl : List vw_C) (cy : Nat → ClassId) (xS : List zSh) (xc : zM) (φ : List Nat) (ws : va_W) (sz : Nat) (vals : List Value) : Array Value → State → Prop :=
  va_Pc vals (fun U => U.heap.size = sz ∧ va_P D cl ws U.heap ∧ va_K D cl (zty cy) U ∧ va_D (fun _ => True) ws ∧ zXR stt txt nel xS xc φ (va_A ws sz) U U.heap)
def zQo (D : va_G) (cl : List vw_C) (cy : Nat → ClassId) (tf : Nat → Nat → FieldType) (xS : List zSh) (xc : zM) (φ : List Nat) (ws : va_W) (sz : Nat) (r : Option zV) (S' : List zSh) (M' : zM) : Array Value → State → Outcome → State → Prop :=
  fun _ st oc t => (∃ (v : Option Value) (φ' : List Nat) (ws' : va_W), oc = .returned v ∧ zRV φ' r v ∧ φ <+: φ' ∧ va_P D cl ws' t.heap ∧ va_D (va_A ws sz) ws' ∧ zWR cy tf xS xc φ' S' M' ws') ∧ va_F (va_A ws sz) st t
theorem zXR.moved {stt : List (String × String × String × Nat × Nat × Int)} {txt : List (String × Nat × String × Nat)} {nel : List (String × Nat × MethodName × String)} {xS : List zSh} {xc : zM} {φ φ' : List Nat} {A B : Nat → Prop} {u U : State} {H H1 : Heap} (h : zXR stt txt nel xS xc φ A u H) (hφ : φ <+: φ') (hvm : u.vm.Alike U.vm) (hq : ∀ a : Nat, a < H.size → ¬ A a → H1[a]? = H[a]?) (hAB : ∀ q, B q → A q) (hr : ∀ q ∈ txt, ∀ a : Nat, vk_R q.1 q.2.1 q.2.2.1 a u → vk_R q.1 q.2.1 q.2.2.1 a U) (hn : ∀ q ∈ nel, va_Nw (.methodLinkNest q.1 q.2.1 q.2.2.1 q.2.2.2) u → va_Nw (.methodLinkNest q.1 q.2.1 q.2.2.1 q.2.2.2) U) : zXR stt txt nel xS xc φ' B U H1 := by
  obtain ⟨h1, h2, h3, h4, h5⟩ := h
  refine ⟨fun i t n hi => ?_, fun i c fs hi => ?_, fun q hq' => ?_, fun q hq' => ?_, fun q hq' => hn q hq' (h5 q hq')⟩
  · obtain ⟨g1, g2, a, f, g3, g4, g5⟩ := h1 i t n hi
    exact ⟨g1, g2, a, f, zpre hφ g3, ((g4.moved hvm).kept hq).narrow hAB, g5⟩
  · obtain ⟨g1, a, q, v, g2, g3, g4, g5, g6, g7, g8⟩ := h2 i c fs hi
    exact ⟨g1, a, q, v, g2, zpre hφ g3, zpre hφ g4, ((g5.moved hvm).kept hq).narrow hAB, ((g6.moved hvm).kept hq).narrow hAB, ((g7.moved hvm).kept hq).narrow hAB, g8⟩
  · have h := h3 q hq'
    split at h
    · rename_i h0
      rw [if_pos h0]
      obtain ⟨y, g1, g2⟩ := h
      exact ⟨y, ((g1.moved hvm).kept hq).narrow hAB, g2⟩
    · rename_i h0
      rw [if_neg h0]
      split at h
      · rename_i h9
        rw [if_pos h9]
        obtain ⟨y, g1, g2⟩ := h
        exact ⟨y, ((g1.moved hvm).kept hq).narrow hAB, zpre hφ g2⟩
      · rename_i h9
        rw [if_neg h9]
        exact ((h.moved hvm).kept hq).narrow hAB
  · obtain ⟨a, g1, g2⟩ := h4 q hq'
    exact ⟨a, hr q hq' a g1, zpre hφ g2⟩
theorem zXR.calling {stt : List (String × String × String × Nat × Nat × Int)} {txt : List (String × Nat × String × Nat)} {nel : List (String × Nat × MethodName × String)} {xS : List zSh} {xc : zM} {φ : List Nat} {A : Nat → Prop} {U : State} {H : Heap} (h : zXR stt txt nel xS xc φ A U H) (g : JFrame) (mk : MethodId) (a : Array Value) : zXR stt txt nel xS xc φ A (U.calling g mk a) H :=
  h.moved (List.prefix_refl _) (Vm.Alike.refl U.vm) (fun _ _ _ => rfl) (fun _ h => h) (fun _ _ _ h => vk_R.same rfl h) (fun _ _ h => va_Nw.same rfl rfl h)
theorem zPr_blind {stt : List (String × String × String × Nat × Nat × Int)} {txt : List (String × Nat × String × Nat)} {nel : List (String × Nat × MethodName × String)} {D : va_G} {cl : List vw_C} {cy : Nat → ClassId} {xS : List zSh} {xc : zM} {φ : List Nat} {ws : va_W} {sz : Nat} {vals : List Value} : FrameBlind (zPr stt txt nel D cl cy xS xc φ ws sz vals) := by
  intro a U g mk q
  obtain ⟨q0, q1, q2, q3, q4, q5⟩ := q
  exact ⟨q0, q1, q2, va_K.moved (u := U) (U := U.calling g mk a) (Vm.Alike.refl U.vm) q3, q4, q5.calling g mk a⟩
theorem zsl_len {φ : List Nat} : ∀ {vs : List zV} {us : List Value}, zSR φ vs us → (lg_sl us).length = zsum vs
  | [], us, h => by
    have h : us = [] := h
    subst h; rfl
  | v :: vs, _, h => by
    obtain ⟨u, us', rfl, h2, h3⟩ := h
    have e := zsl_len h3
    have hc := h2.cat
    show ((if u.category = 2 then [Slot.val u, .second] else [.val u]) ++ lg_sl us').length = zcat v + zsum vs
    rw [List.length_append, e, hc]
    have h12 : zcat v = 1 ∨ zcat v = 2 := by
      rcases v with x | x | x <;> simp [zcat]
    rcases h12 with h | h <;> rw [h] <;> rfl
theorem zini_at {φ : List Nat} : ∀ {vs : List zV} {us : List Value} (i : Nat), zSR φ vs us → ∀ (j : Nat) (v : zV), (vs.flatMap (fun v => if zcat v = 2 then [v, zN] else [v]))[j]? = some v → v ≠ zN → ∃ u, (i + j, u) ∈ lv_args i us ∧ zVR φ v u
  | [], _, _, _, j, v, h, _ => by simp at h
  | w :: vs, _, i, h0, j, v, h, hv => by
    obtain ⟨u, us', rfl, h2, h3⟩ := h0
    have hc := h2.cat
    rw [List.flatMap_cons] at h
    show ∃ u_1, (i + j, u_1) ∈ (i, u) :: lv_args (if u.category = 2 then i + 2 else i + 1) us' ∧ _
    rw [hc]
    by_cases hw : zcat w = 2
    · rw [if_pos hw] at h ⊢
      match j, h with
      | 0, h => cases h; exact ⟨u, List.mem_cons_self, h2⟩
      | 1, h => cases h; exact absurd rfl hv
      | j + 2, h =>
        obtain ⟨u', h4, h5⟩ := zini_at (i + 2) h3 j v h hv
        exact ⟨u', List.mem_cons_of_mem _ (by rw [show i + (j + 2) = i + 2 + j by omega]; exact h4), h5⟩
    · rw [if_neg hw] at h ⊢
      match j, h with
      | 0, h => cases h; exact ⟨u, List.mem_cons_self, h2⟩
      | j + 1, h =>
        obtain ⟨u', h4, h5⟩ := zini_at (i + 1) h3 j v h hv
        exact ⟨u', List.mem_cons_of_mem _ (by rw [show i + (j + 1) = i + 1 + j by omega]; exact h4), h5⟩
theorem zfl_len : ∀ (vs : List zV), (vs.flatMap (fun v => if zcat v = 2 then [v, zN] else [v])).length = zsum vs
  | [] => rfl
  | v :: vs => by
    rw [List.flatMap_cons, List.length_append, zfl_len vs]
    have h12 : zcat v = 1 ∨ zcat v = 2 := by
      rcases v with x | x | x <;> simp [zcat]
    show _ = zcat v + zsum vs
    rcases h12 with h | h <;> rw [h] <;> rfl
theorem zini_len {vs : List zV} {n : Nat} (h : zsum vs ≤ n) : (zini vs n).length = n := by
  rw [zini, List.length_append, zfl_len, List.length_replicate]
  omega
theorem zini_LR {φ : List Nat} {vs : List zV} {us : List Value} {n : Nat} (h : zSR φ vs us) (hn : zsum vs ≤ n) : zLR φ (zini vs n) ((lg_sl us ++ List.replicate (n - (lg_sl us).length) Slot.unset).toArray) := by
  refine ⟨lv_args 0 us, by rw [zini_len hn]; exact lv_entry us (by rw [zsl_len h]; exact hn), fun i v hi hv => ?_⟩
  unfold zini at hi
  by_cases hl : i < (vs.flatMap (fun v => if zcat v = 2 then [v, zN] else [v])).length
  · rw [List.getElem?_append_left hl] at hi
    obtain ⟨u, h1, h2⟩ := zini_at 0 h i v hi hv
    exact ⟨u, by simpa using h1, h2⟩
  · rw [List.getElem?_append_right (by omega)] at hi
    have := List.eq_of_mem_replicate (List.mem_of_getElem? hi)
    exact absurd this hv
/-- what an instruction that calls says -/
theorem zst_call {d : Bool} {B : Nat × Nat} {ei : zE} {L st : List zV} {w : zW} {q : Nat × List zV × zC} (h : zst d B ei L st w = some (.inr (.inr q))) :
    d = true ∧ ∃ (z b : Nat), ((∃ i, ei.2.1 = .invokevirtual i ∧ z = ei.2.2.2.2.2.2.headD 0) ∨ (∃ i, ei.2.1 = .invokespecial i ∧ z = 1000) ∨ (∃ i, ei.2.1 = .invokestatic i ∧ z = 0)) ∧ b = ei.2.2.2.2.1 ∧ q.1 = ei.2.2.2.1 ∧ q.1 < 9000 ∧ b ≤ st.length ∧ zsum (st.drop b) ≤ 8 ∧ zisA z st[b - 1]? w.1 = true ∧ q.2.1 = (st.take b).reverse ∧ q.2.2 = (ei.2.2.1, L, st.drop b) := by
  have key : ∀ {z a b n : Nat}, zinv d z a b n L st w = some (.inr (.inr q)) → d = true ∧ q.1 = a ∧ a < 9000 ∧ b ≤ st.length ∧ zsum (st.drop b) ≤ 8 ∧ zisA z st[b - 1]? w.1 = true ∧ q.2.1 = (st.take b).reverse ∧ q.2.2 = (n, L, st.drop b) := by
    intro z a b n h
    unfold zinv at h
    split at h
    · cases h
    · rename_i hd
      split at h
      · unfold zint zgo at h
        repeat' (split at h)
        all_goals cases h
      · rename_i h1
        split at h
        · rename_i h3
          have ha : a < 9000 := by
            rcases Nat.lt_or_ge a 9000 with h2 | h2
            · exact h2
            · rw [Nat.ble_eq_true_of_le h2] at h1
              cases h1
          cases h
          exact ⟨by simpa using hd, rfl, ha, h3.1, h3.2.1, h3.2.2, rfl, rfl⟩
        · cases h
  have no : ∀ {ρ : zO}, (∀ c, ρ ≠ some (.inr (.inr c))) → ρ = some (.inr (.inr q)) → False := fun h1 h2 => h1 _ h2
  obtain ⟨pc, ins, n, x⟩ := ei
  cases ins
  case invokevirtual i =>
    obtain ⟨h1, h2, h3, h5⟩ := key (show zinv d (x.2.2.2.headD 0) x.1 x.2.1 n L st w = _ from h)
    exact ⟨h1, _, _, Or.inl ⟨i, rfl, rfl⟩, rfl, h2, by rw [h2]; exact h3, h5⟩
  case invokespecial i =>
    obtain ⟨h1, h2, h3, h5⟩ := key (show zinv d 1000 x.1 x.2.1 n L st w = _ from h)
    exact ⟨h1, _, _, Or.inr (Or.inl ⟨i, rfl, rfl⟩), rfl, h2, by rw [h2]; exact h3, h5⟩
  case invokestatic i =>
    obtain ⟨h1, h2, h3, h5⟩ := key (show zinv d 0 x.1 x.2.1 n L st w = _ from h)
    exact ⟨h1, _, _, Or.inr (Or.inr ⟨i, rfl, rfl⟩), rfl, h2, by rw [h2]; exact h3, h5⟩
  all_goals (exfalso; simp only [zst] at h)
  all_goals first | (cases h; done) | (simp only [zld, zss, zi2, zl2, zli, zi2d, zl2d, zjmp, zget, zpf, zal, zar, zas, zna, znew, zgo] at h; repeat' (split at h)) | skip
  all_goals first | (cases h; done) | skip
  all_goals repeat' (split at h)
  all_goals first | (cases h; done) | (simp at h; done) | skip
section ZCALL
variable {p : Program} {l : Launch} {e : Env} {R : Room} {s : State} {m : MethodId} {args : Array Value} {below : List Frame} {meth : Method} {c : Code} {H : Heap} {locs : List Loc} {cells slots : Nat} {Q : State → Prop}
variable {pc : Nat} {ls : Array Slot} {rest st0 : List Value} {a : Array Value} {A0 : Nat → Prop} {H0 : Heap} {mc ms : Nat} {free : Addr → Prop}
theorem z_call {D : va_G} {cl : List vw_C} {cy : Nat → ClassId} {tf : Nat → Nat → FieldType} {xS : List zSh} {xc : zM} {φ : List Nat} {ws : va_W} {r : Option zV} {S' : List zSh} {M' : zM} (hr : va_Run p l e R s m args below meth c H locs cells slots mc ms (F0 m pc ls st0) rest (zQo D cl cy tf xS xc φ ws H.size r S' M' a) (va_A ws H.size)) (hS : va_S A0 H0 H locs) (hA : ∀ q, va_A ws H.size q → A0 q)
    (kk : ∀ (v : Option Value) (φ' : List Nat) (ws' : va_W) (H1 : Heap) (locs1 : List Loc), zRV φ' r v → φ <+: φ' → va_P D cl ws' H1 → va_D A0 ws' → zWR cy tf xS xc φ' S' M' ws' → va_S A0 H0 H1 locs1 → W p l e R s m args below meth c H1 locs1 (cells + mc) (slots + ms) Q (F0 m (pc + 3) ls (v.toList ++ rest))) : W p l e R s m args below meth c H locs cells slots Q (F0 m pc ls st0) := by
  intro T hT X
  obtain ⟨v, st₀, t, T', L, h0, X', hL, e1, e2, ⟨⟨v', φ', ws', hv, g1, g2, g3, g4, g5⟩, hz, hk⟩, st⟩ := hr T hT X
  cases hv
  rw [h0] at hz hk
  obtain ⟨t2, a1, b1⟩ := kk v φ' ws' T'.heap (locs ++ L) g1 g2 (by rw [e1]; exact g3) (g4.weaken (fun _ q _ h => hA _ h)) g5
    ⟨Nat.le_trans hS.1 (by rw [e1]; exact hz), fun q h1 h2 => by rw [e1, hk q (Nat.lt_of_lt_of_le h1 hS.1) (fun z => h2 (hA q z))]; exact hS.2.1 q h1 h2, fun q hq => by
      rcases List.mem_append.mp hq with h | h
      · exact hS.2.2 q h
      · exact hA _ (hL q h)⟩ T' rfl X'
  exact ⟨t2, st t2 a1, b1⟩
end ZCALL
