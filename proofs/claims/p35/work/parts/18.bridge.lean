/-! FROM THE SIMPLE MACHINE TO THE LAW -/
theorem zfl_hcl : zCl zTG zcl ztf := by
  refine ⟨rfl, fun ci q hq => ?_⟩
  have sub : ∀ {ws : List Cond}, (∀ w ∈ ws, w ∈ zTG) → ∀ w ∈ ws, w ∈ zTG := fun h => h
  match ci, hq with
  | 0, hq => cases hq; exact ⟨zin_0, tyX0_ok, nmX0⟩
  | 1, hq => cases hq; exact ⟨zin_1, tyX1_ok, nmX1⟩
  | 2, hq => cases hq; exact ⟨zin_2, tyX2_ok, nmX2⟩
  | 3, hq => cases hq; exact ⟨zin_3, tyX3_ok, nmX3⟩
  | 4, hq => cases hq; exact ⟨zin_4, tyX4_ok, nmX4⟩
  | 5, hq => cases hq; exact ⟨zin_5, tyX5_ok, nmX5⟩
  | 6, hq => cases hq; exact ⟨zin_6, tyX6_ok, nmX6⟩
  | 7, hq => cases hq; exact ⟨zin_7, tyX7_ok, nmX7⟩
  | 8, hq => cases hq; exact ⟨zin_8, tyX8_ok, nmX8⟩
  | 9, hq => cases hq; exact ⟨zin_9, tyX9_ok, nmX9⟩
  | 10, hq => cases hq; exact ⟨zin_10, tyX10_ok, nmX10⟩
  | 11, hq => cases hq; exact ⟨zin_11, tyX11_ok, nmX11⟩
  | i + 12, hq => cases hq
theorem zfl_arr : ∀ at_ : ArrayType, (zti at_).isSome → Jvm.Cond.arrayClass (newarray.typeOf at_) ∈ zTG := by
  intro at_ h
  cases at_ <;> first | (simp [zti] at h; done) | skip
  · exact List.mem_filter.mpr ⟨zac_z, rfl⟩
  · exact List.mem_filter.mpr ⟨zac_i, rfl⟩
  · exact List.mem_filter.mpr ⟨zac_j, rfl⟩
theorem zyl_at {μ : Nat} (h : μ < 312) : ∃ y, zYL[μ]? = some y ∧ zyv μ = y := by
  have hl : μ < zYL.length := by rw [zlens.2.1]; exact h
  refine ⟨zYL[μ], List.getElem?_eq_getElem hl, ?_⟩
  unfold zyv
  rw [List.getD_eq_getElem?_getD, List.getElem?_eq_getElem hl]
  rfl
theorem zpl_at {μ : Nat} (h : μ < 312) : ∃ y, zPL[μ]? = some y ∧ zP μ = y := by
  have hl : μ < zPL.length := by rw [zlens.1]; exact h
  refine ⟨zPL[μ], List.getElem?_eq_getElem hl, ?_⟩
  unfold zP
  rw [List.getD_eq_getElem?_getD, List.getElem?_eq_getElem hl]
  rfl
theorem zfl_hV : ∀ μ, μ < 312 → zmOk zTG zcl ztf ztsl zstt ztxt znel zP zfy zfb zfr zfc zfi zU μ := by
  intro μ h
  obtain ⟨y, h1, h2⟩ := zyl_at h
  obtain ⟨m, h3, h4⟩ := zpl_at h
  have ho := List.all_eq_true.mp zown_ok y (List.mem_of_getElem? h1)
  rw [Bool.and_eq_true, decide_eq_true_eq] at ho
  have hc := List.all_eq_true.mp zmeth_c (m, y) (List.mem_of_getElem? (i := μ) (by rw [List.getElem?_zip_eq_some]; exact ⟨h3, h1⟩))
  have hc : (Nat.ble m.2.1 31 && (!y.2.2.2.1 || decide (y.1.name = "<init>"))) = true := hc
  rw [Bool.and_eq_true] at hc
  refine ⟨zmc_all μ h, ?_, ?_, ?_⟩
  · intro q hq
    have hq : q ∈ zpools.getD (zyv μ).2.2.2.2 [] := hq
    have e : (zfy μ).cls = zowns.getD (zyv μ).2.2.2.2 "" := by
      show (zyv μ).1.cls = _
      rw [h2]
      exact ho.1.symm
    rw [e]
    exact zpool_all _ (by rw [h2]; exact Nat.le_of_ble_eq_true ho.2) q hq
  · intro hi
    have hi : (zyv μ).2.2.2.1 = true := hi
    show (zyv μ).1.name = "<init>"
    rw [h2] at hi ⊢
    have := hc.2
    rw [hi] at this
    simpa using this
  · rw [h4]
    exact Nat.le_of_ble_eq_true hc.1
theorem zfl_hU : ∀ μ, zU μ → μ < 312 ∧ znOk zTG zP zfy zfb zfr μ := by
  intro μ hμ
  have hμ : μ < 311 := hμ
  refine ⟨by omega, ?_⟩
  obtain ⟨y, h1, h2⟩ := zyl_at (show μ < 312 by omega)
  obtain ⟨m, h3, h4⟩ := zpl_at (show μ < 312 by omega)
  have hl : μ < zmcert.length := by rw [zlens.2.2]; omega
  have hc := List.all_eq_true.mp zmeth_ok ((m, y), zmcert[μ]) (List.mem_of_getElem? (i := μ) (by rw [List.getElem?_zip_eq_some, List.getElem?_zip_eq_some]; exact ⟨⟨h3, h1⟩, List.getElem?_eq_getElem hl⟩))
  have hc : (decide (y.1.cls = "SenateRollLaw") || (plainName y.1.cls && (zhas zmcert[μ] (.initialized y.1.cls) && (decide (y.1.cls ≠ "java/lang/invoke/MethodHandle") && (decide (y.1.cls ≠ "java/lang/invoke/VarHandle")))))) = true := hc
  simp only [Bool.or_eq_true, Bool.and_eq_true, decide_eq_true_eq] at hc
  have hw : Cond.code (zfy μ) (zfb μ) (zP μ).2.1 (zfr μ) ∈ zTG := zcw_all μ hμ
  rcases hc with hc | ⟨g1, g2, g3, g4⟩
  · exact absurd hc (zno_law h1 hμ)
  · have e : (zfy μ).cls = y.1.cls := by show (zyv μ).1.cls = _; rw [h2]
    exact ⟨by rw [e]; exact g1, hw, by rw [e]; exact zhas_ok g2, by rw [e]; exact ⟨g3, g4⟩⟩
theorem zfl_walk : ∀ f, zWk zTG zcl ztf zstt ztxt znel zP zfy zfb (fun μ => μ < 312) f :=
  z_all zfl_hcl (fun w h => (List.mem_filter.mp h).2) zfl_arr zfl_hV zfl_hU
def R_law : String := "SenateRollLaw"
def lw_P (b : Addr) (xs : List Int32) (args : Array Value) (s : State) : Prop := args = #[.ref b] ∧ s.IntsAt b xs ∧ xs.length ≤ 4096 ∧ (Jvm.Cond.and given_1 narrow_1).before args s = true
def lw_Q (_ : Array Value) (s : State) (o : Outcome) (t : State) : Prop := o = .returned (some (.int 1)) ∧ Framed s o t [] 600000 7302250
def lw_Z (below : List Frame) (a : Array Value) (s : State) : State → Prop := fun t => ∃ o, t.status = .running ∧ Ended t below o ∧ lw_Q a s o t
theorem lw_ret {p : Program} {l : Launch} {e : Env} {s : State} {m : MethodId} {below : List Frame} {meth : Method} {c : Code} {b : Nat} (hx : p.tables.exec = Jvm.exec) (hb : c.code = code) (hr : meth.sig.returnType = ret) (hlocks : meth.locks = false) {pc : Nat} {H : Heap} {ls : Array Slot} (hdg : decode code pc = .ok (.ireturn, 1)) : W p l e room_1 s m #[Value.ref b] below meth c H [] 600000 7302250 (lw_Z below #[Value.ref b] s) (F0 m pc ls [.int 1]) := by
  intro T hT X
  obtain ⟨fs, hret, hrun, hended, hW, hframe⟩ := X.leave (v := some (.int 1)) (hlocks := hlocks) (fun h => by rw [hr] at h; cases h)
  have hmeth' : T.vm.method? m = some meth := X.method'
  refine ⟨T.setFrames fs, ?_, .returned (some (.int 1)), hrun, hended, rfl, ⟨_, rfl⟩, hW, hframe⟩
  jvm_step X.here [X.here.top, hx, hb, hdg, hmeth', hr, ret, narrow_b1]
  (try refine ⟨rfl, ?_⟩); (try refine ⟨rfl, ?_⟩)
  first | (intro acts; rw [hret _ acts rfl rfl rfl]) | rw [hret _ _ rfl rfl rfl]
  exact Steps.refl _
def lw_At (p : Program) (s : State) (m : MethodId) (meth : Method) (c : Code) (b L : Nat) (xs : Nat → Int32) : Prop :=
  p.tables.exec = Jvm.exec ∧ c.code = code ∧ meth.sig.returnType = ret ∧ c.maxLocals = 4 ∧ s.vm.findClass R_law = some m.cls ∧ meth.name = "law" ∧ (∀ w ∈ lw_tbl, w.before #[Value.ref b] s = true) ∧ va_X b L xs s s.heap ∧ b < s.heap.size ∧ meth.locks = false ∧ (Jvm.Cond.and given_1 narrow_1).before #[Value.ref b] s = true
set_option maxRecDepth 100000 in
/-- from the entry, out of what is to be shown of the simple machine alone -/
theorem whole_start {p : Program} {e : Env} {s : State} {m : MethodId} {below : List Frame} {meth : Method} {c : Code} (hpure : zPure) (l : Launch) {b L : Nat} {xs : Nat → Int32} (hL : L ≤ 4096) (C0 : lw_At p s m meth c b L xs) : W p l e room_1 s m #[Value.ref b] below meth c s.heap [] 0 0 (lw_Z below #[Value.ref b] s) (entryFrame m ([Value.ref b] : List Value).toArray 4) := by
  obtain ⟨hx, hb, hr, hml, hown, hnm, hts, hX, hbl, hlocks, hgv⟩ := id C0
  obtain ⟨φ, cy, g1, g2, g3, g4, g5, hXR⟩ := z_ext hL hts hX hbl hgv
  have hA : ∀ q : Nat, s.heap.size ≤ q → (fun q : Nat => s.heap.size ≤ q) q := fun q h => h
  obtain ⟨D, hKc⟩ : ∃ D : va_G, ∀ (k : Nat) (q : vw_C), zcl[k]? = some q → u_Kn s q.1 q.2.1 q.2.2 (D.1 k) (D.2 k) := by
    have key : ∀ k : Nat, ∃ d : ClassId × (Nat → Nat), ∀ q : vw_C, zcl[k]? = some q → u_Kn s q.1 q.2.1 q.2.2 d.1 d.2 := by
      intro k
      cases hq : zcl[k]? with
      | none => exact ⟨(0, fun _ => 0), fun q h => by cases h⟩
      | some q =>
        obtain ⟨h1, -⟩ := zfl_hcl.2 k q hq
        obtain ⟨n, hi⟩ := zinst k q hq
        obtain ⟨c0, iS, h2⟩ := u_known (C := q.1) (T := q.2.1) (N := q.2.2) (n := n) hts (fun w hw => (List.mem_filter.mp (h1 w hw)).1) (hts _ hi)
        exact ⟨(c0, iS), fun q' h => by cases h; exact h2⟩
    obtain ⟨d, hd⟩ := Classical.axiomOfChoice key
    exact ⟨(fun k => (d k).1, fun k => (d k).2), hd⟩
  have hK : va_K D zcl (zty cy) s := by
    refine ⟨hKc, fun k q h => ?_⟩
    match k, h with
    | 0, h => cases h; exact g3
    | 1, h => cases h; exact g4
    | 2, h => cases h; exact g5
    | k + 3, h => cases h
  have hS : va_S (fun q : Nat => s.heap.size ≤ q) s.heap s.heap [] := va_S.rf
  have hP : va_P D zcl [] s.heap := fun k q h => by simp at h
  have hD : va_D (fun q : Nat => s.heap.size ≤ q) [] := ⟨fun i j p q h => by simp at h, fun k q h => by simp at h⟩
  have hW : zWR cy ztf (zxS L) (zxc xs) φ (zxS L) (zxc xs) [] := ⟨g1, rfl, fun i _ => ⟨rfl, rfl⟩, fun i sh h => by cases h⟩
  have hs : zSR φ [.inr (.inr (some 0))] [Value.ref b] := ⟨_, _, rfl, ⟨b, rfl, g2⟩, rfl⟩
  have has : zsum [(.inr (.inr (some 0)) : zV)] ≤ 4 := by decide
  obtain ⟨f, w', hrun⟩ := hpure L xs hL
  have hP311 : (zP 311).2 = (4, (zP 311).2.2) := rfl
  rw [lg_entry_eq]
  refine zfl_walk f p l e room_1 s m #[Value.ref b] below meth c (lw_Z below #[Value.ref b] s) D cy (zxS L) (zxc xs) φ (fun q : Nat => s.heap.size ≤ q) 300 311 (0, zini [.inr (.inr (some 0))] 4, []) (zxS L, zxc xs, 0, 0) (some (.inl 1)) w' (by decide) hrun (zini_len has) ⟨Nat.zero_le _, Nat.zero_le _⟩ hx hb hml (fun w h => hts w (List.mem_filter.mp h).1) hown hnm hK hXR hA zroom_ok ⟨by decide, by decide⟩ ?_ φ [] s.heap [] _ [] ⟨List.prefix_refl _, hW, hP, hD, hS, zini_LR hs has, rfl⟩
  intro ei L' st hei hL' hz hbud φ' ws' H locs ls stk hR
  obtain ⟨hφ, hW', hP', hD', hS', hl', hs'⟩ := hR
  obtain ⟨o1, o2⟩ := zmc_all 311 (by decide) ei hei
  rcases zret_spec o1 o2 hz with ⟨y, t, -, rfl, h2, -, -, -, -, h7⟩ | ⟨y, -, h2, -⟩ | ⟨y, -, h2, -⟩ | ⟨-, h2, -⟩
  · cases h2
    obtain ⟨u, us, rfl, ⟨v, rfl, hv⟩, h8⟩ := hs'
    have h8 : us = [] := h8
    subst h8
    have hv1 : v = 1 := Int32.toInt_inj.mp hv
    subst hv1
    refine va_forget (fun q hq => hS'.2.2 q hq) ?_
    refine W.widen (k := 600000) (n := 7302250) (Nat.le_trans hbud.1 zroom_ok.1) (Nat.le_trans hbud.2 zroom_ok.2) ?_
    exact lw_ret hx hb hr hlocks h7
  · cases h2
  · cases h2
  · cases h2
