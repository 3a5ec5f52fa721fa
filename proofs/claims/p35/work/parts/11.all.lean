theorem ztake {α : Type} {l : List α} {k : Nat} {x : α} (h : l[k]? = some x) : (l.take (k + 1)).reverse = x :: (l.take k).reverse := by
  rw [List.take_add_one, h]
  simp
section ZALL
variable {TG : List Cond} {cl : List vw_C} {tf : Nat → Nat → FieldType} {tsl : Nat → List Nat} {stt : List (String × String × String × Nat × Nat × Int)} {txt : List (String × Nat × String × Nat)} {nel : List (String × Nat × MethodName × String)}
variable {P : Nat → zMd} {zy : Nat → MethodName} {zb : Nat → ByteArray} {zrt : Nat → Option FieldType} {zcp : Nat → List zQc} {isI : Nat → Bool} {V U : Nat → Prop}
set_option maxHeartbeats 4000000 in
theorem z_all (hcl : zCl TG cl tf) (hgood : ∀ w ∈ TG, goodWord w = true) (harr : ∀ at_ : ArrayType, (zti at_).isSome → Jvm.Cond.arrayClass (newarray.typeOf at_) ∈ TG) (hV : ∀ μ, V μ → zmOk TG cl tf tsl stt txt nel P zy zb zrt zcp isI U μ) (hU : ∀ μ, U μ → V μ ∧ znOk TG P zy zb zrt μ) : ∀ f, zWk TG cl tf stt txt nel P zy zb V f := by
  intro f
  induction f with
  | zero =>
    intro p l e R s m args below meth c Q D cy xS xc φ0 A d μ cfg w r w' hμ hrun
    cases hrun
  | succ f ih =>
    intro p l e R s m args below meth c Q D cy xS xc φ0 A d μ cfg w r w' hμ hrun hlen hbud hx hb hml hts hown hnm hK hX hA hR hd hret
    obtain ⟨o1, o2, o3, o4⟩ := hV μ hμ
    unfold zrun at hrun
    split at hrun
    · cases hrun
    · rename_i ei hat
      obtain ⟨hei, hpc⟩ := zat_spec hat
      obtain ⟨pc, L, st⟩ := cfg
      have hpc : ei.1 = pc := hpc
      subst hpc
      have hlen : L.length = (P μ).2.1 := hlen
      split at hrun
      · cases hrun
      · rename_i c' w1 hz
        have hkeep := zst_keep hz hbud
        refine z_step hx hb (by rw [hml, hlen]) hts hcl hown hK hX hA (fun at_ h => hts _ (harr at_ h)) (fun q hq => (o2 q hq).1) hbud (fun h => by rw [hnm]; exact o3 h) hR (fun h => ?_) (o1 ei hei).1 (o1 ei hei).2 hz ?_
        · have h0 : d ≠ 0 := by simpa using h
          omega
        · exact ih p l e R s m args below meth c Q D cy xS xc φ0 A d μ c' w1 r w' hμ hrun (by rw [hkeep.1]; exact hlen) hkeep.2 hx hb hml hts hown hnm hK hX hA hR hd hret
      · rename_i v hz
        cases hrun
        exact hret ei L st hei hlen hz hbud
      · rename_i y as c' hz
        split at hrun
        case isFalse => cases hrun
        rename_i hroom
        split at hrun
        case h_1 => cases hrun
        rename_i v wy hcall
        obtain ⟨hd1, z, b, hins, hb2, hq1, hq2, hq4, hq5, hq6, hq7, hq8⟩ := zst_call hz
        have hd0 : d ≠ 0 := by simpa using hd1
        have has : as = (st.take b).reverse := hq7
        have hc' : c' = (ei.2.2.1, L, st.drop b) := hq8
        have hy : y = ei.2.2.2.1 := hq1
        have hq2 : y < 9000 := hq2
        have hq4 : b ≤ st.length := hq4
        have hq5 : zsum (st.drop b) ≤ 8 := hq5
        subst hc'
        intro φ ws H locs ls stk hRl
        obtain ⟨hφ, hW, hP, hD, hS, hl, hs⟩ := hRl
        have hs : zSR φ st stk := hs
        have hl : zLR φ L ls := hl
        obtain ⟨s1, s2⟩ := zSR.split b hs
        have hvals : zSR φ as (stk.take b).reverse := by rw [has]; exact zSR.rev s1
        have hstk : stk = (stk.take b).reverse.reverse ++ stk.drop b := by simp
        have hls : ls.size = (P μ).2.1 := by obtain ⟨lv, h1, -⟩ := hl; rw [h1.1, hlen]
        have hW8 : ((stk.drop b).map fun v => v.category).sum ≤ 8 := by rw [s2.sum]; exact hq5
        have hFc : ∀ q, va_A ws H.size q → A q := by
          intro q h
          rcases h with ⟨k, e, h⟩ | h
          · exact hD.2 k _ h
          · exact hA q (Nat.le_trans hS.1 h)
        have hX' : ∀ T : State, T.heap = H → s.WarmedH T.vm → zXR stt txt nel xS xc φ (va_A ws H.size) T T.heap := fun T hT hWm => by
          rw [hT]
          exact hX.moved hφ hWm.alike (fun a h1 h2 => hS.2.1 a h1 h2) hFc (fun q _ a h => h.warm hWm) (fun q _ h => va_Nw.warmM hWm h)
        have hPc : ∀ T : State, T.heap = H → s.WarmedH T.vm → zPr stt txt nel D cl cy xS xc φ ws H.size (stk.take b).reverse (stk.take b).reverse.toArray T := fun T hT hWm => ⟨rfl, by rw [hT], by rw [hT]; exact hP, va_K.moved hWm.alike hK, hD.weaken (fun _ _ _ _ => trivial), hX' T hT hWm⟩
        have fix : CallFix p m c (zb μ) (P μ).2.1 s args TG (zy μ).cls := ⟨hx, hb, hml, hown, hts⟩
        have hf : w.2.2.1 + (P y).2.2.1 ≤ R.cells ∧ w.2.2.2 + (P y).2.2.2 ≤ R.slots := ⟨Nat.le_trans hroom.2.1 hR.1, Nat.le_trans hroom.2.2 hR.2⟩
        have goG : ∀ (rt : Option FieldType), Cond.code (zy y) (zb y) (P y).2.1 rt ∈ TG → GoodIn TG (zws TG (zy y) (zb y) (P y).2.1 rt) := by
          intro rt h w hw
          rcases List.mem_cons.mp hw with rfl | hw
          · exact ⟨h, good_of_word (hgood _ h)⟩
          · exact ⟨hw, good_of_word (hgood _ hw)⟩
        have fin : V y → va_Run p l e R s m args below meth c H locs w.2.2.1 w.2.2.2 (P y).2.2.1 (P y).2.2.2 (F0 m ei.1 ls stk) (stk.drop b) (zQo D cl cy tf xS xc φ ws H.size v wy.1 wy.2.1 (stk.take b).reverse.toArray) (va_A ws H.size) → ei.2.2.1 = ei.1 + 3 → W p l e R s m args below meth c H locs w.2.2.1 w.2.2.2 Q (F0 m ei.1 ls stk) := by
          intro hVy hrn hn3
          refine z_call hrn hS hFc (fun v' φ' ws' H1 locs1 g1 g2 g3 g4 g5 g6 => ?_)
          have hsr : zSR φ' (v.toList ++ st.drop b) (v'.toList ++ stk.drop b) := by
            refine zSR.app ?_ (s2.up g2)
            cases v with
            | none =>
              have g1 : v' = none := g1
              subst g1
              exact rfl
            | some x =>
              obtain ⟨u, rfl, h2⟩ := g1
              exact ⟨u, [], rfl, h2, rfl⟩
          have := ih p l e R s m args below meth c Q D cy xS xc φ0 A d μ (ei.2.2.1, L, v.toList ++ st.drop b) (wy.1, wy.2.1, w.2.2.1 + (P y).2.2.1, w.2.2.2 + (P y).2.2.2) r w' hμ hrun hlen hroom.2 hx hb hml hts hown hnm hK hX hA hR hd hret φ' ws' H1 locs1 ls (v'.toList ++ stk.drop b) ⟨hφ.trans g2, g5, g3, g4, g6, hl.up g2, hsr⟩
          rw [hn3] at this
          exact this
        have met : V y → znOk TG P zy zb zrt y → Met l (zy y) (zws TG (zy y) (zb y) (P y).2.1 (zrt y)) (zrm (d - 1) (P y).2.2.1 (P y).2.2.2) (zPr stt txt nel D cl cy xS xc φ ws H.size (stk.take b).reverse) (zQo D cl cy tf xS xc φ ws H.size v wy.1 wy.2.1) (P y).2.2.1 (P y).2.2.2 (va_A ws H.size) := fun hVy hny =>
          z_met ih hV hVy hny hroom.1 (show zrun P f (d - 1) y (0, zini as (P y).2.1, []) (w.1, w.2.1, 0, 0) = some (v, (wy.1, wy.2.1, wy.2.2.1, wy.2.2.2)) from hcall) l D cy xS xc φ ws H.size _ hW hvals
        have room : (P y).2.1 ≤ 31 → (zrm (d - 1) (P y).2.2.1 (P y).2.2.2).frames + 1 ≤ R.frames ∧ 8 + ((P y).2.1 + 11) + (zrm (d - 1) (P y).2.2.1 (P y).2.2.2).locals ≤ R.locals := by
          intro h31
          show d - 1 + 1 ≤ R.frames ∧ 8 + ((P y).2.1 + 11) + 50 * (d - 1) ≤ R.locals
          omega
        have hbl : as.length = b := by rw [has]; simp; omega
        have hvl : (stk.take b).reverse.length = b := by rw [hvals.len, hbl]
        obtain ⟨pc, ins, n, x⟩ := ei
        have hdc := (o1 _ hei).1
        have hok := (o1 _ hei).2
        rcases hins with ⟨i, hi, hz0⟩ | ⟨i, hi, hz0⟩ | ⟨i, hi, hz0⟩
        · have hi : ins = .invokevirtual i := hi
          subst hi
          obtain ⟨⟨c0, h1, h2, h3, h4, h5⟩, -⟩ := ziv_spec hdc hok
          have hb3 : b = x.2.1 := hb2
          have hy3 : y = x.1 := hy
          have hz1 : z = c0 := by rw [hz0]; show x.2.2.2.headD 0 = c0; rw [h3]; rfl
          obtain ⟨hVy0, k, hk, hcase⟩ := (o2 _ h5).2 rfl
          rw [← hy3] at hVy0 hk hcase
          obtain ⟨hVy, hny⟩ := hU y hVy0
          obtain ⟨n1, n2, n3, n4⟩ := id hny
          rcases hcase with ⟨q1, -⟩ | ⟨q1, -⟩ | ⟨q1, -⟩ | ⟨c, q1, q2, q3, q4, q5, q6⟩
          · have q1 : (c0 : Int) = 0 := q1
            omega
          · have q1 : (c0 : Int) = -1 := q1
            omega
          · have q1 : (c0 : Int) = -2 := q1
            omega
          · have q1 : (c0 : Int) = ((c + 1 : Nat) : Int) := q1
            have hc0 : c0 = c + 1 := by omega
            have q2 : x.2.1 = k + 1 := q2
            have hbk : b = k + 1 := by omega
            subst hbk
            have h99 : c ≠ 999 := by
              rcases q6 with ⟨h, -⟩ | ⟨h, -⟩
              · omega
              · exact h
            rw [hz1, hc0] at hq6
            have hst : ∃ (rr : Nat) (fs : List zFT), st[k]? = some (.inr (.inr (some rr))) ∧ w.1[rr]? = some (.inr (c, fs)) := by
              unfold zisA at hq6
              rw [if_neg (by omega)] at hq6
              rw [show k + 1 - 1 = k by omega] at hq6
              split at hq6
              · rename_i rr hrr
                rw [if_neg (by omega)] at hq6
                split at hq6
                · rename_i c9 fs9 h9
                  have : c9 = c := by simpa using hq6
                  subst this
                  exact ⟨rr, fs9, hrr, h9⟩
                · cases hq6
              · cases hq6
            obtain ⟨rr, fs, hst, hsh⟩ := hst
            have has2 : as = .inr (.inr (some rr)) :: (st.take k).reverse := by rw [has]; exact ztake hst
            have hv2 := hvals
            rw [has2] at hv2
            obtain ⟨u, As, e1, ⟨a, rfl, ha⟩, hAs⟩ := hv2
            have hcell : ∃ cellB : Cell, H[a]? = some cellB ∧ cellB.vm.isStatics = false ∧ s.vm.findClass (zy y).cls = some cellB.cls := by
              by_cases h8 : rr < 8
              · have g1 := (hW.2.2.1 rr h8).1
                rw [hsh] at g1
                obtain ⟨hc, a', q, v9, -, g3, -, g5, -⟩ := hX.2.1 rr c fs g1.symm
                cases (zpre hφ g3).symm.trans ha
                rcases q6 with ⟨-, q7⟩ | ⟨-, T, N, q7⟩
                · rw [q7]
                  obtain ⟨cell, k1, k2, k3, -⟩ := g5.kept hS.2.1
                  exact ⟨cell, k1, k2, k3⟩
                · rw [hc, hcl.1] at q7
                  cases q7
              · obtain ⟨j, a', e', rfl, g1, g2, fs', rfl, g4⟩ := hW.at8 hsh (by omega)
                cases g2.symm.trans ha
                rcases q6 with ⟨hc, -⟩ | ⟨-, T, N, q7⟩
                · obtain ⟨r', k1, -⟩ := hP j _ g1
                  rw [hc, hcl.1] at k1
                  cases k1
                · exact va_recv hK hP q7 g1
            have hrun2 := va_runV (l := l) (e := e) (R := R) (below := below) (meth := meth) (locs := locs) (As := As) (rest := stk.drop (k + 1)) (g := F0 m pc ls stk) (C := (zy y).cls) fix (met hVy hny) ⟨callB_of (index := i) k hts (goG _ n2) rfl rfl rfl (hts _ n3) (hts _ q3) ⟨n4.1, n4.2, hk⟩ (room (hV y hVy).2.2.2), hts _ q4, hts _ q5⟩ ⟨zPr_blind, hcell, fun T hT hWm => by have := hPc T hT hWm; rw [e1] at this; rw [e1]; exact this⟩ rfl (by have := hvl; rw [e1] at this; simpa using this) hls (by show stk = As.reverse ++ .ref a :: stk.drop (k + 1); rw [e1] at hstk; simpa using hstk) (by show 2 * 0 + _ ≤ 8; omega) h1 hf
            rw [← e1] at hrun2
            exact fin hVy hrun2 h2
        · have hi : ins = .invokespecial i := hi
          subst hi
          have hok2 : (zdl (zb μ) pc (.invokespecial i) 3 n && (if x.1 = 9001 then zin (zcp μ) (i, 9, 0, 0, 0) else Nat.blt x.1 9000 && (zin (zcp μ) (i, 1, x.1, x.2.1, -1) || zin (zcp μ) (i, 1, x.1, x.2.1, -2)))) = true := hok
          have hy3 : y = x.1 := hy
          have hb3 : b = x.2.1 := hb2
          rw [if_neg (by rw [← hy3]; omega)] at hok2
          simp only [Bool.and_eq_true, Bool.or_eq_true] at hok2
          obtain ⟨h1, h2⟩ := zdl_spec hdc hok2.1
          have hz1 : z = 1000 := hz0
          rw [hz1] at hq6
          have hst : ∃ rr : Nat, st[b - 1]? = some (.inr (.inr (some rr))) := by
            unfold zisA at hq6
            rw [if_neg (by omega)] at hq6
            split at hq6
            · rename_i rr hrr
              exact ⟨rr, hrr⟩
            · cases hq6
          obtain ⟨rr, hst⟩ := hst
          rcases hok2.2.2 with h5 | h5
          · have h5 := zin_spec h5
            obtain ⟨hVy0, k, hk, hcase⟩ := (o2 _ h5).2 rfl
            rw [← hy3] at hVy0 hk hcase
            obtain ⟨hVy, hny⟩ := hU y hVy0
            obtain ⟨n1, n2, n3, n4⟩ := id hny
            rcases hcase with ⟨q1, -⟩ | ⟨-, q2, q3, q4, q5, q6⟩ | ⟨q1, -⟩ | ⟨c, q1, -⟩
            · exact absurd (show (-1 : Int) = 0 from q1) (by decide)
            · have q2 : x.2.1 = k + 1 := q2
              have hbk : b = k + 1 := by omega
              subst hbk
              have has2 : as = .inr (.inr (some rr)) :: (st.take k).reverse := by rw [has]; exact ztake hst
              have hv2 := hvals
              rw [has2] at hv2
              obtain ⟨u, As, e1, ⟨a, rfl, ha⟩, hAs⟩ := hv2
              have hM := met hVy hny
              rw [q6] at hM n2
              have hrun2 := va_runI (l := l) (e := e) (R := R) (below := below) (meth := meth) (locs := locs) (As := As) (rest := stk.drop (k + 1)) (g := F0 m pc ls stk) fix hM ⟨callB_of (index := i) k hts (goG _ n2) rfl rfl rfl (hts _ n3) (hts _ q3) ⟨n4.1, n4.2, hk⟩ (room (hV y hVy).2.2.2), q5, hts _ q4⟩ ⟨zPr_blind, fun T hT hWm => by have := hPc T hT hWm; rw [e1] at this; rw [e1]; exact this⟩ rfl (by have := hvl; rw [e1] at this; simpa using this) hls (by show stk = As.reverse ++ .ref a :: stk.drop (k + 1); rw [e1] at hstk; simpa using hstk) (by show 2 * 0 + _ ≤ 8; omega) h1 hf
              rw [← e1] at hrun2
              exact fin hVy hrun2 h2
            · exact absurd (show (-1 : Int) = -2 from q1) (by decide)
            · have q1 : (-1 : Int) = ((c + 1 : Nat) : Int) := q1
              omega
          · have h5 := zin_spec h5
            obtain ⟨hVy0, k, hk, hcase⟩ := (o2 _ h5).2 rfl
            rw [← hy3] at hVy0 hk hcase
            obtain ⟨hVy, hny⟩ := hU y hVy0
            obtain ⟨n1, n2, n3, n4⟩ := id hny
            rcases hcase with ⟨q1, -⟩ | ⟨q1, -⟩ | ⟨-, q2, ⟨hh, q3⟩, q4, q5, q6⟩ | ⟨c, q1, -⟩
            · exact absurd (show (-2 : Int) = 0 from q1) (by decide)
            · exact absurd (show (-2 : Int) = -1 from q1) (by decide)
            · have q2 : x.2.1 = k + 1 := q2
              have hbk : b = k + 1 := by omega
              subst hbk
              have has2 : as = .inr (.inr (some rr)) :: (st.take k).reverse := by rw [has]; exact ztake hst
              have hv2 := hvals
              rw [has2] at hv2
              obtain ⟨u, As, e1, ⟨a, rfl, ha⟩, hAs⟩ := hv2
              have hM := met hVy hny
              rw [q6] at hM n2
              have hrun2 := va_runIN (l := l) (e := e) (R := R) (below := below) (meth := meth) (locs := locs) (As := As) (rest := stk.drop (k + 1)) (g := F0 m pc ls stk) fix hM ⟨va_cnB (index := i) k hts (goG _ n2) rfl rfl rfl (hX.2.2.2.2 _ q3) (hts _ n3) ⟨n4.1, n4.2, hk⟩ (room (hV y hVy).2.2.2), q5, hts _ q4⟩ ⟨zPr_blind, fun T hT hWm => by have := hPc T hT hWm; rw [e1] at this; rw [e1]; exact this⟩ rfl (by have := hvl; rw [e1] at this; simpa using this) hls (by show stk = As.reverse ++ .ref a :: stk.drop (k + 1); rw [e1] at hstk; simpa using hstk) (by show 2 * 0 + _ ≤ 8; omega) h1 hf
              rw [← e1] at hrun2
              exact fin hVy hrun2 h2
            · have q1 : (-2 : Int) = ((c + 1 : Nat) : Int) := q1
              omega
        · have hi : ins = .invokestatic i := hi
          subst hi
          have hok2 : (zdl (zb μ) pc (.invokestatic i) 3 n && (if x.1 = 9000 then zin (zcp μ) (i, 8, 0, 0, 0) else if 9000 ≤ x.1 then zin (zcp μ) (i, 11, x.1, 0, 0) else zin (zcp μ) (i, 1, x.1, x.2.1, 0))) = true := hok
          have hy3 : y = x.1 := hy
          have hb3 : b = x.2.1 := hb2
          rw [if_neg (by rw [← hy3]; omega), if_neg (by rw [← hy3]; omega)] at hok2
          simp only [Bool.and_eq_true] at hok2
          obtain ⟨h1, h2⟩ := zdl_spec hdc hok2.1
          have h5 := zin_spec hok2.2
          obtain ⟨hVy0, k, hk, hcase⟩ := (o2 _ h5).2 rfl
          rw [← hy3] at hVy0 hk hcase
          obtain ⟨hVy, hny⟩ := hU y hVy0
          obtain ⟨n1, n2, n3, n4⟩ := id hny
          rcases hcase with ⟨-, q2, q3, q4⟩ | ⟨q1, -⟩ | ⟨q1, -⟩ | ⟨c, q1, -⟩
          · have q2 : x.2.1 = k := q2
            exact fin hVy (va_runS (l := l) (e := e) (R := R) (below := below) (meth := meth) (locs := locs) (As := (stk.take b).reverse) (rest := stk.drop b) (g := F0 m pc ls stk) fix (met hVy hny) ⟨callB_of (index := i) k hts (goG _ n2) rfl rfl rfl (hts _ n3) (hts _ q3) ⟨n4.1, n4.2, hk⟩ (room (hV y hVy).2.2.2), hts _ q4⟩ ⟨zPr_blind, hPc⟩ rfl (by rw [hvl]; omega) hls hstk (by show 2 * 0 + _ ≤ 8; omega) h1 hf) h2
          · exact absurd (show (0 : Int) = -1 from q1) (by decide)
          · exact absurd (show (0 : Int) = -2 from q1) (by decide)
          · have q1 : (0 : Int) = ((c + 1 : Nat) : Int) := q1
            omega
end ZALL
