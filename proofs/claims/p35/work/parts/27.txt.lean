/-! TEXTS: THE MODEL'S SMALL METHODS -/
def qhd (a : Int) : Int := if 2 ≤ a ∧ a ≤ 4 then 8 else if a = 5 ∨ a = 6 then 7 else if a = 7 ∨ a = 8 then 6 else if 9 ≤ a ∧ a ≤ 11 then 5 else if a = 12 then 4 else if a = 13 then 3 else 0
def qsg (a : Int) : Int := if a = 42 then 5 else if a = 47 then 6 else if a = 43 then 7 else if a = 45 then 8 else if a = 60 then 9 else if a = 62 then 10 else if a = 61 then 11 else -1
theorem zts_df {lo x : Int} {df : Nat} {ts : List Nat} (h : x < lo ∨ lo + ts.length ≤ x) : zts lo x df ts = df := by
  unfold zts
  split
  · rfl
  · rw [List.getD_eq_getElem?_getD, List.getElem?_eq_none (by omega)]; rfl
section TX
variable {n d : Nat} {M : zM}
theorem qx_holds (hd : 1 ≤ d) (_hC : qMI M) (a : Int) (_ha : qin a) : qOkP n d 221 [.inl a] 1 M (qRi (fun x => x = qhd a ∧ ((2 ≤ a ∧ a ≤ 13 ∧ 3 ≤ x ∧ x ≤ 8) ∨ (¬ (2 ≤ a ∧ a ≤ 13) ∧ x = 0)))) := by
  have hz := zp_221
  have hd0 : 0 < d := by omega
  show zG n (0, 0) d 221 (0, [.inl a], []) M _
  refine zG_blk (c' := (1, [.inl a], [.inl a])) 1 hd0 hz rfl ?_
  refine zG_sw hd0 hz rfl ?_
  by_cases h : 2 ≤ a ∧ a ≤ 13
  · rcases (by omega : a = 2 ∨ a = 3 ∨ a = 4 ∨ a = 5 ∨ a = 6 ∨ a = 7 ∨ a = 8 ∨ a = 9 ∨ a = 10 ∨ a = 11 ∨ a = 12 ∨ a = 13) with rfl | rfl | rfl | rfl | rfl | rfl | rfl | rfl | rfl | rfl | rfl | rfl
    · exact zG_blk (c' := (66, _, [.inl 8])) 1 hd0 hz rfl (zG_ret hd0 hz rfl rfl ⟨rfl, _, rfl, by decide⟩)
    · exact zG_blk (c' := (69, _, [.inl 8])) 1 hd0 hz rfl (zG_ret hd0 hz rfl rfl ⟨rfl, _, rfl, by decide⟩)
    · exact zG_blk (c' := (72, _, [.inl 8])) 1 hd0 hz rfl (zG_ret hd0 hz rfl rfl ⟨rfl, _, rfl, by decide⟩)
    · exact zG_blk (c' := (75, _, [.inl 7])) 1 hd0 hz rfl (zG_ret hd0 hz rfl rfl ⟨rfl, _, rfl, by decide⟩)
    · exact zG_blk (c' := (78, _, [.inl 7])) 1 hd0 hz rfl (zG_ret hd0 hz rfl rfl ⟨rfl, _, rfl, by decide⟩)
    · exact zG_blk (c' := (81, _, [.inl 6])) 1 hd0 hz rfl (zG_ret hd0 hz rfl rfl ⟨rfl, _, rfl, by decide⟩)
    · exact zG_blk (c' := (84, _, [.inl 6])) 1 hd0 hz rfl (zG_ret hd0 hz rfl rfl ⟨rfl, _, rfl, by decide⟩)
    · exact zG_blk (c' := (86, _, [.inl 5])) 1 hd0 hz rfl (zG_ret hd0 hz rfl rfl ⟨rfl, _, rfl, by decide⟩)
    · exact zG_blk (c' := (88, _, [.inl 5])) 1 hd0 hz rfl (zG_ret hd0 hz rfl rfl ⟨rfl, _, rfl, by decide⟩)
    · exact zG_blk (c' := (90, _, [.inl 5])) 1 hd0 hz rfl (zG_ret hd0 hz rfl rfl ⟨rfl, _, rfl, by decide⟩)
    · exact zG_blk (c' := (92, _, [.inl 4])) 1 hd0 hz rfl (zG_ret hd0 hz rfl rfl ⟨rfl, _, rfl, by decide⟩)
    · exact zG_blk (c' := (94, _, [.inl 3])) 1 hd0 hz rfl (zG_ret hd0 hz rfl rfl ⟨rfl, _, rfl, by decide⟩)
  · rw [zts_df (by simp only [List.length_cons, List.length_nil]; omega)]
    refine zG_blk (c' := (96, [.inl a], [.inl 0])) 1 hd0 hz rfl (zG_ret hd0 hz rfl rfl ⟨rfl, _, rfl, ?_⟩)
    unfold qhd
    refine ⟨?_, by omega⟩
    repeat rw [if_neg (by omega)]
theorem qx_signOf (hd : 1 ≤ d) (_hC : qMI M) (a : Int) (_ha : qin a) : qOkP n d 227 [.inl a] 1 M (qRi (fun x => x = qsg a ∧ (x = -1 ∨ (5 ≤ x ∧ x ≤ 11)))) := by
  have hz := zp_227
  have hd0 : 0 < d := by omega
  show zG n (0, 0) d 227 (0, [.inl a], []) M _
  refine zG_blk (c' := (1, [.inl a], [.inl a])) 1 hd0 hz rfl ?_
  refine zG_sw hd0 hz rfl ?_
  by_cases h : 42 ≤ a ∧ a ≤ 62
  · rcases (by omega : a = 42 ∨ a = 43 ∨ a = 44 ∨ a = 45 ∨ a = 46 ∨ a = 47 ∨ a = 48 ∨ a = 49 ∨ a = 50 ∨ a = 51 ∨ a = 52 ∨ a = 53 ∨ a = 54 ∨ a = 55 ∨ a = 56 ∨ a = 57 ∨ a = 58 ∨ a = 59 ∨ a = 60 ∨ a = 61 ∨ a = 62) with rfl | rfl | rfl | rfl | rfl | rfl | rfl | rfl | rfl | rfl | rfl | rfl | rfl | rfl | rfl | rfl | rfl | rfl | rfl | rfl | rfl
    · exact zG_blk (c' := (101, _, [.inl 5])) 1 hd0 hz rfl (zG_ret hd0 hz rfl rfl ⟨rfl, _, rfl, by decide⟩)
    · exact zG_blk (c' := (107, _, [.inl 7])) 1 hd0 hz rfl (zG_ret hd0 hz rfl rfl ⟨rfl, _, rfl, by decide⟩)
    · exact zG_blk (c' := (121, _, [.inl (-1)])) 1 hd0 hz rfl (zG_ret hd0 hz rfl rfl ⟨rfl, _, rfl, by decide⟩)
    · exact zG_blk (c' := (110, _, [.inl 8])) 1 hd0 hz rfl (zG_ret hd0 hz rfl rfl ⟨rfl, _, rfl, by decide⟩)
    · exact zG_blk (c' := (121, _, [.inl (-1)])) 1 hd0 hz rfl (zG_ret hd0 hz rfl rfl ⟨rfl, _, rfl, by decide⟩)
    · exact zG_blk (c' := (104, _, [.inl 6])) 1 hd0 hz rfl (zG_ret hd0 hz rfl rfl ⟨rfl, _, rfl, by decide⟩)
    · exact zG_blk (c' := (121, _, [.inl (-1)])) 1 hd0 hz rfl (zG_ret hd0 hz rfl rfl ⟨rfl, _, rfl, by decide⟩)
    · exact zG_blk (c' := (121, _, [.inl (-1)])) 1 hd0 hz rfl (zG_ret hd0 hz rfl rfl ⟨rfl, _, rfl, by decide⟩)
    · exact zG_blk (c' := (121, _, [.inl (-1)])) 1 hd0 hz rfl (zG_ret hd0 hz rfl rfl ⟨rfl, _, rfl, by decide⟩)
    · exact zG_blk (c' := (121, _, [.inl (-1)])) 1 hd0 hz rfl (zG_ret hd0 hz rfl rfl ⟨rfl, _, rfl, by decide⟩)
    · exact zG_blk (c' := (121, _, [.inl (-1)])) 1 hd0 hz rfl (zG_ret hd0 hz rfl rfl ⟨rfl, _, rfl, by decide⟩)
    · exact zG_blk (c' := (121, _, [.inl (-1)])) 1 hd0 hz rfl (zG_ret hd0 hz rfl rfl ⟨rfl, _, rfl, by decide⟩)
    · exact zG_blk (c' := (121, _, [.inl (-1)])) 1 hd0 hz rfl (zG_ret hd0 hz rfl rfl ⟨rfl, _, rfl, by decide⟩)
    · exact zG_blk (c' := (121, _, [.inl (-1)])) 1 hd0 hz rfl (zG_ret hd0 hz rfl rfl ⟨rfl, _, rfl, by decide⟩)
    · exact zG_blk (c' := (121, _, [.inl (-1)])) 1 hd0 hz rfl (zG_ret hd0 hz rfl rfl ⟨rfl, _, rfl, by decide⟩)
    · exact zG_blk (c' := (121, _, [.inl (-1)])) 1 hd0 hz rfl (zG_ret hd0 hz rfl rfl ⟨rfl, _, rfl, by decide⟩)
    · exact zG_blk (c' := (121, _, [.inl (-1)])) 1 hd0 hz rfl (zG_ret hd0 hz rfl rfl ⟨rfl, _, rfl, by decide⟩)
    · exact zG_blk (c' := (121, _, [.inl (-1)])) 1 hd0 hz rfl (zG_ret hd0 hz rfl rfl ⟨rfl, _, rfl, by decide⟩)
    · exact zG_blk (c' := (113, _, [.inl 9])) 1 hd0 hz rfl (zG_ret hd0 hz rfl rfl ⟨rfl, _, rfl, by decide⟩)
    · exact zG_blk (c' := (119, _, [.inl 11])) 1 hd0 hz rfl (zG_ret hd0 hz rfl rfl ⟨rfl, _, rfl, by decide⟩)
    · exact zG_blk (c' := (116, _, [.inl 10])) 1 hd0 hz rfl (zG_ret hd0 hz rfl rfl ⟨rfl, _, rfl, by decide⟩)
  · rw [zts_df (by simp only [List.length_cons, List.length_nil]; omega)]
    refine zG_blk (c' := (121, [.inl a], [.inl (-1)])) 1 hd0 hz rfl (zG_ret hd0 hz rfl rfl ⟨rfl, _, rfl, ?_⟩)
    unfold qsg
    refine ⟨?_, by omega⟩
    repeat rw [if_neg (by omega)]
theorem qMI.emit {s x v : Int} (h : qMI M) (hs : s = M 97 7) (h80 : s < 80) (hx : qin x) (hv : qin v) (hn : qNd x ≤ qD M) (h1 : x = 1 → 0 ≤ v ∧ v ≤ 7) : qMI (zput (zput (zput M 105 s.toNat x) 106 s.toNat v) 97 7 (s + 1)) ∧ qD (zput (zput (zput M 105 s.toNat x) 106 s.toNat v) 97 7 (s + 1)) = qD M + qEf x := by
  have h7 := h.steps
  obtain ⟨M3, hM3⟩ : ∃ X : zM, X = zput (zput (zput M 105 s.toNat x) 106 s.toNat v) 97 7 (s + 1) := ⟨_, rfl⟩
  rw [← hM3]
  have e : ∀ i j, i ≠ 105 → i ≠ 106 → i ≠ 97 → M3 i j = M i j := fun i j a b c => by rw [hM3, qput_ne c, qput_ne b, qput_ne a]
  have e7 : M3 97 7 = s + 1 := by rw [hM3]; exact qput_eq
  have e5 : ∀ j, j ≠ s.toNat → M3 105 j = M 105 j := fun j hj => by rw [hM3, qput_ne (by decide), qput_ne (by decide), qput_nk hj]
  have e5' : M3 105 s.toNat = x := by rw [hM3, qput_ne (by decide), qput_ne (by decide), qput_eq]
  have e6 : ∀ j, j ≠ s.toNat → M3 106 j = M 106 j := fun j hj => by rw [hM3, qput_ne (by decide), qput_nk hj, qput_ne (by decide)]
  have e6' : M3 106 s.toNat = v := by rw [hM3, qput_ne (by decide), qput_eq]
  have hdp : ∀ k, k ≤ s.toNat → qDp (M3 105) k = qDp (M 105) k := fun k hk => qDp_congr k (fun j hj => e5 j (by omega))
  have hD : qD M = qDp (M 105) s.toNat := by unfold qD; rw [← hs]
  refine ⟨⟨?_, ?_, ?_, fun r k hr => ?_, ?_⟩, ?_⟩
  · rw [show M3 98 = M 98 from funext fun j => e 98 j (by decide) (by decide) (by decide)]; exact h.1
  · rw [show M3 99 = M 99 from funext fun j => e 99 j (by decide) (by decide) (by decide)]; exact h.2.1
  · rw [show M3 99 = M 99 from funext fun j => e 99 j (by decide) (by decide) (by decide)]; exact h.2.2.1
  · have hq := h.2.2.2.1 r k hr
    rw [hM3]
    rcases qput_or (zput (zput M 105 s.toNat x) 106 s.toNat v) 97 7 r k (s + 1) with a | ⟨rfl, rfl, a⟩
    · rw [a]
      rcases qput_or (zput M 105 s.toNat x) 106 s.toNat r k v with a | ⟨rfl, rfl, a⟩
      · rw [a]
        rcases qput_or M 105 s.toNat r k x with a | ⟨rfl, rfl, a⟩
        · rw [a]; exact hq
        · rw [a]; exact ⟨fun _ => hx, fun h => by omega, fun h => by omega, fun h => by omega, fun h => by omega⟩
      · rw [a]; exact ⟨fun _ => hv, fun h => by omega, fun h => by omega, fun h => by omega, fun h => by omega⟩
    · rw [a]; exact ⟨fun _ => by omega, fun h => by omega, fun _ => ⟨fun h => by omega, fun h => by omega, fun h => by omega, fun h => by omega, fun h => by omega⟩, fun h => by omega, fun h => by omega⟩
  · refine ⟨by rw [e7]; omega, fun j hj => ?_⟩
    rw [e7] at hj
    by_cases hjs : j = s.toNat
    · subst hjs; rw [e5', e6', hdp _ (Nat.le_refl _), ← hD]; exact ⟨hn, h1⟩
    · have := h.2.2.2.2.2 j (by omega)
      rw [e5 j hjs, e6 j hjs, hdp j (by omega)]; exact this
  · have e9 : qD M3 = qDp (M3 105) (s.toNat + 1) := by unfold qD; rw [e7, show (s + 1).toNat = s.toNat + 1 by omega]
    rw [e9, hD]
    show qDp (M3 105) s.toNat + qEf (M3 105 s.toNat) = _
    rw [e5', hdp _ (Nat.le_refl _)]
theorem qx_emits (hd : 1 ≤ d) (hC : qMI M) (x : Int) (hx : qin x) (v : Int) (hv : qin v) (h80 : M 97 7 < 80) (hn : (x = 0 ∨ x = 1) ∨ ((x = 2 ∨ x = 3 ∨ x = 4) ∧ 1 ≤ qD M) ∨ (x = 14 ∧ 3 ≤ qD M) ∨ ((x ≠ 0 ∧ x ≠ 1 ∧ x ≠ 2 ∧ x ≠ 3 ∧ x ≠ 4 ∧ x ≠ 14) ∧ 2 ≤ qD M)) (h1 : x = 1 → 0 ≤ v ∧ v ≤ 7) : qOkN n d 220 [zR 97, .inl x, .inl v] 3 [105, 106, 1007] M (fun r M' => r = none ∧ M' 97 7 = M 97 7 + 1 ∧ (((x = 0 ∨ x = 1) ∧ qD M' = qD M + 1) ∨ ((x = 2 ∨ x = 3 ∨ x = 4) ∧ qD M' = qD M) ∨ (x = 14 ∧ qD M' = qD M - 2) ∨ ((x ≠ 0 ∧ x ≠ 1 ∧ x ≠ 2 ∧ x ≠ 3 ∧ x ≠ 4 ∧ x ≠ 14) ∧ qD M' = qD M - 1))) := by
  have hz := zp_220
  have hd0 : 0 < d := by omega
  have h7 := hC.steps
  have hD0 : 0 ≤ qD M ∨ x = 0 ∨ x = 1 ∨ True := .inr (.inr (.inr trivial))
  have hef := qNd_ef x
  have hq0 : (x = 0 ∨ x = 1) → 0 ≤ qD M := by
    intro _
    unfold qD
    by_cases h0 : (M 97 7).toNat = 0
    · rw [h0]; exact Int.le_refl 0
    · obtain ⟨k, hk⟩ : ∃ k, (M 97 7).toNat = k + 1 := ⟨(M 97 7).toNat - 1, by omega⟩
      have hs := hC.2.2.2.2.2 k (by omega)
      have he := qNd_ef (M 105 k)
      rw [hk]
      show 0 ≤ qDp (M 105) k + qEf (M 105 k)
      omega
  obtain ⟨hm, hDD⟩ := hC.emit rfl h80 hx hv (by omega) h1
  show zG n (0, 0) d 220 (0, [zR 97, .inl x, .inl v], []) M _
  obtain ⟨s, hs⟩ : ∃ s : Int, s = M 97 7 := ⟨_, rfl⟩
  rw [← hs] at hm hDD ⊢
  refine zG_blm (c' := (9, [zR 97, .inl x, .inl v], [.inl x, .inl s, zR 105])) 5 hd0 hz (by subst hs; rfl) ?_
  refine zG_iast hd0 hz rfl rfl (by omega) ?_
  refine zG_blk (c' := (19, [zR 97, .inl x, .inl v], [.inl v, .inl s, zR 106])) 5 hd0 hz (by
    have e : zput M 105 s.toNat x 97 7 = s := by rw [qput_ne (by decide)]; exact hs.symm
    rw [show (.inl s : zV) = .inl (zput M 105 s.toNat x 97 7) from by rw [e]]; rfl) ?_
  refine zG_iast hd0 hz rfl rfl (by omega) ?_
  refine zG_blk (c' := (27, [zR 97, .inl x, .inl v], [.inl (s + 1), zR 97])) 5 hd0 hz (by
    have e : w32 (zput (zput M 105 s.toNat x) 106 s.toNat v 97 7 + 1) = s + 1 := by rw [qput_ne (by decide), qput_ne (by decide), ← hs]; exact w32_id (by omega)
    rw [show (.inl (s + 1) : zV) = .inl (w32 (zput (zput M 105 s.toNat x) 106 s.toNat v 97 7 + 1)) from by rw [e]]; rfl) ?_
  refine zG_putf (.inl rfl) hd0 hz rfl (by decide) rfl rfl ?_
  refine zG_ret hd0 hz rfl rfl ⟨⟨hm, ?_⟩, rfl, qput_eq, ?_⟩
  · exact ((qFm.rfl.pa (by decide) (by decide)).pa (by decide) (by decide)).put (by decide)
  · rw [hDD]; omega
theorem qx_waitsWith (hd : 1 ≤ d) (hC : qMI M) (x : Int) (hx : qin x) (h80 : 0 ≤ M 97 10 ∧ M 97 10 < 90) : qOkN n d 223 [zR 97, .inl x] 2 [107, 1010] M (fun r M' => r = none ∧ M' 97 10 = M 97 10 + 1 ∧ qWt M' = qWt M + qwt x ∧ ((((5 ≤ x ∧ x ≤ 13) ∨ x = 15 ∨ x = 16) ∧ qwt x = 1) ∨ (x = 17 ∧ qwt x = 2) ∨ ((x < 5 ∨ x = 14 ∨ 17 < x) ∧ qwt x = 0))) := by
  have hz := zp_223
  have hd0 : 0 < d := by omega
  have hwt := qwt_is x
  show zG n (0, 0) d 223 (0, [zR 97, .inl x], []) M _
  obtain ⟨s, hs⟩ : ∃ s : Int, s = M 97 10 := ⟨_, rfl⟩
  rw [← hs] at h80 ⊢
  refine zG_blm (c' := (9, [zR 97, .inl x], [.inl x, .inl s, zR 107])) 5 hd0 hz (by subst hs; rfl) ?_
  refine zG_iast hd0 hz rfl rfl (by omega) ?_
  refine zG_blk (c' := (17, [zR 97, .inl x], [.inl (s + 1), zR 97])) 5 hd0 hz (by
    have e : w32 (zput M 107 s.toNat x 97 10 + 1) = s + 1 := by rw [qput_ne (by decide), ← hs]; exact w32_id (by omega)
    rw [show (.inl (s + 1) : zV) = .inl (w32 (zput M 107 s.toNat x 97 10 + 1)) from by rw [e]]; rfl) ?_
  refine zG_putf (.inl rfl) hd0 hz rfl (by decide) rfl rfl ?_
  refine zG_ret hd0 hz rfl rfl ⟨⟨?_, ?_⟩, rfl, qput_eq, ?_, by omega⟩
  · refine (hC.put (by decide) (qCd_a (by decide) (by decide)) ?_).put (by decide) (by decide) ?_
    · exact ⟨fun _ => hx, fun h => by omega, fun h => by omega, fun h => by omega, fun h => by omega⟩
    · exact ⟨fun _ => by omega, fun h => by omega, fun _ => ⟨fun h => by omega, fun h => by omega, fun h => by omega, fun h => by omega, fun h => by omega⟩, fun h => by omega, fun h => by omega⟩
  · exact (qFm.rfl.pa (by decide) (by decide)).put (by decide)
  · unfold qWt
    rw [qput_eq, ← hs, show (s + 1).toNat = s.toNat + 1 by omega]
    have e1 : zput (zput M 107 s.toNat x) 97 10 (s + 1) 107 = zput M 107 s.toNat x 107 := by funext j; exact qput_ne (by decide)
    rw [e1]
    show qWs _ s.toNat + qwt _ = _
    rw [qput_eq, qWs_congr (g := M 107) s.toNat (fun j hj => qput_nk (by omega))]
end TX
