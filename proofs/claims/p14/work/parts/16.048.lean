theorem zcwk_25 : ∀ i, 10 * 25 ≤ i → i < 10 * 25 + 10 → zCw i := zall20 (P := zCw) 250 zcw_250 zcw_251 zcw_252 zcw_253 zcw_254 zcw_255 zcw_256 zcw_257 zcw_258 zcw_259
theorem zcwk_26 : ∀ i, 10 * 26 ≤ i → i < 10 * 26 + 10 → zCw i := zall20 (P := zCw) 260 zcw_260 zcw_261 zcw_262 zcw_263 zcw_264 zcw_265 zcw_266 zcw_267 zcw_268 zcw_269
theorem zcwk_27 : ∀ i, 10 * 27 ≤ i → i < 10 * 27 + 10 → zCw i := zall20 (P := zCw) 270 zcw_270 zcw_271 zcw_272 zcw_273 zcw_274 zcw_275 zcw_276 zcw_277 zcw_278 zcw_279
theorem zcwk_28 : ∀ i, 10 * 28 ≤ i → i < 10 * 28 + 10 → zCw i := zall20 (P := zCw) 280 zcw_280 zcw_281 zcw_282 zcw_283 zcw_284 zcw_285 zcw_286 zcw_287 zcw_288 zcw_289
theorem zcwk_29 : ∀ i, 10 * 29 ≤ i → i < 10 * 29 + 10 → zCw i := zall20 (P := zCw) 290 zcw_290 zcw_291 zcw_292 zcw_293 zcw_294 zcw_295 zcw_296 zcw_297 zcw_298 zcw_299
theorem zcwk_30 : ∀ i, 10 * 30 ≤ i → i < 10 * 30 + 10 → zCw i := zall20 (P := zCw) 300 zcw_300 zcw_301 zcw_302 zcw_303 zcw_304 zcw_305 zcw_306 zcw_307 zcw_308 zcw_309
theorem zcw_all : ∀ i, i < 311 → zCw i := by
  intro i hi
  by_cases h : i < 310
  · refine zten (N := 31) (fun k hk => ?_) i h
    match k, hk with
    | 0, _ => exact zcwk_0
    | 1, _ => exact zcwk_1
    | 2, _ => exact zcwk_2
    | 3, _ => exact zcwk_3
    | 4, _ => exact zcwk_4
    | 5, _ => exact zcwk_5
    | 6, _ => exact zcwk_6
    | 7, _ => exact zcwk_7
    | 8, _ => exact zcwk_8
    | 9, _ => exact zcwk_9
    | 10, _ => exact zcwk_10
    | 11, _ => exact zcwk_11
    | 12, _ => exact zcwk_12
    | 13, _ => exact zcwk_13
    | 14, _ => exact zcwk_14
    | 15, _ => exact zcwk_15
    | 16, _ => exact zcwk_16
    | 17, _ => exact zcwk_17
    | 18, _ => exact zcwk_18
    | 19, _ => exact zcwk_19
    | 20, _ => exact zcwk_20
    | 21, _ => exact zcwk_21
    | 22, _ => exact zcwk_22
    | 23, _ => exact zcwk_23
    | 24, _ => exact zcwk_24
    | 25, _ => exact zcwk_25
    | 26, _ => exact zcwk_26
    | 27, _ => exact zcwk_27
    | 28, _ => exact zcwk_28
    | 29, _ => exact zcwk_29
    | 30, _ => exact zcwk_30
    | k + 31, hk => exact absurd hk (by omega)
  · obtain rfl : i = 310 := by omega
    exact zcw_310
def zowns : List String := ["SenateRoll$Doubts", "SenateRoll$Habits", "SenateRoll$House", "SenateRoll$Judge", "SenateRoll$Known", "SenateRoll$Machine", "SenateRoll$Papers", "SenateRoll$Reader", "SenateRoll$Rows", "SenateRoll$Ways", "SenateRoll", "SenateRollModel", "java/lang/Integer", "java/util/Arrays", "java/lang/String", "java/lang/StringLatin1", "jdk/internal/util/Preconditions", "SenateRollLaw"]
set_option maxRecDepth 100000 in
theorem zown_ok : zYL.all (fun y => decide (zowns.getD y.2.2.2.2 "" = y.1.cls) && Nat.blt y.2.2.2.2 18) = true := by decide +kernel
theorem zpool_of {own : String} {ps : List zQc} {cs : List (List (Nat × Nat))} (h : (Nat.beq ps.length cs.length && (ps.zip cs).all (fun q => zpB own q.1 q.2)) = true) : ∀ q ∈ ps, zcpOk zTG zcl ztf ztsl zstt ztxt own q ∧ zcOk zTG zcl znel zfy zfr zU own q := by
  rw [Bool.and_eq_true] at h
  intro q hq
  obtain ⟨i, hi⟩ := List.getElem?_of_mem hq
  have hl := (List.getElem?_eq_some_iff.mp hi).1
  have hl2 : i < cs.length := by rw [← Nat.eq_of_beq_eq_true h.1]; exact hl
  have hm : (q, cs[i]) ∈ ps.zip cs := List.mem_of_getElem? (i := i) (by rw [List.getElem?_zip_eq_some]; exact ⟨hi, List.getElem?_eq_getElem hl2⟩)
  exact zpB_ok (List.all_eq_true.mp h.2 _ hm)
set_option maxRecDepth 100000 in
theorem zpool_all : ∀ n, n < 18 → ∀ q ∈ zpools.getD n [], zcpOk zTG zcl ztf ztsl zstt ztxt (zowns.getD n "") q ∧ zcOk zTG zcl znel zfy zfr zU (zowns.getD n "") q := by
  intro n hn
  match n, hn with
  | 0, _ => exact zpool_of zpool_0_ok
  | 1, _ => exact zpool_of zpool_1_ok
  | 2, _ => exact zpool_of zpool_2_ok
  | 3, _ => exact zpool_of zpool_3_ok
  | 4, _ => exact zpool_of zpool_4_ok
  | 5, _ => exact zpool_of zpool_5_ok
  | 6, _ => exact zpool_of zpool_6_ok
  | 7, _ => exact zpool_of zpool_7_ok
  | 8, _ => exact zpool_of zpool_8_ok
  | 9, _ => exact zpool_of zpool_9_ok
  | 10, _ => exact zpool_of zpool_10_ok
  | 11, _ => exact zpool_of zpool_11_ok
  | 12, _ => exact zpool_of zpool_12_ok
  | 13, _ => exact zpool_of zpool_13_ok
  | 14, _ => exact zpool_of zpool_14_ok
  | 15, _ => exact zpool_of zpool_15_ok
  | 16, _ => exact zpool_of zpool_16_ok
  | 17, _ => exact zpool_of zpool_17_ok
  | n + 18, hn => exact absurd hn (by omega)
theorem zwl_of {ws : List Cond} {cs : List (Nat × Nat)} (h : (Nat.beq ws.length cs.length && (ws.zip cs).all (fun q => decide ((zch q.2.1)[q.2.2]? = some q.1))) = true) : ∀ w ∈ ws, w ∈ lw_tbl := by
  rw [Bool.and_eq_true] at h
  intro q hq
  obtain ⟨i, hi⟩ := List.getElem?_of_mem hq
  have hl := (List.getElem?_eq_some_iff.mp hi).1
  have hl2 : i < cs.length := by rw [← Nat.eq_of_beq_eq_true h.1]; exact hl
  have hm : (q, cs[i]) ∈ ws.zip cs := List.mem_of_getElem? (i := i) (by rw [List.getElem?_zip_eq_some]; exact ⟨hi, List.getElem?_eq_getElem hl2⟩)
  have r := of_decide_eq_true (List.all_eq_true.mp h.2 _ hm)
  exact zch_sub _ _ (List.mem_of_getElem? r)
set_option maxRecDepth 100000 in
theorem zinl_0 : ∀ w ∈ u_ws RX0 TX0 3, w ∈ lw_tbl := zwl_of (cs := [(2, 94), (2, 96), (2, 98)]) (by decide +kernel)
set_option maxRecDepth 100000 in
theorem zgd_0 : (u_ws RX0 TX0 3).all goodWord = true := by decide +kernel
set_option maxRecDepth 100000 in
theorem zin_0 : ∀ w ∈ u_ws RX0 TX0 3, w ∈ zTG := fun w h => List.mem_filter.mpr ⟨zinl_0 w h, List.all_eq_true.mp zgd_0 w h⟩
