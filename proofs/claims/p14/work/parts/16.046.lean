theorem zmck_27 : ∀ i, 10 * 27 ≤ i → i < 10 * 27 + 10 → zMc i := zall20 (P := zMc) 270 zmc_270 zmc_271 zmc_272 zmc_273 zmc_274 zmc_275 zmc_276 zmc_277 zmc_278 zmc_279
theorem zmck_28 : ∀ i, 10 * 28 ≤ i → i < 10 * 28 + 10 → zMc i := zall20 (P := zMc) 280 zmc_280 zmc_281 zmc_282 zmc_283 zmc_284 zmc_285 zmc_286 zmc_287 zmc_288 zmc_289
theorem zmck_29 : ∀ i, 10 * 29 ≤ i → i < 10 * 29 + 10 → zMc i := zall20 (P := zMc) 290 zmc_290 zmc_291 zmc_292 zmc_293 zmc_294 zmc_295 zmc_296 zmc_297 zmc_298 zmc_299
theorem zmck_30 : ∀ i, 10 * 30 ≤ i → i < 10 * 30 + 10 → zMc i := zall20 (P := zMc) 300 zmc_300 zmc_301 zmc_302 zmc_303 zmc_304 zmc_305 zmc_306 zmc_307 zmc_308 zmc_309
theorem zmc_all : ∀ i, i < 312 → zMc i := by
  intro i hi
  by_cases h : i < 310
  · refine zten (N := 31) (fun k hk => ?_) i h
    match k, hk with
    | 0, _ => exact zmck_0
    | 1, _ => exact zmck_1
    | 2, _ => exact zmck_2
    | 3, _ => exact zmck_3
    | 4, _ => exact zmck_4
    | 5, _ => exact zmck_5
    | 6, _ => exact zmck_6
    | 7, _ => exact zmck_7
    | 8, _ => exact zmck_8
    | 9, _ => exact zmck_9
    | 10, _ => exact zmck_10
    | 11, _ => exact zmck_11
    | 12, _ => exact zmck_12
    | 13, _ => exact zmck_13
    | 14, _ => exact zmck_14
    | 15, _ => exact zmck_15
    | 16, _ => exact zmck_16
    | 17, _ => exact zmck_17
    | 18, _ => exact zmck_18
    | 19, _ => exact zmck_19
    | 20, _ => exact zmck_20
    | 21, _ => exact zmck_21
    | 22, _ => exact zmck_22
    | 23, _ => exact zmck_23
    | 24, _ => exact zmck_24
    | 25, _ => exact zmck_25
    | 26, _ => exact zmck_26
    | 27, _ => exact zmck_27
    | 28, _ => exact zmck_28
    | 29, _ => exact zmck_29
    | 30, _ => exact zmck_30
    | k + 31, hk => exact absurd hk (by omega)
  · obtain rfl | rfl : i = 310 ∨ i = 311 := by omega
    · exact zmc_310
    · exact zmc_311
theorem zcwk_0 : ∀ i, 10 * 0 ≤ i → i < 10 * 0 + 10 → zCw i := zall20 (P := zCw) 0 zcw_0 zcw_1 zcw_2 zcw_3 zcw_4 zcw_5 zcw_6 zcw_7 zcw_8 zcw_9
theorem zcwk_1 : ∀ i, 10 * 1 ≤ i → i < 10 * 1 + 10 → zCw i := zall20 (P := zCw) 10 zcw_10 zcw_11 zcw_12 zcw_13 zcw_14 zcw_15 zcw_16 zcw_17 zcw_18 zcw_19
theorem zcwk_2 : ∀ i, 10 * 2 ≤ i → i < 10 * 2 + 10 → zCw i := zall20 (P := zCw) 20 zcw_20 zcw_21 zcw_22 zcw_23 zcw_24 zcw_25 zcw_26 zcw_27 zcw_28 zcw_29
theorem zcwk_3 : ∀ i, 10 * 3 ≤ i → i < 10 * 3 + 10 → zCw i := zall20 (P := zCw) 30 zcw_30 zcw_31 zcw_32 zcw_33 zcw_34 zcw_35 zcw_36 zcw_37 zcw_38 zcw_39
theorem zcwk_4 : ∀ i, 10 * 4 ≤ i → i < 10 * 4 + 10 → zCw i := zall20 (P := zCw) 40 zcw_40 zcw_41 zcw_42 zcw_43 zcw_44 zcw_45 zcw_46 zcw_47 zcw_48 zcw_49
theorem zcwk_5 : ∀ i, 10 * 5 ≤ i → i < 10 * 5 + 10 → zCw i := zall20 (P := zCw) 50 zcw_50 zcw_51 zcw_52 zcw_53 zcw_54 zcw_55 zcw_56 zcw_57 zcw_58 zcw_59
theorem zcwk_6 : ∀ i, 10 * 6 ≤ i → i < 10 * 6 + 10 → zCw i := zall20 (P := zCw) 60 zcw_60 zcw_61 zcw_62 zcw_63 zcw_64 zcw_65 zcw_66 zcw_67 zcw_68 zcw_69
theorem zcwk_7 : ∀ i, 10 * 7 ≤ i → i < 10 * 7 + 10 → zCw i := zall20 (P := zCw) 70 zcw_70 zcw_71 zcw_72 zcw_73 zcw_74 zcw_75 zcw_76 zcw_77 zcw_78 zcw_79
theorem zcwk_8 : ∀ i, 10 * 8 ≤ i → i < 10 * 8 + 10 → zCw i := zall20 (P := zCw) 80 zcw_80 zcw_81 zcw_82 zcw_83 zcw_84 zcw_85 zcw_86 zcw_87 zcw_88 zcw_89
theorem zcwk_9 : ∀ i, 10 * 9 ≤ i → i < 10 * 9 + 10 → zCw i := zall20 (P := zCw) 90 zcw_90 zcw_91 zcw_92 zcw_93 zcw_94 zcw_95 zcw_96 zcw_97 zcw_98 zcw_99
