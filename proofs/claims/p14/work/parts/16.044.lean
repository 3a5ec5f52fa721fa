set_option maxRecDepth 100000 in
theorem zcw_310 : zCw 310 := ztg (c := 4) (j := 105) (w := Cond.code yJ3_checkIndex_8e157 cJ3_checkIndex_8e157 3 (some .int)) rfl rfl
set_option maxRecDepth 100000 in
theorem zmc_310 : zMc 310 := zmc_of zck_J3_checkIndex_8e157
set_option maxRecDepth 100000 in
theorem zmc_311 : zMc 311 := zmc_of zck_L_law
theorem zmck_0 : ∀ i, 10 * 0 ≤ i → i < 10 * 0 + 10 → zMc i := zall20 (P := zMc) 0 zmc_0 zmc_1 zmc_2 zmc_3 zmc_4 zmc_5 zmc_6 zmc_7 zmc_8 zmc_9
theorem zmck_1 : ∀ i, 10 * 1 ≤ i → i < 10 * 1 + 10 → zMc i := zall20 (P := zMc) 10 zmc_10 zmc_11 zmc_12 zmc_13 zmc_14 zmc_15 zmc_16 zmc_17 zmc_18 zmc_19
theorem zmck_2 : ∀ i, 10 * 2 ≤ i → i < 10 * 2 + 10 → zMc i := zall20 (P := zMc) 20 zmc_20 zmc_21 zmc_22 zmc_23 zmc_24 zmc_25 zmc_26 zmc_27 zmc_28 zmc_29
theorem zmck_3 : ∀ i, 10 * 3 ≤ i → i < 10 * 3 + 10 → zMc i := zall20 (P := zMc) 30 zmc_30 zmc_31 zmc_32 zmc_33 zmc_34 zmc_35 zmc_36 zmc_37 zmc_38 zmc_39
theorem zmck_4 : ∀ i, 10 * 4 ≤ i → i < 10 * 4 + 10 → zMc i := zall20 (P := zMc) 40 zmc_40 zmc_41 zmc_42 zmc_43 zmc_44 zmc_45 zmc_46 zmc_47 zmc_48 zmc_49
theorem zmck_5 : ∀ i, 10 * 5 ≤ i → i < 10 * 5 + 10 → zMc i := zall20 (P := zMc) 50 zmc_50 zmc_51 zmc_52 zmc_53 zmc_54 zmc_55 zmc_56 zmc_57 zmc_58 zmc_59
theorem zmck_6 : ∀ i, 10 * 6 ≤ i → i < 10 * 6 + 10 → zMc i := zall20 (P := zMc) 60 zmc_60 zmc_61 zmc_62 zmc_63 zmc_64 zmc_65 zmc_66 zmc_67 zmc_68 zmc_69
theorem zmck_7 : ∀ i, 10 * 7 ≤ i → i < 10 * 7 + 10 → zMc i := zall20 (P := zMc) 70 zmc_70 zmc_71 zmc_72 zmc_73 zmc_74 zmc_75 zmc_76 zmc_77 zmc_78 zmc_79
theorem zmck_8 : ∀ i, 10 * 8 ≤ i → i < 10 * 8 + 10 → zMc i := zall20 (P := zMc) 80 zmc_80 zmc_81 zmc_82 zmc_83 zmc_84 zmc_85 zmc_86 zmc_87 zmc_88 zmc_89
theorem zmck_9 : ∀ i, 10 * 9 ≤ i → i < 10 * 9 + 10 → zMc i := zall20 (P := zMc) 90 zmc_90 zmc_91 zmc_92 zmc_93 zmc_94 zmc_95 zmc_96 zmc_97 zmc_98 zmc_99
theorem zmck_10 : ∀ i, 10 * 10 ≤ i → i < 10 * 10 + 10 → zMc i := zall20 (P := zMc) 100 zmc_100 zmc_101 zmc_102 zmc_103 zmc_104 zmc_105 zmc_106 zmc_107 zmc_108 zmc_109
theorem zmck_11 : ∀ i, 10 * 11 ≤ i → i < 10 * 11 + 10 → zMc i := zall20 (P := zMc) 110 zmc_110 zmc_111 zmc_112 zmc_113 zmc_114 zmc_115 zmc_116 zmc_117 zmc_118 zmc_119
